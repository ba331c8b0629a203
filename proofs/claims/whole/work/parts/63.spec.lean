section sp63
variable {x : Nat} {M : mj_M} {Q : Option mj_V → mj_G → mj_M → Prop} {d : Nat}
theorem g_seen {j : Int} (h : 0 ≤ j ∧ j < 16) : (SGx x).2.2.2 135 j.toNat = 136 + j.toNat := by
  have : ∀ k : Nat, k < 16 → (SGx x).2.2.2 135 k = 136 + k := by
    intro k hk
    match k, hk with
    | 0, _ => rfl
    | 1, _ => rfl
    | 2, _ => rfl
    | 3, _ => rfl
    | 4, _ => rfl
    | 5, _ => rfl
    | 6, _ => rfl
    | 7, _ => rfl
    | 8, _ => rfl
    | 9, _ => rfl
    | 10, _ => rfl
    | 11, _ => rfl
    | 12, _ => rfl
    | 13, _ => rfl
    | 14, _ => rfl
    | 15, _ => rfl
    | n + 16, h => exact absurd h (by omega)
  exact this _ (by omega)
theorem g_seenT {j : Nat} (hk : j < 16) : mj_ty (SGx x) .int (136 + j) = some 180 := by
  match j, hk with
  | 0, _ => rfl
  | 1, _ => rfl
  | 2, _ => rfl
  | 3, _ => rfl
  | 4, _ => rfl
  | 5, _ => rfl
  | 6, _ => rfl
  | 7, _ => rfl
  | 8, _ => rfl
  | 9, _ => rfl
  | 10, _ => rfl
  | 11, _ => rfl
  | 12, _ => rfl
  | 13, _ => rfl
  | 14, _ => rfl
  | 15, _ => rfl
  | n + 16, h => exact absurd h (by omega)
theorem g_seenA {j : Nat} (hk : j < 16) : mj_ai (SGx x) M (136 + j) = some 180 := by
  match j, hk with
  | 0, _ => rfl
  | 1, _ => rfl
  | 2, _ => rfl
  | 3, _ => rfl
  | 4, _ => rfl
  | 5, _ => rfl
  | 6, _ => rfl
  | 7, _ => rfl
  | 8, _ => rfl
  | 9, _ => rfl
  | 10, _ => rfl
  | 11, _ => rfl
  | 12, _ => rfl
  | 13, _ => rfl
  | 14, _ => rfl
  | 15, _ => rfl
  | n + 16, h => exact absurd h (by omega)
def q_es (M : mj_M) (r : Int) : Nat → Nat → Int → Int
  | 0, _, b => b
  | n + 1, t, b => q_es M r n (t + 1) (if q_ta M (M 23 r.toNat) (t : Int) = -1 then mj_or b (mj_shl 1 (t : Int)) else b)
def q_esV (M : mj_M) (r : Int) : Int := if M 24 r.toNat = 4 then 0 else q_es M r 10 0 0
theorem l_121 {r : Int} (hr : 0 ≤ r ∧ r < 8) (h4 : M 24 r.toNat ≠ 4) (n : Nat) : ∀ (t : Nat) (b : Int), t + n = 10 → mj_Rn (d + 2) 121 4 [.inr (.inl 134), .inl r, .inl b, .inl (t : Int)] [] (SGx x) M Q = Q (some (.inl (q_es M r n t b))) (SGx x) M := by
  induction n with
  | zero =>
    intro t b h
    rw [i_121_4, q_es]
    simp (disch := omega) only [i_121_0, i_121_1, i_121_2, i_121_3, i_121_5, i_121_7, i_121_10, i_121_11, i_121_14, i_121_17, i_121_20, i_121_21, i_121_22, i_121_23, i_121_26, i_121_27, i_121_30, i_121_31, i_121_34, i_121_37, i_121_40, i_121_41, i_121_42, i_121_43, i_121_46, i_121_47, i_121_50, i_121_51, i_121_52, i_121_53, i_121_54, i_121_55, i_121_56, i_121_59, i_121_62, i_121_63, g_o134, g_r134_0, g_r134_1, g_r134_2, g_r134_3, g_t135, g_o1, g_r1_0, g_r1_1, g_r1_2, g_r1_3, g_r1_4, g_r1_5, g_a42, g_t42, g_a43, g_t43, g_o22, g_r22_0, g_r22_1, g_r22_2, g_r22_3, g_r22_4, g_r22_5, g_r22_6, g_r22_7, g_r22_8, g_r22_9, g_r22_10, g_r22_11, g_r22_12, g_a23, g_t23, g_a24, g_t24, g_a25, g_t25, g_a26, g_t26, g_a27, g_t27, g_a28, g_t28, g_a29, g_t29, g_a30, g_t30, g_a31, g_t31, g_a32, g_t32, g_a33, g_t33, g_a34, g_t34, g_a35, g_t35, exists_eq_left', Option.some.injEq, exists_eq_left, ne_eq, List.length_nil, List.length_cons, Option.toList_some, Option.toList_none, List.cons_append, List.nil_append, mj_wt_nil, mj_wt_i, mj_wt_r, mj_wt_l, true_and, and_true, false_and, and_false, true_implies, false_implies, implies_true, not_true_eq_false, not_false_eq_true, and_self, Int.reduceEq, Nat.reduceEqDiff, ↓reduceIte, mj_w_id2, e_24, h4, Int.toNat_natCast]
    grind
  | succ n ih =>
    intro t b h
    have i1 := ih (t + 1)
    push_cast at i1
    rw [i_121_4, q_es]
    clear ih
    by_cases hta : q_ta M (M 23 r.toNat) (t : Int) = -1
    · simp (disch := omega) only [i_121_0, i_121_1, i_121_2, i_121_3, i_121_5, i_121_7, i_121_10, i_121_11, i_121_14, i_121_17, i_121_20, i_121_21, i_121_22, i_121_23, i_121_26, i_121_27, i_121_30, i_121_31, i_121_34, i_121_37, i_121_40, i_121_41, i_121_42, i_121_43, i_121_46, i_121_47, i_121_50, i_121_51, i_121_52, i_121_53, i_121_54, i_121_55, i_121_56, i_121_59, i_121_62, i_121_63, g_o134, g_r134_0, g_r134_1, g_r134_2, g_r134_3, g_t135, g_o1, g_r1_0, g_r1_1, g_r1_2, g_r1_3, g_r1_4, g_r1_5, g_a42, g_t42, g_a43, g_t43, g_o22, g_r22_0, g_r22_1, g_r22_2, g_r22_3, g_r22_4, g_r22_5, g_r22_6, g_r22_7, g_r22_8, g_r22_9, g_r22_10, g_r22_11, g_r22_12, g_a23, g_t23, g_a24, g_t24, g_a25, g_t25, g_a26, g_t26, g_a27, g_t27, g_a28, g_t28, g_a29, g_t29, g_a30, g_t30, g_a31, g_t31, g_a32, g_t32, g_a33, g_t33, g_a34, g_t34, g_a35, g_t35, exists_eq_left', Option.some.injEq, exists_eq_left, ne_eq, List.length_nil, List.length_cons, Option.toList_some, Option.toList_none, List.cons_append, List.nil_append, mj_wt_nil, mj_wt_i, mj_wt_r, mj_wt_l, true_and, and_true, false_and, and_false, true_implies, false_implies, implies_true, not_true_eq_false, not_false_eq_true, and_self, Int.reduceEq, Nat.reduceEqDiff, ↓reduceIte, mj_w_id2, e_24, hta, h4, Int.toNat_natCast]
      grind [mj_w]
    · simp (disch := omega) only [i_121_0, i_121_1, i_121_2, i_121_3, i_121_5, i_121_7, i_121_10, i_121_11, i_121_14, i_121_17, i_121_20, i_121_21, i_121_22, i_121_23, i_121_26, i_121_27, i_121_30, i_121_31, i_121_34, i_121_37, i_121_40, i_121_41, i_121_42, i_121_43, i_121_46, i_121_47, i_121_50, i_121_51, i_121_52, i_121_53, i_121_54, i_121_55, i_121_56, i_121_59, i_121_62, i_121_63, g_o134, g_r134_0, g_r134_1, g_r134_2, g_r134_3, g_t135, g_o1, g_r1_0, g_r1_1, g_r1_2, g_r1_3, g_r1_4, g_r1_5, g_a42, g_t42, g_a43, g_t43, g_o22, g_r22_0, g_r22_1, g_r22_2, g_r22_3, g_r22_4, g_r22_5, g_r22_6, g_r22_7, g_r22_8, g_r22_9, g_r22_10, g_r22_11, g_r22_12, g_a23, g_t23, g_a24, g_t24, g_a25, g_t25, g_a26, g_t26, g_a27, g_t27, g_a28, g_t28, g_a29, g_t29, g_a30, g_t30, g_a31, g_t31, g_a32, g_t32, g_a33, g_t33, g_a34, g_t34, g_a35, g_t35, exists_eq_left', Option.some.injEq, exists_eq_left, ne_eq, List.length_nil, List.length_cons, Option.toList_some, Option.toList_none, List.cons_append, List.nil_append, mj_wt_nil, mj_wt_i, mj_wt_r, mj_wt_l, true_and, and_true, false_and, and_false, true_implies, false_implies, implies_true, not_true_eq_false, not_false_eq_true, and_self, Int.reduceEq, Nat.reduceEqDiff, ↓reduceIte, mj_w_id2, e_24, hta, h4, Int.toNat_natCast]
      grind [mj_w]
theorem e_121 {r : Int} (hr : 0 ≤ r ∧ r < 8) : mj_Rn (d + 2) 121 0 [.inr (.inl 134), .inl r, .inr (.inr 0), .inr (.inr 0)] [] (SGx x) M Q = Q (some (.inl (q_esV M r))) (SGx x) M := by
  unfold q_esV
  by_cases h4 : M 24 r.toNat = 4
  · simp (disch := omega) only [i_121_0, i_121_1, i_121_2, i_121_3, i_121_5, i_121_7, i_121_10, i_121_11, i_121_14, i_121_17, i_121_20, i_121_21, i_121_22, i_121_23, i_121_26, i_121_27, i_121_30, i_121_31, i_121_34, i_121_37, i_121_40, i_121_41, i_121_42, i_121_43, i_121_46, i_121_47, i_121_50, i_121_51, i_121_52, i_121_53, i_121_54, i_121_55, i_121_56, i_121_59, i_121_62, i_121_63, g_o134, g_r134_0, g_r134_1, g_r134_2, g_r134_3, g_t135, g_o1, g_r1_0, g_r1_1, g_r1_2, g_r1_3, g_r1_4, g_r1_5, g_a42, g_t42, g_a43, g_t43, g_o22, g_r22_0, g_r22_1, g_r22_2, g_r22_3, g_r22_4, g_r22_5, g_r22_6, g_r22_7, g_r22_8, g_r22_9, g_r22_10, g_r22_11, g_r22_12, g_a23, g_t23, g_a24, g_t24, g_a25, g_t25, g_a26, g_t26, g_a27, g_t27, g_a28, g_t28, g_a29, g_t29, g_a30, g_t30, g_a31, g_t31, g_a32, g_t32, g_a33, g_t33, g_a34, g_t34, g_a35, g_t35, exists_eq_left', Option.some.injEq, exists_eq_left, ne_eq, List.length_nil, List.length_cons, Option.toList_some, Option.toList_none, List.cons_append, List.nil_append, mj_wt_nil, mj_wt_i, mj_wt_r, mj_wt_l, true_and, and_true, false_and, and_false, true_implies, false_implies, implies_true, not_true_eq_false, not_false_eq_true, and_self, Int.reduceEq, Nat.reduceEqDiff, ↓reduceIte, mj_w_id2, i_121_4, h4]
    try grind
  · have h := l_121 (d := d) (x := x) (Q := Q) hr h4 10 0 0 rfl
    rw [if_neg h4, ← h, i_121_0, i_121_1, i_121_2, i_121_3]
    rfl
def q_nt (M : mj_M) (u : Int) (j : Nat) (a : Int) : mj_M :=
  let A := mj_up M (136 + j) a.toNat (mj_or (mj_shl (M 24 u.toNat) 10) (q_esV M u))
  let B := mj_up A (136 + j) (a + 1).toNat (A 25 u.toNat)
  mj_up B (136 + j) (a + 2).toNat (B 26 u.toNat)
theorem e_120 {u a : Int} {j : Nat} (hu : 0 ≤ u ∧ u < 8) (hj : j < 16) (ha : 0 ≤ a ∧ a < 178) : mj_Rn (d + 3) 120 0 [.inr (.inl 134), .inl u, .inr (.inl (136 + j)), .inl a] [] (SGx x) M Q = Q none (SGx x) (q_nt M u j a) := by
  unfold q_nt
  simp (disch := omega) only [i_120_0, i_120_1, i_120_2, i_120_3, i_120_6, i_120_9, i_120_12, i_120_13, i_120_14, i_120_16, i_120_17, i_120_18, i_120_19, i_120_22, i_120_23, i_120_24, i_120_25, i_120_26, i_120_27, i_120_28, i_120_29, i_120_32, i_120_35, i_120_38, i_120_39, i_120_40, i_120_41, i_120_42, i_120_43, i_120_44, i_120_45, i_120_46, i_120_49, i_120_52, i_120_55, i_120_56, i_120_57, i_120_58, g_o134, g_r134_0, g_r134_1, g_r134_2, g_r134_3, g_t135, g_o1, g_r1_0, g_r1_1, g_r1_2, g_r1_3, g_r1_4, g_r1_5, g_a42, g_t42, g_a43, g_t43, g_o22, g_r22_0, g_r22_1, g_r22_2, g_r22_3, g_r22_4, g_r22_5, g_r22_6, g_r22_7, g_r22_8, g_r22_9, g_r22_10, g_r22_11, g_r22_12, g_a23, g_t23, g_a24, g_t24, g_a25, g_t25, g_a26, g_t26, g_a27, g_t27, g_a28, g_t28, g_a29, g_t29, g_a30, g_t30, g_a31, g_t31, g_a32, g_t32, g_a33, g_t33, g_a34, g_t34, g_a35, g_t35, exists_eq_left', Option.some.injEq, exists_eq_left, ne_eq, List.length_nil, List.length_cons, Option.toList_some, Option.toList_none, List.cons_append, List.nil_append, mj_wt_nil, mj_wt_i, mj_wt_r, mj_wt_l, true_and, and_true, false_and, and_false, true_implies, false_implies, implies_true, not_true_eq_false, not_false_eq_true, and_self, Int.reduceEq, Nat.reduceEqDiff, ↓reduceIte, mj_w_id2, e_121 hu, g_seenT hj, g_seenA hj]
  try grind
def q_same (M : mj_M) (i j : Nat) : Nat → Nat → Int
  | 0, _ => 1
  | n + 1, t => if M (136 + i) t = M (136 + j) t then q_same M i j n (t + 1) else 0
def q_fig (M : mj_M) (j sz : Nat) : Nat → Nat → Int
  | 0, _ => 1
  | n + 1, i => if q_same M i j sz 0 = 1 then 0 else q_fig M j sz n (i + 1)
theorem q_same_01 {i j : Nat} : ∀ (n t : Nat), q_same M i j n t = 0 ∨ q_same M i j n t = 1 := by
  intro n
  induction n with
  | zero => intro t; exact Or.inr rfl
  | succ n ih => intro t; unfold q_same; split; exact ih (t + 1); exact Or.inl rfl
theorem l_122a {i j sz : Nat} (hi : i < 16) (hj : j < 16) (hs : sz ≤ 180) {R : Prop} (hk : ∀ v, mj_Rn d 122 65 [.inr (.inl 134), .inl (j : Int), .inl (sz : Int), .inl (i : Int), .inl 0, v] [] (SGx x) M Q = R) (n : Nat) :
    ∀ t : Nat, t + n = sz → mj_Rn d 122 13 [.inr (.inl 134), .inl (j : Int), .inl (sz : Int), .inl (i : Int), .inl 1, .inl (t : Int)] [] (SGx x) M Q = if q_same M i j n t = 1 then Q (some (.inl 0)) (SGx x) M else R := by
  have s1 := g_seen (x := x) (j := (i : Int)) (by omega)
  have s2 := g_seen (x := x) (j := (j : Int)) (by omega)
  simp only [Int.toNat_natCast] at s1 s2
  induction n with
  | zero =>
    intro t h
    rw [i_122_13, q_same]
    simp (disch := omega) only [i_122_0, i_122_1, i_122_3, i_122_4, i_122_7, i_122_8, i_122_10, i_122_11, i_122_15, i_122_16, i_122_19, i_122_21, i_122_24, i_122_25, i_122_28, i_122_29, i_122_30, i_122_32, i_122_33, i_122_34, i_122_37, i_122_38, i_122_39, i_122_41, i_122_42, i_122_45, i_122_46, i_122_49, i_122_50, i_122_52, i_122_55, i_122_58, i_122_60, i_122_63, i_122_64, i_122_65, i_122_68, i_122_71, i_122_72, g_o134, g_r134_0, g_r134_1, g_r134_2, g_r134_3, g_t135, exists_eq_left', Option.some.injEq, exists_eq_left, ne_eq, List.length_nil, List.length_cons, Option.toList_some, Option.toList_none, List.cons_append, List.nil_append, mj_wt_nil, mj_wt_i, mj_wt_r, mj_wt_l, true_and, and_true, false_and, and_false, true_implies, false_implies, implies_true, not_true_eq_false, not_false_eq_true, and_self, Int.reduceEq, Nat.reduceEqDiff, ↓reduceIte, mj_w_id2, Int.toNat_natCast, s1, s2]
    try grind
  | succ n ih =>
    intro t h
    have i1 := ih (t + 1) (by omega)
    push_cast at i1
    clear ih
    rw [i_122_13, q_same]
    by_cases hm : M (136 + i) t = M (136 + j) t
    · simp (disch := omega) only [i_122_0, i_122_1, i_122_3, i_122_4, i_122_7, i_122_8, i_122_10, i_122_11, i_122_15, i_122_16, i_122_19, i_122_21, i_122_24, i_122_25, i_122_28, i_122_29, i_122_30, i_122_32, i_122_33, i_122_34, i_122_37, i_122_38, i_122_39, i_122_41, i_122_42, i_122_45, i_122_46, i_122_49, i_122_50, i_122_52, i_122_55, i_122_58, i_122_60, i_122_63, i_122_64, i_122_65, i_122_68, i_122_71, i_122_72, g_o134, g_r134_0, g_r134_1, g_r134_2, g_r134_3, g_t135, exists_eq_left', Option.some.injEq, exists_eq_left, ne_eq, List.length_nil, List.length_cons, Option.toList_some, Option.toList_none, List.cons_append, List.nil_append, mj_wt_nil, mj_wt_i, mj_wt_r, mj_wt_l, true_and, and_true, false_and, and_false, true_implies, false_implies, implies_true, not_true_eq_false, not_false_eq_true, and_self, Int.reduceEq, Nat.reduceEqDiff, ↓reduceIte, mj_w_id2, Int.toNat_natCast, s1, s2, g_seenA hi, g_seenA hj, hm, i1]
      grind [mj_w]
    · have hk1 := hk (.inl ((t : Int) + 1))
      have hm2 : ¬ M (136 + j) t = M (136 + i) t := fun h => hm h.symm
      simp (disch := omega) only [i_122_0, i_122_1, i_122_3, i_122_4, i_122_7, i_122_8, i_122_10, i_122_11, i_122_15, i_122_16, i_122_19, i_122_21, i_122_24, i_122_25, i_122_28, i_122_29, i_122_30, i_122_32, i_122_33, i_122_34, i_122_37, i_122_38, i_122_39, i_122_41, i_122_42, i_122_45, i_122_46, i_122_49, i_122_50, i_122_52, i_122_55, i_122_58, i_122_60, i_122_63, i_122_64, i_122_68, i_122_71, i_122_72, g_o134, g_r134_0, g_r134_1, g_r134_2, g_r134_3, g_t135, exists_eq_left', Option.some.injEq, exists_eq_left, ne_eq, List.length_nil, List.length_cons, Option.toList_some, Option.toList_none, List.cons_append, List.nil_append, mj_wt_nil, mj_wt_i, mj_wt_r, mj_wt_l, true_and, and_true, false_and, and_false, true_implies, false_implies, implies_true, not_true_eq_false, not_false_eq_true, and_self, Int.reduceEq, Nat.reduceEqDiff, ↓reduceIte, mj_w_id2, Int.toNat_natCast, s1, s2, g_seenA hi, g_seenA hj, hm, hm2, hk1]
      rw [i_122_13]
      simp (disch := omega) only [i_122_0, i_122_1, i_122_3, i_122_4, i_122_7, i_122_8, i_122_10, i_122_11, i_122_15, i_122_16, i_122_19, i_122_21, i_122_24, i_122_25, i_122_28, i_122_29, i_122_30, i_122_32, i_122_33, i_122_34, i_122_37, i_122_38, i_122_39, i_122_41, i_122_42, i_122_45, i_122_46, i_122_49, i_122_50, i_122_52, i_122_55, i_122_58, i_122_60, i_122_63, i_122_64, i_122_68, i_122_71, i_122_72, g_o134, g_r134_0, g_r134_1, g_r134_2, g_r134_3, g_t135, exists_eq_left', Option.some.injEq, exists_eq_left, ne_eq, List.length_nil, List.length_cons, Option.toList_some, Option.toList_none, List.cons_append, List.nil_append, mj_wt_nil, mj_wt_i, mj_wt_r, mj_wt_l, true_and, and_true, false_and, and_false, true_implies, false_implies, implies_true, not_true_eq_false, not_false_eq_true, and_self, Int.reduceEq, Nat.reduceEqDiff, ↓reduceIte, mj_w_id2, Int.toNat_natCast, s1, s2, g_seenA hi, g_seenA hj, hm, hm2, hk1]
      grind [mj_w]
theorem l_122 {j sz : Nat} (hj : j < 16) (hs : sz ≤ 180) (n : Nat) :
    ∀ (i : Nat) (u v : mj_V), i + n = j → mj_Rn d 122 2 [.inr (.inl 134), .inl (j : Int), .inl (sz : Int), .inl (i : Int), u, v] [] (SGx x) M Q = Q (some (.inl (q_fig M j sz n i))) (SGx x) M := by
  induction n with
  | zero =>
    intro i u v h
    rw [i_122_2, q_fig]
    simp (disch := omega) only [i_122_0, i_122_1, i_122_3, i_122_4, i_122_7, i_122_8, i_122_10, i_122_11, i_122_15, i_122_16, i_122_19, i_122_21, i_122_24, i_122_25, i_122_28, i_122_29, i_122_30, i_122_32, i_122_33, i_122_34, i_122_37, i_122_38, i_122_39, i_122_41, i_122_42, i_122_45, i_122_46, i_122_49, i_122_50, i_122_52, i_122_55, i_122_58, i_122_60, i_122_63, i_122_64, i_122_65, i_122_68, i_122_71, i_122_72, g_o134, g_r134_0, g_r134_1, g_r134_2, g_r134_3, g_t135, exists_eq_left', Option.some.injEq, exists_eq_left, ne_eq, List.length_nil, List.length_cons, Option.toList_some, Option.toList_none, List.cons_append, List.nil_append, mj_wt_nil, mj_wt_i, mj_wt_r, mj_wt_l, true_and, and_true, false_and, and_false, true_implies, false_implies, implies_true, not_true_eq_false, not_false_eq_true, and_self, Int.reduceEq, Nat.reduceEqDiff, ↓reduceIte, mj_w_id2, Int.toNat_natCast]
    try grind
  | succ n ih =>
    intro i u v h
    have i1 : ∀ v, mj_Rn d 122 65 [.inr (.inl 134), .inl (j : Int), .inl (sz : Int), .inl (i : Int), .inl 0, v] [] (SGx x) M Q = Q (some (.inl (q_fig M j sz n (i + 1)))) (SGx x) M := by
      intro v
      rw [← ih (i + 1) (.inl 0) v (by omega)]
      simp (disch := omega) only [i_122_0, i_122_1, i_122_3, i_122_4, i_122_7, i_122_8, i_122_10, i_122_11, i_122_15, i_122_16, i_122_19, i_122_21, i_122_24, i_122_25, i_122_28, i_122_29, i_122_30, i_122_32, i_122_33, i_122_34, i_122_37, i_122_38, i_122_39, i_122_41, i_122_42, i_122_45, i_122_46, i_122_49, i_122_50, i_122_52, i_122_55, i_122_58, i_122_60, i_122_63, i_122_64, i_122_65, i_122_68, i_122_71, i_122_72, g_o134, g_r134_0, g_r134_1, g_r134_2, g_r134_3, g_t135, exists_eq_left', Option.some.injEq, exists_eq_left, ne_eq, List.length_nil, List.length_cons, Option.toList_some, Option.toList_none, List.cons_append, List.nil_append, mj_wt_nil, mj_wt_i, mj_wt_r, mj_wt_l, true_and, and_true, false_and, and_false, true_implies, false_implies, implies_true, not_true_eq_false, not_false_eq_true, and_self, Int.reduceEq, Nat.reduceEqDiff, ↓reduceIte, mj_w_id2, Int.toNat_natCast]
      push_cast
      grind [mj_w]
    have h2 := l_122a (d := d) (Q := Q) (i := i) (by omega) hj hs i1 sz 0 (by omega)
    push_cast at h2
    clear ih i1
    rw [i_122_2, q_fig]
    rcases q_same_01 (M := M) (i := i) (j := j) sz 0 with hm | hm
    · simp (disch := omega) only [i_122_0, i_122_1, i_122_3, i_122_4, i_122_7, i_122_8, i_122_10, i_122_11, i_122_15, i_122_16, i_122_19, i_122_21, i_122_24, i_122_25, i_122_28, i_122_29, i_122_30, i_122_32, i_122_33, i_122_34, i_122_37, i_122_38, i_122_39, i_122_41, i_122_42, i_122_45, i_122_46, i_122_49, i_122_50, i_122_52, i_122_55, i_122_58, i_122_60, i_122_63, i_122_64, i_122_68, i_122_71, i_122_72, g_o134, g_r134_0, g_r134_1, g_r134_2, g_r134_3, g_t135, exists_eq_left', Option.some.injEq, exists_eq_left, ne_eq, List.length_nil, List.length_cons, Option.toList_some, Option.toList_none, List.cons_append, List.nil_append, mj_wt_nil, mj_wt_i, mj_wt_r, mj_wt_l, true_and, and_true, false_and, and_false, true_implies, false_implies, implies_true, not_true_eq_false, not_false_eq_true, and_self, Int.reduceEq, Nat.reduceEqDiff, ↓reduceIte, mj_w_id2, Int.toNat_natCast, h2, hm, Int.cast_ofNat_Int]
      grind
    · simp (disch := omega) only [i_122_0, i_122_1, i_122_3, i_122_4, i_122_7, i_122_8, i_122_10, i_122_11, i_122_15, i_122_16, i_122_19, i_122_21, i_122_24, i_122_25, i_122_28, i_122_29, i_122_30, i_122_32, i_122_33, i_122_34, i_122_37, i_122_38, i_122_39, i_122_41, i_122_42, i_122_45, i_122_46, i_122_49, i_122_50, i_122_52, i_122_55, i_122_58, i_122_60, i_122_63, i_122_64, i_122_68, i_122_71, i_122_72, g_o134, g_r134_0, g_r134_1, g_r134_2, g_r134_3, g_t135, exists_eq_left', Option.some.injEq, exists_eq_left, ne_eq, List.length_nil, List.length_cons, Option.toList_some, Option.toList_none, List.cons_append, List.nil_append, mj_wt_nil, mj_wt_i, mj_wt_r, mj_wt_l, true_and, and_true, false_and, and_false, true_implies, false_implies, implies_true, not_true_eq_false, not_false_eq_true, and_self, Int.reduceEq, Nat.reduceEqDiff, ↓reduceIte, mj_w_id2, Int.toNat_natCast, h2, hm, Int.cast_ofNat_Int]
      grind
theorem e_122 {j sz : Nat} (hj : j < 16) (hs : sz ≤ 180) : mj_Rn d 122 0 [.inr (.inl 134), .inl (j : Int), .inl (sz : Int), .inr (.inr 0), .inr (.inr 0), .inr (.inr 0)] [] (SGx x) M Q = Q (some (.inl (q_fig M j sz j 0))) (SGx x) M := by
  rw [i_122_0, i_122_1]
  exact l_122 hj hs j 0 _ _ (by omega)
end sp63
