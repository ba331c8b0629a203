section sp44
variable {x : Nat} {M : mj_M} {Q : Option mj_V → mj_G → mj_M → Prop} {d : Nat}
def q_rt (M : mj_M) (r : Int) : Int := if 0 ≤ r ∧ r < M 22 13 then 1 else 0
theorem e_80 {r : Int}  : mj_Rn d 80 0 [.inr (.inl 22), .inl r] [] (SGx x) M Q = Q (some (.inl (q_rt M r))) (SGx x) M := by
  simp (disch := omega) only [i_80_0, i_80_1, i_80_4, i_80_5, i_80_6, i_80_9, i_80_12, i_80_13, i_80_16, i_80_17, g_o22, g_r22_0, g_r22_1, g_r22_2, g_r22_3, g_r22_4, g_r22_5, g_r22_6, g_r22_7, g_r22_8, g_r22_9, g_r22_10, g_r22_11, g_r22_12, g_a23, g_t23, g_a24, g_t24, g_a25, g_t25, g_a26, g_t26, g_a27, g_t27, g_a28, g_t28, g_a29, g_t29, g_a30, g_t30, g_a31, g_t31, g_a32, g_t32, g_a33, g_t33, g_a34, g_t34, g_a35, g_t35, exists_eq_left', Option.some.injEq, exists_eq_left, ne_eq, List.length_nil, List.length_cons, Option.toList_some, Option.toList_none, List.cons_append, List.nil_append, mj_wt_nil, mj_wt_i, mj_wt_r, mj_wt_l, true_and, and_true, false_and, and_false, true_implies, false_implies, implies_true, not_true_eq_false, not_false_eq_true, and_self, Int.reduceEq, Nat.reduceEqDiff, ↓reduceIte, mj_w_id2]
  grind (splits := 40) [q_rt, mj_w]
def q_rdy (M : mj_M) (r : Int) : Int := if 0 ≤ r ∧ r < M 22 13 ∧ M 24 r.toNat = 0 then 1 else 0
theorem e_96 {r : Int} (w : q_wr M) : mj_Rn (d + 1) 96 0 [.inr (.inl 22), .inl r] [] (SGx x) M Q = Q (some (.inl (q_rdy M r))) (SGx x) M := by
  have := q_w22_13 w
  simp (disch := omega) only [i_96_0, i_96_1, i_96_2, i_96_5, i_96_8, i_96_9, i_96_12, i_96_13, i_96_14, i_96_17, i_96_18, i_96_21, i_96_22, g_o22, g_r22_0, g_r22_1, g_r22_2, g_r22_3, g_r22_4, g_r22_5, g_r22_6, g_r22_7, g_r22_8, g_r22_9, g_r22_10, g_r22_11, g_r22_12, g_a23, g_t23, g_a24, g_t24, g_a25, g_t25, g_a26, g_t26, g_a27, g_t27, g_a28, g_t28, g_a29, g_t29, g_a30, g_t30, g_a31, g_t31, g_a32, g_t32, g_a33, g_t33, g_a34, g_t34, g_a35, g_t35, exists_eq_left', Option.some.injEq, exists_eq_left, ne_eq, List.length_nil, List.length_cons, Option.toList_some, Option.toList_none, List.cons_append, List.nil_append, mj_wt_nil, mj_wt_i, mj_wt_r, mj_wt_l, true_and, and_true, false_and, and_false, true_implies, false_implies, implies_true, not_true_eq_false, not_false_eq_true, and_self, Int.reduceEq, Nat.reduceEqDiff, ↓reduceIte, mj_w_id2, e_80]
  grind (splits := 40) [q_rdy, q_rt, mj_w]
def q_lw (M : mj_M) (g : Int) (n t : Nat) : Int := q_fst (fun r => decide (M 24 r = 1 ∧ M 28 r = g)) n t
theorem q_lw_0 {g : Int} {t : Nat} : q_lw M g 0 t = -1 := rfl
theorem q_lw_s {g : Int} {n t : Nat} : q_lw M g (n + 1) t = if M 24 t = 1 ∧ M 28 t = g then (t : Int) else q_lw M g n (t + 1) := by
  unfold q_lw; rw [q_fst]; simp only [decide_eq_true_eq]
theorem l_104 (w : q_wr M) {g : Int} (n : Nat) : ∀ (t : Nat), (t : Int) + n = M 22 13 → mj_Rn d 104 2 [.inr (.inl 22), .inl g, .inl (t : Int)] [] (SGx x) M Q = Q (some (.inl (q_lw M g n t))) (SGx x) M := by
  have hs := q_w22_13 w
  induction n with
  | zero =>
    intro t h
    rw [i_104_2]
    simp (disch := omega) only [i_104_0, i_104_1, i_104_3, i_104_4, i_104_7, i_104_10, i_104_11, i_104_14, i_104_15, i_104_16, i_104_17, i_104_20, i_104_21, i_104_24, i_104_25, i_104_26, i_104_27, i_104_30, i_104_31, i_104_32, i_104_35, i_104_38, i_104_39, g_o22, g_r22_0, g_r22_1, g_r22_2, g_r22_3, g_r22_4, g_r22_5, g_r22_6, g_r22_7, g_r22_8, g_r22_9, g_r22_10, g_r22_11, g_r22_12, g_a23, g_t23, g_a24, g_t24, g_a25, g_t25, g_a26, g_t26, g_a27, g_t27, g_a28, g_t28, g_a29, g_t29, g_a30, g_t30, g_a31, g_t31, g_a32, g_t32, g_a33, g_t33, g_a34, g_t34, g_a35, g_t35, exists_eq_left', Option.some.injEq, exists_eq_left, ne_eq, List.length_nil, List.length_cons, Option.toList_some, Option.toList_none, List.cons_append, List.nil_append, mj_wt_nil, mj_wt_i, mj_wt_r, mj_wt_l, true_and, and_true, false_and, and_false, true_implies, false_implies, implies_true, not_true_eq_false, not_false_eq_true, and_self, Int.reduceEq, Nat.reduceEqDiff, ↓reduceIte, mj_w_id2, Int.toNat_natCast]
    grind [q_lw_0]
  | succ n ih =>
    intro t h
    have hih := ih (t + 1) (by omega)
    push_cast at hih
    rw [i_104_2]
    simp (disch := omega) only [i_104_0, i_104_1, i_104_3, i_104_4, i_104_7, i_104_10, i_104_11, i_104_14, i_104_15, i_104_16, i_104_17, i_104_20, i_104_21, i_104_24, i_104_25, i_104_26, i_104_27, i_104_30, i_104_31, i_104_32, i_104_35, i_104_38, i_104_39, g_o22, g_r22_0, g_r22_1, g_r22_2, g_r22_3, g_r22_4, g_r22_5, g_r22_6, g_r22_7, g_r22_8, g_r22_9, g_r22_10, g_r22_11, g_r22_12, g_a23, g_t23, g_a24, g_t24, g_a25, g_t25, g_a26, g_t26, g_a27, g_t27, g_a28, g_t28, g_a29, g_t29, g_a30, g_t30, g_a31, g_t31, g_a32, g_t32, g_a33, g_t33, g_a34, g_t34, g_a35, g_t35, exists_eq_left', Option.some.injEq, exists_eq_left, ne_eq, List.length_nil, List.length_cons, Option.toList_some, Option.toList_none, List.cons_append, List.nil_append, mj_wt_nil, mj_wt_i, mj_wt_r, mj_wt_l, true_and, and_true, false_and, and_false, true_implies, false_implies, implies_true, not_true_eq_false, not_false_eq_true, and_self, Int.reduceEq, Nat.reduceEqDiff, ↓reduceIte, mj_w_id2, Int.toNat_natCast]
    rw [q_lw_s]
    clear ih
    grind [mj_w]
def q_leastW (M : mj_M) (g : Int) : Int := q_lw M g (M 22 13).toNat 0
theorem e_104 (w : q_wr M) {g : Int} : mj_Rn d 104 0 [.inr (.inl 22), .inl g, .inr (.inr 0)] [] (SGx x) M Q = Q (some (.inl (q_leastW M g))) (SGx x) M := by
  have hs := q_w22_13 w
  have h := l_104 (d := d) (x := x) (Q := Q) w (g := g) (M 22 13).toNat 0 (by omega)
  rw [i_104_0, i_104_1]; exact h
theorem q_leastW_in {g : Int} (w : q_wr M) : q_leastW M g = -1 ∨ (0 ≤ q_leastW M g ∧ q_leastW M g < M 22 13 ∧ M 24 (q_leastW M g).toNat = 1 ∧ M 28 (q_leastW M g).toNat = g) := by
  have hs := q_w22_13 w
  have h := q_fst_in (p := fun r => decide (M 24 r = 1 ∧ M 28 r = g)) (M 22 13).toNat 0
  unfold q_leastW q_lw
  rcases h with h | ⟨h1, h2, h3⟩
  · exact Or.inl h
  · exact Or.inr ⟨by omega, by omega, by simpa using h3⟩
def q_fc (M : mj_M) (g : Int) : Nat → Nat → Int → Int
  | 0, _, f => f
  | n + 1, t, f => q_fc M g n (t + 1) (if M 24 t = 2 ∧ M 28 t = g ∧ M 29 t = -1 ∧ (f = -1 ∨ M 34 t < M 34 f.toNat) then (t : Int) else f)
theorem l_108 (w : q_wr M) {g : Int} (n : Nat) : ∀ (t : Nat) (f : Int), (t : Int) + n = M 22 13 → -1 ≤ f → f < 8 → mj_Rn d 108 4 [.inr (.inl 22), .inl g, .inl f, .inl (t : Int)] [] (SGx x) M Q = Q (some (.inl (q_fc M g n t f))) (SGx x) M := by
  have hs := q_w22_13 w
  induction n with
  | zero =>
    intro t f h h1 h2
    rw [i_108_4]
    simp (disch := omega) only [i_108_0, i_108_1, i_108_2, i_108_3, i_108_5, i_108_6, i_108_9, i_108_12, i_108_13, i_108_16, i_108_17, i_108_18, i_108_19, i_108_22, i_108_23, i_108_26, i_108_27, i_108_28, i_108_29, i_108_32, i_108_33, i_108_36, i_108_37, i_108_38, i_108_39, i_108_42, i_108_43, i_108_44, i_108_47, i_108_48, i_108_51, i_108_52, i_108_53, i_108_54, i_108_57, i_108_58, i_108_59, i_108_62, i_108_63, i_108_64, i_108_67, i_108_70, i_108_71, g_o22, g_r22_0, g_r22_1, g_r22_2, g_r22_3, g_r22_4, g_r22_5, g_r22_6, g_r22_7, g_r22_8, g_r22_9, g_r22_10, g_r22_11, g_r22_12, g_a23, g_t23, g_a24, g_t24, g_a25, g_t25, g_a26, g_t26, g_a27, g_t27, g_a28, g_t28, g_a29, g_t29, g_a30, g_t30, g_a31, g_t31, g_a32, g_t32, g_a33, g_t33, g_a34, g_t34, g_a35, g_t35, exists_eq_left', Option.some.injEq, exists_eq_left, ne_eq, List.length_nil, List.length_cons, Option.toList_some, Option.toList_none, List.cons_append, List.nil_append, mj_wt_nil, mj_wt_i, mj_wt_r, mj_wt_l, true_and, and_true, false_and, and_false, true_implies, false_implies, implies_true, not_true_eq_false, not_false_eq_true, and_self, Int.reduceEq, Nat.reduceEqDiff, ↓reduceIte, mj_w_id2, Int.toNat_natCast]
    grind [q_fc]
  | succ n ih =>
    intro t f h h1 h2
    have hih := ih (t + 1) f (by omega) h1 h2
    have hih2 := ih (t + 1) t (by omega) (by omega) (by omega)
    push_cast at hih hih2
    rw [i_108_4]
    simp (disch := omega) only [i_108_0, i_108_1, i_108_2, i_108_3, i_108_5, i_108_6, i_108_9, i_108_12, i_108_13, i_108_16, i_108_17, i_108_18, i_108_19, i_108_22, i_108_23, i_108_26, i_108_27, i_108_28, i_108_29, i_108_32, i_108_33, i_108_36, i_108_37, i_108_38, i_108_39, i_108_42, i_108_43, i_108_44, i_108_47, i_108_48, i_108_51, i_108_52, i_108_53, i_108_54, i_108_57, i_108_58, i_108_59, i_108_62, i_108_63, i_108_64, i_108_67, i_108_70, i_108_71, g_o22, g_r22_0, g_r22_1, g_r22_2, g_r22_3, g_r22_4, g_r22_5, g_r22_6, g_r22_7, g_r22_8, g_r22_9, g_r22_10, g_r22_11, g_r22_12, g_a23, g_t23, g_a24, g_t24, g_a25, g_t25, g_a26, g_t26, g_a27, g_t27, g_a28, g_t28, g_a29, g_t29, g_a30, g_t30, g_a31, g_t31, g_a32, g_t32, g_a33, g_t33, g_a34, g_t34, g_a35, g_t35, exists_eq_left', Option.some.injEq, exists_eq_left, ne_eq, List.length_nil, List.length_cons, Option.toList_some, Option.toList_none, List.cons_append, List.nil_append, mj_wt_nil, mj_wt_i, mj_wt_r, mj_wt_l, true_and, and_true, false_and, and_false, true_implies, false_implies, implies_true, not_true_eq_false, not_false_eq_true, and_self, Int.reduceEq, Nat.reduceEqDiff, ↓reduceIte, mj_w_id2, Int.toNat_natCast]
    unfold q_fc
    clear ih
    grind (splits := 40) [mj_w]
def q_firstC (M : mj_M) (g : Int) : Int := q_fc M g (M 22 13).toNat 0 (-1)
theorem e_108 (w : q_wr M) {g : Int} : mj_Rn d 108 0 [.inr (.inl 22), .inl g, .inr (.inr 0), .inr (.inr 0)] [] (SGx x) M Q = Q (some (.inl (q_firstC M g))) (SGx x) M := by
  have hs := q_w22_13 w
  have h := l_108 (d := d) (x := x) (Q := Q) w (g := g) (M 22 13).toNat 0 (-1) (by omega) (by omega) (by omega)
  rw [i_108_0, i_108_1, i_108_2, i_108_3]; exact h
theorem q_fc_in {g : Int} : ∀ (n t : Nat) (f : Int), q_fc M g n t f = f ∨ ((t : Int) ≤ q_fc M g n t f ∧ q_fc M g n t f < t + n ∧ M 24 (q_fc M g n t f).toNat = 2 ∧ M 28 (q_fc M g n t f).toNat = g ∧ M 29 (q_fc M g n t f).toNat = -1) := by
  intro n
  induction n with
  | zero => intro t f; exact Or.inl rfl
  | succ n ih =>
    intro t f
    unfold q_fc
    split
    · have := ih (t + 1) t
      rcases this with h | ⟨h1, h2, h3⟩
      · rw [h]; exact Or.inr ⟨by omega, by omega, by simp_all⟩
      · exact Or.inr ⟨by omega, by omega, h3⟩
    · have := ih (t + 1) f
      rcases this with h | ⟨h1, h2, h3⟩
      · exact Or.inl h
      · exact Or.inr ⟨by omega, by omega, h3⟩
theorem q_firstC_in {g : Int} (w : q_wr M) : q_firstC M g = -1 ∨ (0 ≤ q_firstC M g ∧ q_firstC M g < M 22 13 ∧ M 24 (q_firstC M g).toNat = 2 ∧ M 28 (q_firstC M g).toNat = g ∧ M 29 (q_firstC M g).toNat = -1) := by
  have hs := q_w22_13 w
  have h := q_fc_in (M := M) (g := g) (M 22 13).toNat 0 (-1)
  unfold q_firstC
  rcases h with h | ⟨h1, h2, h3⟩
  · exact Or.inl h
  · exact Or.inr ⟨by omega, by omega, h3⟩
def f_54 (b : Int) (t : Nat) (M : mj_M) : mj_M := if M 23 t = b ∧ M 24 t ≠ 4 then q_end M t 4 else M
theorem f_54_w {b : Int} {t : Nat} (w : q_wr M) : q_wr (f_54 b t M) := by
  unfold f_54; split
  · exact q_end_w w
  · exact w
theorem q_end_22 {r s : Int} : q_end M r s 22 = M 22 := by
  have h1 : ∀ r a, q_wake M r a 22 = M 22 := fun r a => by unfold q_wake; simp only [mj_up_ne (show (22 : Nat) ≠ 24 by decide), mj_up_ne (show (22 : Nat) ≠ 25 by decide), mj_up_ne (show (22 : Nat) ≠ 26 by decide), mj_up_ne (show (22 : Nat) ≠ 28 by decide), mj_up_ne (show (22 : Nat) ≠ 29 by decide)]
  have h2 : q_end1 M r 22 = M 22 := by
    unfold q_end1; split
    · rfl
    · rw [mj_up_ne (by decide), h1]
  have h3 : q_end2 (q_end1 M r) r 22 = M 22 := by
    unfold q_end2; split
    · exact h2
    · rw [mj_up_ne (by decide), mj_up_ne (by decide), h2]
  unfold q_end
  rw [mj_up_ne (by decide), mj_up_ne (by decide), h3]
theorem f_54_22 {b : Int} {t : Nat} : f_54 b t M 22 = M 22 := by
  unfold f_54; split
  · exact q_end_22
  · rfl
theorem l_54 {N : Nat} {b : Int}  : ∀ (n t : Nat) (M : mj_M), t + n = N → (q_wr M ∧ M 22 13 = (N : Int)) → mj_Rn (d + 2) 54 2 [.inr (.inl 22), .inl b, .inl (t : Int)] [] (SGx x) M Q = Q none (SGx x) ((q_for (f_54 b) n t M)) := by
  refine q_for_rule (N := N) (F := (f_54 b)) (P := fun t M => q_wr M ∧ M 22 13 = (N : Int)) (H := fun t M => mj_Rn (d + 2) 54 2 [.inr (.inl 22), .inl b, .inl (t : Int)] [] (SGx x) M Q) (E := fun M => Q none (SGx x) (M)) ?_ ?_
  · intro t M ht hP
    refine ⟨?_, ?_⟩
    · exact ⟨f_54_w hP.1, by rw [f_54_22]; exact hP.2⟩
    · have h1t : ((t + 1 : Nat) : Int) = (t : Int) + 1 := by push_cast; rfl
      have htt : (t : Int) < N := by omega
      have hs := q_w22_13 hP.1
      have h8 : (t : Int) < 8 := by omega
      simp only [h1t]
      rw [i_54_2]
      simp (disch := omega) only [i_54_0, i_54_1, i_54_3, i_54_4, i_54_7, i_54_10, i_54_11, i_54_14, i_54_15, i_54_16, i_54_17, i_54_20, i_54_21, i_54_24, i_54_25, i_54_26, i_54_27, i_54_30, i_54_31, i_54_32, i_54_33, i_54_36, i_54_39, i_54_42, g_o22, g_r22_0, g_r22_1, g_r22_2, g_r22_3, g_r22_4, g_r22_5, g_r22_6, g_r22_7, g_r22_8, g_r22_9, g_r22_10, g_r22_11, g_r22_12, g_a23, g_t23, g_a24, g_t24, g_a25, g_t25, g_a26, g_t26, g_a27, g_t27, g_a28, g_t28, g_a29, g_t29, g_a30, g_t30, g_a31, g_t31, g_a32, g_t32, g_a33, g_t33, g_a34, g_t34, g_a35, g_t35, exists_eq_left', Option.some.injEq, exists_eq_left, ne_eq, List.length_nil, List.length_cons, Option.toList_some, Option.toList_none, List.cons_append, List.nil_append, mj_wt_nil, mj_wt_i, mj_wt_r, mj_wt_l, true_and, and_true, false_and, and_false, true_implies, false_implies, implies_true, not_true_eq_false, not_false_eq_true, and_self, Int.reduceEq, Nat.reduceEqDiff, ↓reduceIte, mj_w_id2, e_55 ⟨Int.natCast_nonneg t, h8⟩ hP.1, Int.toNat_natCast]
      grind (splits := 40) [f_54, mj_w]
  · intro M hP
    rw [i_54_2]
    simp (disch := omega) only [i_54_0, i_54_1, i_54_3, i_54_4, i_54_7, i_54_10, i_54_11, i_54_14, i_54_15, i_54_16, i_54_17, i_54_20, i_54_21, i_54_24, i_54_25, i_54_26, i_54_27, i_54_30, i_54_31, i_54_32, i_54_33, i_54_36, i_54_39, i_54_42, g_o22, g_r22_0, g_r22_1, g_r22_2, g_r22_3, g_r22_4, g_r22_5, g_r22_6, g_r22_7, g_r22_8, g_r22_9, g_r22_10, g_r22_11, g_r22_12, g_a23, g_t23, g_a24, g_t24, g_a25, g_t25, g_a26, g_t26, g_a27, g_t27, g_a28, g_t28, g_a29, g_t29, g_a30, g_t30, g_a31, g_t31, g_a32, g_t32, g_a33, g_t33, g_a34, g_t34, g_a35, g_t35, exists_eq_left', Option.some.injEq, exists_eq_left, ne_eq, List.length_nil, List.length_cons, Option.toList_some, Option.toList_none, List.cons_append, List.nil_append, mj_wt_nil, mj_wt_i, mj_wt_r, mj_wt_l, true_and, and_true, false_and, and_false, true_implies, false_implies, implies_true, not_true_eq_false, not_false_eq_true, and_self, Int.reduceEq, Nat.reduceEqDiff, ↓reduceIte, mj_w_id2, Int.toNat_natCast]
    grind (splits := 40) [mj_w]
def q_endIn (M : mj_M) (b : Int) : mj_M := q_for (f_54 b) (M 22 13).toNat 0 M
theorem e_54 (w : q_wr M) {b : Int} : mj_Rn (d + 2) 54 0 [.inr (.inl 22), .inl b, .inr (.inr 0)] [] (SGx x) M Q = Q none (SGx x) (q_endIn M b) := by
  have hs := q_w22_13 w
  have h := l_54 (d := d) (x := x) (Q := Q) (N := (M 22 13).toNat) (b := b) (M 22 13).toNat 0 M (by omega) ⟨w, by omega⟩
  rw [i_54_0, i_54_1]; exact h
def f_58a (g : Int) (t : Nat) (M : mj_M) : mj_M := if M 28 t = g then q_end M t 3 else M
def f_58b (g : Int) (t : Nat) (M : mj_M) : mj_M := if M 27 t = g then mj_up M 27 t (-1) else M
def f_58 (g : Int) (t : Nat) (M : mj_M) : mj_M := f_58b g t (f_58a g t M)
theorem f_58a_w {g : Int} {t : Nat} (w : q_wr M) : q_wr (f_58a g t M) := by
  unfold f_58a
  split
  · exact q_end_w w
  · exact w
theorem f_58b_w {g : Int} {t : Nat} (w : q_wr M) : q_wr (f_58b g t M) := by
  unfold f_58b
  split
  · exact q_wr_up w (by simp [q_okv])
  · exact w
theorem f_58_w {g : Int} {t : Nat} (w : q_wr M) : q_wr (f_58 g t M) := f_58b_w (f_58a_w w)
theorem f_58a_22 {g : Int} {t : Nat} : f_58a g t M 22 = M 22 := by
  unfold f_58a
  split
  · exact q_end_22
  · rfl
theorem f_58b_22 {g : Int} {t : Nat} : f_58b g t M 22 = M 22 := by
  unfold f_58b
  split
  · rw [mj_up_ne (by decide)]
  · rfl
theorem f_58_22 {g : Int} {t : Nat} : f_58 g t M 22 = M 22 := by
  unfold f_58
  rw [f_58b_22, f_58a_22]
theorem l_58 {N : Nat} {g : Int}  : ∀ (n t : Nat) (M : mj_M), t + n = N → (q_wr M ∧ M 22 13 = (N : Int)) → mj_Rn (d + 2) 58 2 [.inr (.inl 22), .inl g, .inl (t : Int)] [] (SGx x) M Q = Q none (SGx x) ((q_for (f_58 g) n t M)) := by
  refine q_for_rule (N := N) (F := (f_58 g)) (P := fun t M => q_wr M ∧ M 22 13 = (N : Int)) (H := fun t M => mj_Rn (d + 2) 58 2 [.inr (.inl 22), .inl g, .inl (t : Int)] [] (SGx x) M Q) (E := fun M => Q none (SGx x) (M)) ?_ ?_
  · intro t M ht hP
    refine ⟨?_, ?_⟩
    · exact ⟨f_58_w hP.1, by rw [f_58_22]; exact hP.2⟩
    · have h1t : ((t + 1 : Nat) : Int) = (t : Int) + 1 := by push_cast; rfl
      have htt : (t : Int) < N := by omega
      have hs := q_w22_13 hP.1
      have h8 : (t : Int) < 8 := by omega
      simp only [h1t]
      rw [i_58_2]
      simp (disch := omega) only [i_58_0, i_58_1, i_58_3, i_58_4, i_58_7, i_58_10, i_58_11, i_58_14, i_58_15, i_58_16, i_58_17, i_58_20, i_58_21, i_58_22, i_58_23, i_58_26, i_58_27, i_58_30, i_58_31, i_58_32, i_58_33, i_58_36, i_58_37, i_58_40, i_58_41, i_58_42, i_58_43, i_58_46, i_58_49, g_o22, g_r22_0, g_r22_1, g_r22_2, g_r22_3, g_r22_4, g_r22_5, g_r22_6, g_r22_7, g_r22_8, g_r22_9, g_r22_10, g_r22_11, g_r22_12, g_a23, g_t23, g_a24, g_t24, g_a25, g_t25, g_a26, g_t26, g_a27, g_t27, g_a28, g_t28, g_a29, g_t29, g_a30, g_t30, g_a31, g_t31, g_a32, g_t32, g_a33, g_t33, g_a34, g_t34, g_a35, g_t35, exists_eq_left', Option.some.injEq, exists_eq_left, ne_eq, List.length_nil, List.length_cons, Option.toList_some, Option.toList_none, List.cons_append, List.nil_append, mj_wt_nil, mj_wt_i, mj_wt_r, mj_wt_l, true_and, and_true, false_and, and_false, true_implies, false_implies, implies_true, not_true_eq_false, not_false_eq_true, and_self, Int.reduceEq, Nat.reduceEqDiff, ↓reduceIte, mj_w_id2, e_55 ⟨Int.natCast_nonneg t, h8⟩ hP.1, Int.toNat_natCast]
      by_cases hg : M 28 t = g <;> simp only [f_58, f_58a, f_58b, hg, if_true, if_false] <;> grind (splits := 40) [mj_w]
  · intro M hP
    rw [i_58_2]
    simp (disch := omega) only [i_58_0, i_58_1, i_58_3, i_58_4, i_58_7, i_58_10, i_58_11, i_58_14, i_58_15, i_58_16, i_58_17, i_58_20, i_58_21, i_58_22, i_58_23, i_58_26, i_58_27, i_58_30, i_58_31, i_58_32, i_58_33, i_58_36, i_58_37, i_58_40, i_58_41, i_58_42, i_58_43, i_58_46, i_58_49, g_o22, g_r22_0, g_r22_1, g_r22_2, g_r22_3, g_r22_4, g_r22_5, g_r22_6, g_r22_7, g_r22_8, g_r22_9, g_r22_10, g_r22_11, g_r22_12, g_a23, g_t23, g_a24, g_t24, g_a25, g_t25, g_a26, g_t26, g_a27, g_t27, g_a28, g_t28, g_a29, g_t29, g_a30, g_t30, g_a31, g_t31, g_a32, g_t32, g_a33, g_t33, g_a34, g_t34, g_a35, g_t35, exists_eq_left', Option.some.injEq, exists_eq_left, ne_eq, List.length_nil, List.length_cons, Option.toList_some, Option.toList_none, List.cons_append, List.nil_append, mj_wt_nil, mj_wt_i, mj_wt_r, mj_wt_l, true_and, and_true, false_and, and_false, true_implies, false_implies, implies_true, not_true_eq_false, not_false_eq_true, and_self, Int.reduceEq, Nat.reduceEqDiff, ↓reduceIte, mj_w_id2, Int.toNat_natCast]
    grind (splits := 40) [mj_w]
def q_stopAt (M : mj_M) (g : Int) : mj_M := q_for (f_58 g) (M 22 13).toNat 0 M
theorem e_58 (w : q_wr M) {g : Int} : mj_Rn (d + 2) 58 0 [.inr (.inl 22), .inl g, .inr (.inr 0)] [] (SGx x) M Q = Q none (SGx x) (q_stopAt M g) := by
  have hs := q_w22_13 w
  have h := l_58 (d := d) (x := x) (Q := Q) (N := (M 22 13).toNat) (g := g) (M 22 13).toNat 0 M (by omega) ⟨w, by omega⟩
  rw [i_58_0, i_58_1]; exact h
end sp44
