section sp52
variable {x : Nat} {M : mj_M} {Q : Option mj_V → mj_G → mj_M → Prop} {d : Nat}
def q_cf (M : mj_M) : Nat → Int → Int
  | 0, _ => -1
  | n + 1, i => if M 24 ((M 1 10 + i) % M 22 13).toNat = 0 then (M 1 10 + i) % M 22 13 else q_cf M n (i + 1)
def q_chF (M : mj_M) : Int := q_cf M (M 22 13).toNat 1
theorem l_95 (w : q_wr M) (n : Nat) : ∀ (i : Int) (v : mj_V), 1 ≤ i → i + n = M 22 13 + 1 → mj_Rn (d + 2) 95 2 [.inr (.inl 133), .inl i, v] [] (SGx x) M Q = Q (some (.inl (q_cf M n i))) (SGx x) M := by
  have hs := q_w22_13 w
  have hl := q_w1_10 w
  induction n with
  | zero =>
    intro i v h1 h
    rw [i_95_2]
    simp (disch := omega) only [i_95_0, i_95_1, i_95_3, i_95_4, i_95_7, i_95_10, i_95_13, i_95_14, i_95_17, i_95_20, i_95_21, i_95_22, i_95_23, i_95_26, i_95_29, i_95_30, i_95_31, i_95_32, i_95_35, i_95_36, i_95_39, i_95_42, i_95_43, i_95_44, i_95_47, i_95_50, i_95_51, g_o133, g_r133_0, g_r133_1, g_r133_2, g_r133_3, g_o1, g_r1_0, g_r1_1, g_r1_2, g_r1_3, g_r1_4, g_r1_5, g_a42, g_t42, g_a43, g_t43, g_o22, g_r22_0, g_r22_1, g_r22_2, g_r22_3, g_r22_4, g_r22_5, g_r22_6, g_r22_7, g_r22_8, g_r22_9, g_r22_10, g_r22_11, g_r22_12, g_a23, g_t23, g_a24, g_t24, g_a25, g_t25, g_a26, g_t26, g_a27, g_t27, g_a28, g_t28, g_a29, g_t29, g_a30, g_t30, g_a31, g_t31, g_a32, g_t32, g_a33, g_t33, g_a34, g_t34, g_a35, g_t35, exists_eq_left', Option.some.injEq, exists_eq_left, ne_eq, List.length_nil, List.length_cons, Option.toList_some, Option.toList_none, List.cons_append, List.nil_append, mj_wt_nil, mj_wt_i, mj_wt_r, mj_wt_l, true_and, and_true, false_and, and_false, true_implies, false_implies, implies_true, not_true_eq_false, not_false_eq_true, and_self, Int.reduceEq, Nat.reduceEqDiff, ↓reduceIte, mj_w_id2]
    grind [q_cf]
  | succ n ih =>
    intro i v h1 h
    have e1 : (M 1 10 + i).tmod (M 22 13) = (M 1 10 + i) % M 22 13 := Int.tmod_eq_emod_of_nonneg (by omega)
    have e2 := Int.emod_nonneg (M 1 10 + i) (show M 22 13 ≠ 0 by omega)
    have e3 := Int.emod_lt_of_pos (M 1 10 + i) (show 0 < M 22 13 by omega)
    have hih := ih (i + 1) (.inl ((M 1 10 + i) % M 22 13)) (by omega) (by omega)
    clear ih
    rw [i_95_2, q_cf]
    by_cases hc : M 24 ((M 1 10 + i) % M 22 13).toNat = 0
    · have hr : q_rdy M ((M 1 10 + i) % M 22 13) = 1 := by unfold q_rdy; rw [if_pos ⟨e2, e3, hc⟩]
      simp (disch := omega) only [i_95_0, i_95_1, i_95_3, i_95_4, i_95_7, i_95_10, i_95_13, i_95_14, i_95_17, i_95_20, i_95_21, i_95_22, i_95_23, i_95_26, i_95_29, i_95_30, i_95_31, i_95_32, i_95_35, i_95_36, i_95_39, i_95_42, i_95_43, i_95_44, i_95_47, i_95_50, i_95_51, g_o133, g_r133_0, g_r133_1, g_r133_2, g_r133_3, g_o1, g_r1_0, g_r1_1, g_r1_2, g_r1_3, g_r1_4, g_r1_5, g_a42, g_t42, g_a43, g_t43, g_o22, g_r22_0, g_r22_1, g_r22_2, g_r22_3, g_r22_4, g_r22_5, g_r22_6, g_r22_7, g_r22_8, g_r22_9, g_r22_10, g_r22_11, g_r22_12, g_a23, g_t23, g_a24, g_t24, g_a25, g_t25, g_a26, g_t26, g_a27, g_t27, g_a28, g_t28, g_a29, g_t29, g_a30, g_t30, g_a31, g_t31, g_a32, g_t32, g_a33, g_t33, g_a34, g_t34, g_a35, g_t35, exists_eq_left', Option.some.injEq, exists_eq_left, ne_eq, List.length_nil, List.length_cons, Option.toList_some, Option.toList_none, List.cons_append, List.nil_append, mj_wt_nil, mj_wt_i, mj_wt_r, mj_wt_l, true_and, and_true, false_and, and_false, true_implies, false_implies, implies_true, not_true_eq_false, not_false_eq_true, and_self, Int.reduceEq, Nat.reduceEqDiff, ↓reduceIte, mj_w_id2, e1, e_96 w, hr, hc, hih]
      try grind
    · have hr : q_rdy M ((M 1 10 + i) % M 22 13) = 0 := by unfold q_rdy; rw [if_neg (fun q => hc q.2.2)]
      simp (disch := omega) only [i_95_0, i_95_1, i_95_3, i_95_4, i_95_7, i_95_10, i_95_13, i_95_14, i_95_17, i_95_20, i_95_21, i_95_22, i_95_23, i_95_26, i_95_29, i_95_30, i_95_31, i_95_32, i_95_35, i_95_36, i_95_39, i_95_42, i_95_43, i_95_44, i_95_47, i_95_50, i_95_51, g_o133, g_r133_0, g_r133_1, g_r133_2, g_r133_3, g_o1, g_r1_0, g_r1_1, g_r1_2, g_r1_3, g_r1_4, g_r1_5, g_a42, g_t42, g_a43, g_t43, g_o22, g_r22_0, g_r22_1, g_r22_2, g_r22_3, g_r22_4, g_r22_5, g_r22_6, g_r22_7, g_r22_8, g_r22_9, g_r22_10, g_r22_11, g_r22_12, g_a23, g_t23, g_a24, g_t24, g_a25, g_t25, g_a26, g_t26, g_a27, g_t27, g_a28, g_t28, g_a29, g_t29, g_a30, g_t30, g_a31, g_t31, g_a32, g_t32, g_a33, g_t33, g_a34, g_t34, g_a35, g_t35, exists_eq_left', Option.some.injEq, exists_eq_left, ne_eq, List.length_nil, List.length_cons, Option.toList_some, Option.toList_none, List.cons_append, List.nil_append, mj_wt_nil, mj_wt_i, mj_wt_r, mj_wt_l, true_and, and_true, false_and, and_false, true_implies, false_implies, implies_true, not_true_eq_false, not_false_eq_true, and_self, Int.reduceEq, Nat.reduceEqDiff, ↓reduceIte, mj_w_id2, e1, e_96 w, hr, hc, hih]
      try grind
theorem e_95 (w : q_wr M) : mj_Rn (d + 2) 95 0 [.inr (.inl 133), .inr (.inr 0), .inr (.inr 0)] [] (SGx x) M Q = Q (some (.inl (q_chF M))) (SGx x) M := by
  have hs := q_w22_13 w
  have h := l_95 (d := d) (x := x) (Q := Q) w (M 22 13).toNat 1 (.inr (.inr 0)) (by omega) (by omega)
  rw [i_95_0, i_95_1]; exact h
theorem q_cf_in (w : q_wr M) : ∀ (n : Nat) (i : Int), n = 0 ∨ 0 < M 22 13 → q_cf M n i = -1 ∨ (0 ≤ q_cf M n i ∧ q_cf M n i < M 22 13 ∧ M 24 (q_cf M n i).toNat = 0) := by
  intro n
  induction n with
  | zero => intro i _; exact Or.inl rfl
  | succ n ih =>
    intro i hh
    have hp : 0 < M 22 13 := by omega
    have e2 := Int.emod_nonneg (M 1 10 + i) (show M 22 13 ≠ 0 by omega)
    have e3 := Int.emod_lt_of_pos (M 1 10 + i) hp
    rw [q_cf]
    split
    · rename_i hc; exact Or.inr ⟨e2, e3, hc⟩
    · exact ih _ (Or.inr hp)
theorem q_chF_in (w : q_wr M) : q_chF M = -1 ∨ (0 ≤ q_chF M ∧ q_chF M < M 22 13 ∧ M 24 (q_chF M).toNat = 0) := by
  have hs := q_w22_13 w
  exact q_cf_in w _ _ (by omega)
def q_sv (M : mj_M) : Nat → Int → Int
  | 0, r => r
  | n + 1, r => if M 29 r.toNat = -1 then r else q_sv M n (M 29 r.toNat)
theorem q_sv_in (w : q_wr M) : ∀ (n : Nat) (r : Int), 0 ≤ r ∧ r < 8 → 0 ≤ q_sv M n r ∧ q_sv M n r < 8 := by
  intro n
  induction n with
  | zero => intro r h; exact h
  | succ n ih =>
    intro r h
    have := q_w29 (i := r.toNat) w (by omega)
    rw [q_sv]
    split
    · exact h
    · exact ih _ (by omega)
def q_chR (M : mj_M) : Int :=
  if M 1 6 = 0 then -1 else if q_rt M (M 43 (M 1 7 % M 1 6).toNat) = 0 then -1
  else if q_rdy M (q_sv M 8 (M 43 (M 1 7 % M 1 6).toNat)) = 1 then q_sv M 8 (M 43 (M 1 7 % M 1 6).toNat) else -1
theorem l_97 (w : q_wr M) (n : Nat) : ∀ (i r : Int), 0 ≤ i → i + n = 8 → 0 ≤ r ∧ r < 8 → mj_Rn (d + 2) 97 51 [.inr (.inl 133), .inl r, .inl i] [] (SGx x) M Q = Q (some (.inl (if q_rdy M (q_sv M n r) = 1 then q_sv M n r else -1))) (SGx x) M := by
  induction n with
  | zero =>
    intro i r h1 h hr
    have h01 : q_rdy M r = 0 ∨ q_rdy M r = 1 := by unfold q_rdy; split <;> simp
    rw [i_97_51, q_sv]
    rcases h01 with h01 | h01
    · simp (disch := omega) only [i_97_0, i_97_1, i_97_4, i_97_7, i_97_10, i_97_11, i_97_12, i_97_13, i_97_16, i_97_19, i_97_20, i_97_23, i_97_26, i_97_27, i_97_30, i_97_33, i_97_34, i_97_35, i_97_36, i_97_37, i_97_40, i_97_41, i_97_44, i_97_47, i_97_48, i_97_49, i_97_50, i_97_52, i_97_54, i_97_57, i_97_58, i_97_61, i_97_64, i_97_65, i_97_66, i_97_67, i_97_70, i_97_71, i_97_74, i_97_77, i_97_78, i_97_79, i_97_80, i_97_83, i_97_86, i_97_87, i_97_90, i_97_91, i_97_94, i_97_97, i_97_98, i_97_101, i_97_102, g_o133, g_r133_0, g_r133_1, g_r133_2, g_r133_3, g_o1, g_r1_0, g_r1_1, g_r1_2, g_r1_3, g_r1_4, g_r1_5, g_a42, g_t42, g_a43, g_t43, g_o22, g_r22_0, g_r22_1, g_r22_2, g_r22_3, g_r22_4, g_r22_5, g_r22_6, g_r22_7, g_r22_8, g_r22_9, g_r22_10, g_r22_11, g_r22_12, g_a23, g_t23, g_a24, g_t24, g_a25, g_t25, g_a26, g_t26, g_a27, g_t27, g_a28, g_t28, g_a29, g_t29, g_a30, g_t30, g_a31, g_t31, g_a32, g_t32, g_a33, g_t33, g_a34, g_t34, g_a35, g_t35, exists_eq_left', Option.some.injEq, exists_eq_left, ne_eq, List.length_nil, List.length_cons, Option.toList_some, Option.toList_none, List.cons_append, List.nil_append, mj_wt_nil, mj_wt_i, mj_wt_r, mj_wt_l, true_and, and_true, false_and, and_false, true_implies, false_implies, implies_true, not_true_eq_false, not_false_eq_true, and_self, Int.reduceEq, Nat.reduceEqDiff, ↓reduceIte, mj_w_id2, e_96 w, h01]
      try grind
    · simp (disch := omega) only [i_97_0, i_97_1, i_97_4, i_97_7, i_97_10, i_97_11, i_97_12, i_97_13, i_97_16, i_97_19, i_97_20, i_97_23, i_97_26, i_97_27, i_97_30, i_97_33, i_97_34, i_97_35, i_97_36, i_97_37, i_97_40, i_97_41, i_97_44, i_97_47, i_97_48, i_97_49, i_97_50, i_97_52, i_97_54, i_97_57, i_97_58, i_97_61, i_97_64, i_97_65, i_97_66, i_97_67, i_97_70, i_97_71, i_97_74, i_97_77, i_97_78, i_97_79, i_97_80, i_97_83, i_97_86, i_97_87, i_97_90, i_97_91, i_97_94, i_97_97, i_97_98, i_97_101, i_97_102, g_o133, g_r133_0, g_r133_1, g_r133_2, g_r133_3, g_o1, g_r1_0, g_r1_1, g_r1_2, g_r1_3, g_r1_4, g_r1_5, g_a42, g_t42, g_a43, g_t43, g_o22, g_r22_0, g_r22_1, g_r22_2, g_r22_3, g_r22_4, g_r22_5, g_r22_6, g_r22_7, g_r22_8, g_r22_9, g_r22_10, g_r22_11, g_r22_12, g_a23, g_t23, g_a24, g_t24, g_a25, g_t25, g_a26, g_t26, g_a27, g_t27, g_a28, g_t28, g_a29, g_t29, g_a30, g_t30, g_a31, g_t31, g_a32, g_t32, g_a33, g_t33, g_a34, g_t34, g_a35, g_t35, exists_eq_left', Option.some.injEq, exists_eq_left, ne_eq, List.length_nil, List.length_cons, Option.toList_some, Option.toList_none, List.cons_append, List.nil_append, mj_wt_nil, mj_wt_i, mj_wt_r, mj_wt_l, true_and, and_true, false_and, and_false, true_implies, false_implies, implies_true, not_true_eq_false, not_false_eq_true, and_self, Int.reduceEq, Nat.reduceEqDiff, ↓reduceIte, mj_w_id2, e_96 w, h01]
      try grind
  | succ n ih =>
    intro i r h1 h hr
    have h29 := q_w29 (i := r.toNat) w (by omega)
    have h01 : q_rdy M r = 0 ∨ q_rdy M r = 1 := by unfold q_rdy; split <;> simp
    rw [i_97_51, q_sv]
    by_cases hc : M 29 r.toNat = -1
    · rcases h01 with h01 | h01
      · simp (disch := omega) only [i_97_0, i_97_1, i_97_4, i_97_7, i_97_10, i_97_11, i_97_12, i_97_13, i_97_16, i_97_19, i_97_20, i_97_23, i_97_26, i_97_27, i_97_30, i_97_33, i_97_34, i_97_35, i_97_36, i_97_37, i_97_40, i_97_41, i_97_44, i_97_47, i_97_48, i_97_49, i_97_50, i_97_52, i_97_54, i_97_57, i_97_58, i_97_61, i_97_64, i_97_65, i_97_66, i_97_67, i_97_70, i_97_71, i_97_74, i_97_77, i_97_78, i_97_79, i_97_80, i_97_83, i_97_86, i_97_87, i_97_90, i_97_91, i_97_94, i_97_97, i_97_98, i_97_101, i_97_102, g_o133, g_r133_0, g_r133_1, g_r133_2, g_r133_3, g_o1, g_r1_0, g_r1_1, g_r1_2, g_r1_3, g_r1_4, g_r1_5, g_a42, g_t42, g_a43, g_t43, g_o22, g_r22_0, g_r22_1, g_r22_2, g_r22_3, g_r22_4, g_r22_5, g_r22_6, g_r22_7, g_r22_8, g_r22_9, g_r22_10, g_r22_11, g_r22_12, g_a23, g_t23, g_a24, g_t24, g_a25, g_t25, g_a26, g_t26, g_a27, g_t27, g_a28, g_t28, g_a29, g_t29, g_a30, g_t30, g_a31, g_t31, g_a32, g_t32, g_a33, g_t33, g_a34, g_t34, g_a35, g_t35, exists_eq_left', Option.some.injEq, exists_eq_left, ne_eq, List.length_nil, List.length_cons, Option.toList_some, Option.toList_none, List.cons_append, List.nil_append, mj_wt_nil, mj_wt_i, mj_wt_r, mj_wt_l, true_and, and_true, false_and, and_false, true_implies, false_implies, implies_true, not_true_eq_false, not_false_eq_true, and_self, Int.reduceEq, Nat.reduceEqDiff, ↓reduceIte, mj_w_id2, e_96 w, h01, hc]
        try grind
      · simp (disch := omega) only [i_97_0, i_97_1, i_97_4, i_97_7, i_97_10, i_97_11, i_97_12, i_97_13, i_97_16, i_97_19, i_97_20, i_97_23, i_97_26, i_97_27, i_97_30, i_97_33, i_97_34, i_97_35, i_97_36, i_97_37, i_97_40, i_97_41, i_97_44, i_97_47, i_97_48, i_97_49, i_97_50, i_97_52, i_97_54, i_97_57, i_97_58, i_97_61, i_97_64, i_97_65, i_97_66, i_97_67, i_97_70, i_97_71, i_97_74, i_97_77, i_97_78, i_97_79, i_97_80, i_97_83, i_97_86, i_97_87, i_97_90, i_97_91, i_97_94, i_97_97, i_97_98, i_97_101, i_97_102, g_o133, g_r133_0, g_r133_1, g_r133_2, g_r133_3, g_o1, g_r1_0, g_r1_1, g_r1_2, g_r1_3, g_r1_4, g_r1_5, g_a42, g_t42, g_a43, g_t43, g_o22, g_r22_0, g_r22_1, g_r22_2, g_r22_3, g_r22_4, g_r22_5, g_r22_6, g_r22_7, g_r22_8, g_r22_9, g_r22_10, g_r22_11, g_r22_12, g_a23, g_t23, g_a24, g_t24, g_a25, g_t25, g_a26, g_t26, g_a27, g_t27, g_a28, g_t28, g_a29, g_t29, g_a30, g_t30, g_a31, g_t31, g_a32, g_t32, g_a33, g_t33, g_a34, g_t34, g_a35, g_t35, exists_eq_left', Option.some.injEq, exists_eq_left, ne_eq, List.length_nil, List.length_cons, Option.toList_some, Option.toList_none, List.cons_append, List.nil_append, mj_wt_nil, mj_wt_i, mj_wt_r, mj_wt_l, true_and, and_true, false_and, and_false, true_implies, false_implies, implies_true, not_true_eq_false, not_false_eq_true, and_self, Int.reduceEq, Nat.reduceEqDiff, ↓reduceIte, mj_w_id2, e_96 w, h01, hc]
        try grind
    · have hih := ih (i + 1) (M 29 r.toNat) (by omega) (by omega) (by omega)
      clear ih
      simp (disch := omega) only [i_97_0, i_97_1, i_97_4, i_97_7, i_97_10, i_97_11, i_97_12, i_97_13, i_97_16, i_97_19, i_97_20, i_97_23, i_97_26, i_97_27, i_97_30, i_97_33, i_97_34, i_97_35, i_97_36, i_97_37, i_97_40, i_97_41, i_97_44, i_97_47, i_97_48, i_97_49, i_97_50, i_97_52, i_97_54, i_97_57, i_97_58, i_97_61, i_97_64, i_97_65, i_97_66, i_97_67, i_97_70, i_97_71, i_97_74, i_97_77, i_97_78, i_97_79, i_97_80, i_97_83, i_97_86, i_97_87, i_97_90, i_97_91, i_97_94, i_97_97, i_97_98, i_97_101, i_97_102, g_o133, g_r133_0, g_r133_1, g_r133_2, g_r133_3, g_o1, g_r1_0, g_r1_1, g_r1_2, g_r1_3, g_r1_4, g_r1_5, g_a42, g_t42, g_a43, g_t43, g_o22, g_r22_0, g_r22_1, g_r22_2, g_r22_3, g_r22_4, g_r22_5, g_r22_6, g_r22_7, g_r22_8, g_r22_9, g_r22_10, g_r22_11, g_r22_12, g_a23, g_t23, g_a24, g_t24, g_a25, g_t25, g_a26, g_t26, g_a27, g_t27, g_a28, g_t28, g_a29, g_t29, g_a30, g_t30, g_a31, g_t31, g_a32, g_t32, g_a33, g_t33, g_a34, g_t34, g_a35, g_t35, exists_eq_left', Option.some.injEq, exists_eq_left, ne_eq, List.length_nil, List.length_cons, Option.toList_some, Option.toList_none, List.cons_append, List.nil_append, mj_wt_nil, mj_wt_i, mj_wt_r, mj_wt_l, true_and, and_true, false_and, and_false, true_implies, false_implies, implies_true, not_true_eq_false, not_false_eq_true, and_self, Int.reduceEq, Nat.reduceEqDiff, ↓reduceIte, mj_w_id2, e_96 w, hc, hih]
      try grind
theorem e_97 (w : q_wr M) : mj_Rn (d + 2) 97 0 [.inr (.inl 133), .inr (.inr 0), .inr (.inr 0)] [] (SGx x) M Q = Q (some (.inl (q_chR M))) (SGx x) M := by
  have h16 := q_w1_6 w
  have h17 := q_w1_7 w
  have h22 := q_w22_13 w
  unfold q_chR
  by_cases h0 : M 1 6 = 0
  · simp (disch := omega) only [i_97_0, i_97_1, i_97_4, i_97_7, i_97_10, i_97_11, i_97_12, i_97_13, i_97_16, i_97_19, i_97_20, i_97_23, i_97_26, i_97_27, i_97_30, i_97_33, i_97_34, i_97_35, i_97_36, i_97_37, i_97_40, i_97_41, i_97_44, i_97_47, i_97_48, i_97_49, i_97_50, i_97_52, i_97_54, i_97_57, i_97_58, i_97_61, i_97_64, i_97_65, i_97_66, i_97_67, i_97_70, i_97_71, i_97_74, i_97_77, i_97_78, i_97_79, i_97_80, i_97_83, i_97_86, i_97_87, i_97_90, i_97_91, i_97_94, i_97_97, i_97_98, i_97_101, i_97_102, g_o133, g_r133_0, g_r133_1, g_r133_2, g_r133_3, g_o1, g_r1_0, g_r1_1, g_r1_2, g_r1_3, g_r1_4, g_r1_5, g_a42, g_t42, g_a43, g_t43, g_o22, g_r22_0, g_r22_1, g_r22_2, g_r22_3, g_r22_4, g_r22_5, g_r22_6, g_r22_7, g_r22_8, g_r22_9, g_r22_10, g_r22_11, g_r22_12, g_a23, g_t23, g_a24, g_t24, g_a25, g_t25, g_a26, g_t26, g_a27, g_t27, g_a28, g_t28, g_a29, g_t29, g_a30, g_t30, g_a31, g_t31, g_a32, g_t32, g_a33, g_t33, g_a34, g_t34, g_a35, g_t35, exists_eq_left', Option.some.injEq, exists_eq_left, ne_eq, List.length_nil, List.length_cons, Option.toList_some, Option.toList_none, List.cons_append, List.nil_append, mj_wt_nil, mj_wt_i, mj_wt_r, mj_wt_l, true_and, and_true, false_and, and_false, true_implies, false_implies, implies_true, not_true_eq_false, not_false_eq_true, and_self, Int.reduceEq, Nat.reduceEqDiff, ↓reduceIte, mj_w_id2, h0]
    try grind
  have e1 : (M 1 7).tmod (M 1 6) = M 1 7 % M 1 6 := Int.tmod_eq_emod_of_nonneg (by omega)
  have e2 := Int.emod_nonneg (M 1 7) h0
  have e3 := Int.emod_lt_of_pos (M 1 7) (show 0 < M 1 6 by omega)
  have h01 : q_rt M (M 43 (M 1 7 % M 1 6).toNat) = 0 ∨ (q_rt M (M 43 (M 1 7 % M 1 6).toNat) = 1 ∧ 0 ≤ M 43 (M 1 7 % M 1 6).toNat ∧ M 43 (M 1 7 % M 1 6).toNat < M 22 13) := by unfold q_rt; split <;> simp_all
  rcases h01 with h01 | ⟨h01, h02⟩
  · simp (disch := omega) only [i_97_0, i_97_1, i_97_4, i_97_7, i_97_10, i_97_11, i_97_12, i_97_13, i_97_16, i_97_19, i_97_20, i_97_23, i_97_26, i_97_27, i_97_30, i_97_33, i_97_34, i_97_35, i_97_36, i_97_37, i_97_40, i_97_41, i_97_44, i_97_47, i_97_48, i_97_49, i_97_50, i_97_52, i_97_54, i_97_57, i_97_58, i_97_61, i_97_64, i_97_65, i_97_66, i_97_67, i_97_70, i_97_71, i_97_74, i_97_77, i_97_78, i_97_79, i_97_80, i_97_83, i_97_86, i_97_87, i_97_90, i_97_91, i_97_94, i_97_97, i_97_98, i_97_101, i_97_102, g_o133, g_r133_0, g_r133_1, g_r133_2, g_r133_3, g_o1, g_r1_0, g_r1_1, g_r1_2, g_r1_3, g_r1_4, g_r1_5, g_a42, g_t42, g_a43, g_t43, g_o22, g_r22_0, g_r22_1, g_r22_2, g_r22_3, g_r22_4, g_r22_5, g_r22_6, g_r22_7, g_r22_8, g_r22_9, g_r22_10, g_r22_11, g_r22_12, g_a23, g_t23, g_a24, g_t24, g_a25, g_t25, g_a26, g_t26, g_a27, g_t27, g_a28, g_t28, g_a29, g_t29, g_a30, g_t30, g_a31, g_t31, g_a32, g_t32, g_a33, g_t33, g_a34, g_t34, g_a35, g_t35, exists_eq_left', Option.some.injEq, exists_eq_left, ne_eq, List.length_nil, List.length_cons, Option.toList_some, Option.toList_none, List.cons_append, List.nil_append, mj_wt_nil, mj_wt_i, mj_wt_r, mj_wt_l, true_and, and_true, false_and, and_false, true_implies, false_implies, implies_true, not_true_eq_false, not_false_eq_true, and_self, Int.reduceEq, Nat.reduceEqDiff, ↓reduceIte, mj_w_id2, h0, e_80, h01, e1]
    try grind
  · have h := l_97 (d := d) (x := x) (Q := Q) w 8 0 (M 43 (M 1 7 % M 1 6).toNat) (by omega) (by omega) (by omega)
    simp (disch := omega) only [i_97_0, i_97_1, i_97_4, i_97_7, i_97_10, i_97_11, i_97_12, i_97_13, i_97_16, i_97_19, i_97_20, i_97_23, i_97_26, i_97_27, i_97_30, i_97_33, i_97_34, i_97_35, i_97_36, i_97_37, i_97_40, i_97_41, i_97_44, i_97_47, i_97_48, i_97_49, i_97_50, i_97_52, i_97_54, i_97_57, i_97_58, i_97_61, i_97_64, i_97_65, i_97_66, i_97_67, i_97_70, i_97_71, i_97_74, i_97_77, i_97_78, i_97_79, i_97_80, i_97_83, i_97_86, i_97_87, i_97_90, i_97_91, i_97_94, i_97_97, i_97_98, i_97_101, i_97_102, g_o133, g_r133_0, g_r133_1, g_r133_2, g_r133_3, g_o1, g_r1_0, g_r1_1, g_r1_2, g_r1_3, g_r1_4, g_r1_5, g_a42, g_t42, g_a43, g_t43, g_o22, g_r22_0, g_r22_1, g_r22_2, g_r22_3, g_r22_4, g_r22_5, g_r22_6, g_r22_7, g_r22_8, g_r22_9, g_r22_10, g_r22_11, g_r22_12, g_a23, g_t23, g_a24, g_t24, g_a25, g_t25, g_a26, g_t26, g_a27, g_t27, g_a28, g_t28, g_a29, g_t29, g_a30, g_t30, g_a31, g_t31, g_a32, g_t32, g_a33, g_t33, g_a34, g_t34, g_a35, g_t35, exists_eq_left', Option.some.injEq, exists_eq_left, ne_eq, List.length_nil, List.length_cons, Option.toList_some, Option.toList_none, List.cons_append, List.nil_append, mj_wt_nil, mj_wt_i, mj_wt_r, mj_wt_l, true_and, and_true, false_and, and_false, true_implies, false_implies, implies_true, not_true_eq_false, not_false_eq_true, and_self, Int.reduceEq, Nat.reduceEqDiff, ↓reduceIte, mj_w_id2, h0, e_80, h01, e1, h]
    try grind
theorem q_chR_in (w : q_wr M) : q_chR M = -1 ∨ (0 ≤ q_chR M ∧ q_chR M < M 22 13 ∧ M 24 (q_chR M).toNat = 0) := by
  unfold q_chR
  split
  · exact Or.inl rfl
  · split
    · exact Or.inl rfl
    · split
      · rename_i h
        unfold q_rdy at h
        split at h
        · rename_i h2; exact Or.inr h2
        · simp at h
      · exact Or.inl rfl
def q_hs (M : mj_M) (r : Int) : Int := if 0 ≤ M 25 r.toNat ∧ M 25 r.toNat < M 31 r.toNat then 1 else 0
theorem e_98 {r : Int} (hr : 0 ≤ r ∧ r < 8) : mj_Rn d 98 0 [.inr (.inl 133), .inl r] [] (SGx x) M Q = Q (some (.inl (q_hs M r))) (SGx x) M := by
  simp (disch := omega) only [i_98_0, i_98_1, i_98_4, i_98_7, i_98_8, i_98_9, i_98_12, i_98_13, i_98_16, i_98_19, i_98_20, i_98_21, i_98_22, i_98_25, i_98_28, i_98_29, i_98_30, i_98_33, i_98_34, i_98_37, i_98_38, g_o133, g_r133_0, g_r133_1, g_r133_2, g_r133_3, g_o22, g_r22_0, g_r22_1, g_r22_2, g_r22_3, g_r22_4, g_r22_5, g_r22_6, g_r22_7, g_r22_8, g_r22_9, g_r22_10, g_r22_11, g_r22_12, g_a23, g_t23, g_a24, g_t24, g_a25, g_t25, g_a26, g_t26, g_a27, g_t27, g_a28, g_t28, g_a29, g_t29, g_a30, g_t30, g_a31, g_t31, g_a32, g_t32, g_a33, g_t33, g_a34, g_t34, g_a35, g_t35, exists_eq_left', Option.some.injEq, exists_eq_left, ne_eq, List.length_nil, List.length_cons, Option.toList_some, Option.toList_none, List.cons_append, List.nil_append, mj_wt_nil, mj_wt_i, mj_wt_r, mj_wt_l, true_and, and_true, false_and, and_false, true_implies, false_implies, implies_true, not_true_eq_false, not_false_eq_true, and_self, Int.reduceEq, Nat.reduceEqDiff, ↓reduceIte, mj_w_id2]
  grind (splits := 40) [q_hs, mj_w]
def q_st (M : mj_M) (r : Int) : Int := 160 * r + 4 * M 25 r.toNat
def q_pr (M : mj_M) (r k : Int) : Int := M 35 (q_st M r + k).toNat
theorem e_100 {r : Int} (hr : 0 ≤ r ∧ r < 8) (hp : 0 ≤ M 25 r.toNat ∧ M 25 r.toNat < 40) : mj_Rn d 100 0 [.inr (.inl 133), .inl r] [] (SGx x) M Q = Q (some (.inl (q_st M r))) (SGx x) M := by
  simp (disch := omega) only [i_100_0, i_100_1, i_100_4, i_100_5, i_100_6, i_100_7, i_100_10, i_100_13, i_100_14, i_100_15, i_100_16, i_100_17, g_o133, g_r133_0, g_r133_1, g_r133_2, g_r133_3, g_o22, g_r22_0, g_r22_1, g_r22_2, g_r22_3, g_r22_4, g_r22_5, g_r22_6, g_r22_7, g_r22_8, g_r22_9, g_r22_10, g_r22_11, g_r22_12, g_a23, g_t23, g_a24, g_t24, g_a25, g_t25, g_a26, g_t26, g_a27, g_t27, g_a28, g_t28, g_a29, g_t29, g_a30, g_t30, g_a31, g_t31, g_a32, g_t32, g_a33, g_t33, g_a34, g_t34, g_a35, g_t35, exists_eq_left', Option.some.injEq, exists_eq_left, ne_eq, List.length_nil, List.length_cons, Option.toList_some, Option.toList_none, List.cons_append, List.nil_append, mj_wt_nil, mj_wt_i, mj_wt_r, mj_wt_l, true_and, and_true, false_and, and_false, true_implies, false_implies, implies_true, not_true_eq_false, not_false_eq_true, and_self, Int.reduceEq, Nat.reduceEqDiff, ↓reduceIte, mj_w_id2]
  grind (splits := 40) [q_st, mj_w]
def q_im (M : mj_M) (r : Int) : Int := if q_pr M r 0 = 15 ∨ q_pr M r 0 = 16 ∨ q_pr M r 0 = 17 then 1 else 0
theorem e_99 {r : Int} (hr : 0 ≤ r ∧ r < 8) (hp : 0 ≤ M 25 r.toNat ∧ M 25 r.toNat < 40) : mj_Rn (d + 1) 99 0 [.inr (.inl 133), .inl r, .inr (.inr 0)] [] (SGx x) M Q = Q (some (.inl (q_im M r))) (SGx x) M := by
  have hq : 0 ≤ q_st M r ∧ q_st M r < 1280 := by unfold q_st; omega
  have hq0 : q_st M r + 0 = q_st M r := by omega
  unfold q_im q_pr
  rw [hq0]
  simp (disch := omega) only [i_99_0, i_99_1, i_99_4, i_99_7, i_99_8, i_99_9, i_99_12, i_99_13, i_99_14, i_99_15, i_99_17, i_99_20, i_99_21, i_99_23, i_99_26, i_99_27, i_99_29, i_99_32, i_99_33, i_99_36, i_99_37, g_o133, g_r133_0, g_r133_1, g_r133_2, g_r133_3, g_o22, g_r22_0, g_r22_1, g_r22_2, g_r22_3, g_r22_4, g_r22_5, g_r22_6, g_r22_7, g_r22_8, g_r22_9, g_r22_10, g_r22_11, g_r22_12, g_a23, g_t23, g_a24, g_t24, g_a25, g_t25, g_a26, g_t26, g_a27, g_t27, g_a28, g_t28, g_a29, g_t29, g_a30, g_t30, g_a31, g_t31, g_a32, g_t32, g_a33, g_t33, g_a34, g_t34, g_a35, g_t35, exists_eq_left', Option.some.injEq, exists_eq_left, ne_eq, List.length_nil, List.length_cons, Option.toList_some, Option.toList_none, List.cons_append, List.nil_append, mj_wt_nil, mj_wt_i, mj_wt_r, mj_wt_l, true_and, and_true, false_and, and_false, true_implies, false_implies, implies_true, not_true_eq_false, not_false_eq_true, and_self, Int.reduceEq, Nat.reduceEqDiff, ↓reduceIte, mj_w_id2, e_100 hr hp]
  grind (splits := 40) [mj_w]
def q_sn (k : Int) : Int := if -1 ≤ k ∧ k < 10 then 1 else 0
theorem e_102 {k : Int}  : mj_Rn d 102 0 [.inl k] [] (SGx x) M Q = Q (some (.inl (q_sn k))) (SGx x) M := by
  simp (disch := omega) only [i_102_0, i_102_1, i_102_2, i_102_5, i_102_6, i_102_8, i_102_11, i_102_12, i_102_15, i_102_16, exists_eq_left', Option.some.injEq, exists_eq_left, ne_eq, List.length_nil, List.length_cons, Option.toList_some, Option.toList_none, List.cons_append, List.nil_append, mj_wt_nil, mj_wt_i, mj_wt_r, mj_wt_l, true_and, and_true, false_and, and_false, true_implies, false_implies, implies_true, not_true_eq_false, not_false_eq_true, and_self, Int.reduceEq, Nat.reduceEqDiff, ↓reduceIte, mj_w_id2]
  grind (splits := 40) [q_sn, mj_w]
end sp52
