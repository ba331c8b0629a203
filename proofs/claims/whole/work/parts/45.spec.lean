section sp45
variable {x : Nat} {M : mj_M} {Q : Option mj_V → mj_G → mj_M → Prop} {d : Nat}
def q_fault (M : mj_M) (r : Int) : mj_M :=
  let A := q_end (mj_up M 1 11 (mj_w (M 1 11 + 1))) r 3
  if A 27 r.toNat = -1 then A else if q_leastW A (A 27 r.toNat) = -1 then A else q_wake A (q_leastW A (A 27 r.toNat)) (100 + r)
theorem q_fault_w {r : Int} (w : q_wr M) : q_wr (q_fault M r) := by
  have h := q_end_w (r := r) (s := 3) (q_wr_up (i := 11) (a := 1) (v := mj_w (M 1 11 + 1)) w (by simp [q_okv]))
  unfold q_fault
  simp only []
  split
  · exact h
  · split
    · exact h
    · exact q_wake_w h
theorem e_109 (w : q_wr M) {r : Int} (hr : 0 ≤ r ∧ r < 8) : mj_Rn (d + 2) 109 0 [.inr (.inl 133), .inl r, .inr (.inr 0)] [] (SGx x) M Q = Q none (SGx x) (q_fault M r) := by
  have w1 := q_wr_up (i := 11) (a := 1) (v := mj_w (M 1 11 + 1)) w (by simp [q_okv])
  have w2 := q_end_w (r := r) (s := 3) w1
  have hl := q_leastW_in (g := q_end (mj_up M 1 11 (mj_w (M 1 11 + 1))) r 3 27 r.toNat) w2
  have h8 := q_w22_13 w2
  unfold q_fault
  simp only []
  by_cases h1 : q_end (mj_up M 1 11 (mj_w (M 1 11 + 1))) r 3 27 r.toNat = -1
  · simp (disch := omega) only [i_109_0, i_109_1, i_109_4, i_109_5, i_109_8, i_109_9, i_109_10, i_109_13, i_109_14, i_109_17, i_109_18, i_109_19, i_109_22, i_109_23, i_109_26, i_109_29, i_109_30, i_109_31, i_109_32, i_109_35, i_109_36, i_109_37, i_109_40, i_109_41, i_109_44, i_109_47, i_109_48, i_109_49, i_109_52, i_109_53, i_109_54, i_109_55, i_109_58, i_109_59, i_109_62, i_109_63, i_109_65, i_109_66, i_109_67, i_109_70, g_o133, g_r133_0, g_r133_1, g_r133_2, g_r133_3, g_o1, g_r1_0, g_r1_1, g_r1_2, g_r1_3, g_r1_4, g_r1_5, g_a42, g_t42, g_a43, g_t43, g_o22, g_r22_0, g_r22_1, g_r22_2, g_r22_3, g_r22_4, g_r22_5, g_r22_6, g_r22_7, g_r22_8, g_r22_9, g_r22_10, g_r22_11, g_r22_12, g_a23, g_t23, g_a24, g_t24, g_a25, g_t25, g_a26, g_t26, g_a27, g_t27, g_a28, g_t28, g_a29, g_t29, g_a30, g_t30, g_a31, g_t31, g_a32, g_t32, g_a33, g_t33, g_a34, g_t34, g_a35, g_t35, exists_eq_left', Option.some.injEq, exists_eq_left, ne_eq, List.length_nil, List.length_cons, Option.toList_some, Option.toList_none, List.cons_append, List.nil_append, mj_wt_nil, mj_wt_i, mj_wt_r, mj_wt_l, true_and, and_true, false_and, and_false, true_implies, false_implies, implies_true, not_true_eq_false, not_false_eq_true, and_self, Int.reduceEq, Nat.reduceEqDiff, ↓reduceIte, mj_w_id2, e_55 hr w1, h1, if_true]
    grind (splits := 40) [mj_w]
  by_cases h2 : q_leastW (q_end (mj_up M 1 11 (mj_w (M 1 11 + 1))) r 3) (q_end (mj_up M 1 11 (mj_w (M 1 11 + 1))) r 3 27 r.toNat) = -1
  · simp (disch := omega) only [i_109_0, i_109_1, i_109_4, i_109_5, i_109_8, i_109_9, i_109_10, i_109_13, i_109_14, i_109_17, i_109_18, i_109_19, i_109_22, i_109_23, i_109_26, i_109_29, i_109_30, i_109_31, i_109_32, i_109_35, i_109_36, i_109_37, i_109_40, i_109_41, i_109_44, i_109_47, i_109_48, i_109_49, i_109_52, i_109_53, i_109_54, i_109_55, i_109_58, i_109_59, i_109_62, i_109_63, i_109_65, i_109_66, i_109_67, i_109_70, g_o133, g_r133_0, g_r133_1, g_r133_2, g_r133_3, g_o1, g_r1_0, g_r1_1, g_r1_2, g_r1_3, g_r1_4, g_r1_5, g_a42, g_t42, g_a43, g_t43, g_o22, g_r22_0, g_r22_1, g_r22_2, g_r22_3, g_r22_4, g_r22_5, g_r22_6, g_r22_7, g_r22_8, g_r22_9, g_r22_10, g_r22_11, g_r22_12, g_a23, g_t23, g_a24, g_t24, g_a25, g_t25, g_a26, g_t26, g_a27, g_t27, g_a28, g_t28, g_a29, g_t29, g_a30, g_t30, g_a31, g_t31, g_a32, g_t32, g_a33, g_t33, g_a34, g_t34, g_a35, g_t35, exists_eq_left', Option.some.injEq, exists_eq_left, ne_eq, List.length_nil, List.length_cons, Option.toList_some, Option.toList_none, List.cons_append, List.nil_append, mj_wt_nil, mj_wt_i, mj_wt_r, mj_wt_l, true_and, and_true, false_and, and_false, true_implies, false_implies, implies_true, not_true_eq_false, not_false_eq_true, and_self, Int.reduceEq, Nat.reduceEqDiff, ↓reduceIte, mj_w_id2, e_55 hr w1, e_104 w2, h1, h2, if_true, if_false]
    grind (splits := 40) [mj_w]
  have h3 : 0 ≤ q_leastW (q_end (mj_up M 1 11 (mj_w (M 1 11 + 1))) r 3) (q_end (mj_up M 1 11 (mj_w (M 1 11 + 1))) r 3 27 r.toNat) ∧ q_leastW (q_end (mj_up M 1 11 (mj_w (M 1 11 + 1))) r 3) (q_end (mj_up M 1 11 (mj_w (M 1 11 + 1))) r 3 27 r.toNat) < 8 := by omega
  simp (disch := omega) only [i_109_0, i_109_1, i_109_4, i_109_5, i_109_8, i_109_9, i_109_10, i_109_13, i_109_14, i_109_17, i_109_18, i_109_19, i_109_22, i_109_23, i_109_26, i_109_29, i_109_30, i_109_31, i_109_32, i_109_35, i_109_36, i_109_37, i_109_40, i_109_41, i_109_44, i_109_47, i_109_48, i_109_49, i_109_52, i_109_53, i_109_54, i_109_55, i_109_58, i_109_59, i_109_62, i_109_63, i_109_65, i_109_66, i_109_67, i_109_70, g_o133, g_r133_0, g_r133_1, g_r133_2, g_r133_3, g_o1, g_r1_0, g_r1_1, g_r1_2, g_r1_3, g_r1_4, g_r1_5, g_a42, g_t42, g_a43, g_t43, g_o22, g_r22_0, g_r22_1, g_r22_2, g_r22_3, g_r22_4, g_r22_5, g_r22_6, g_r22_7, g_r22_8, g_r22_9, g_r22_10, g_r22_11, g_r22_12, g_a23, g_t23, g_a24, g_t24, g_a25, g_t25, g_a26, g_t26, g_a27, g_t27, g_a28, g_t28, g_a29, g_t29, g_a30, g_t30, g_a31, g_t31, g_a32, g_t32, g_a33, g_t33, g_a34, g_t34, g_a35, g_t35, exists_eq_left', Option.some.injEq, exists_eq_left, ne_eq, List.length_nil, List.length_cons, Option.toList_some, Option.toList_none, List.cons_append, List.nil_append, mj_wt_nil, mj_wt_i, mj_wt_r, mj_wt_l, true_and, and_true, false_and, and_false, true_implies, false_implies, implies_true, not_true_eq_false, not_false_eq_true, and_self, Int.reduceEq, Nat.reduceEqDiff, ↓reduceIte, mj_w_id2, e_55 hr w1, e_104 w2, e_56 h3, h1, h2, if_true, if_false]
  grind (splits := 40) [mj_w]
def f_49 (tok : Int) (t : Nat) (M : mj_M) : mj_M := if M 15 t = tok then mj_up M 15 t (-1) else M
theorem f_49_w {tok : Int} {t : Nat} (w : q_wr M) : q_wr (f_49 tok t M) := by
  unfold f_49; split
  · exact q_wr_up w (by simp [q_okv])
  · exact w
theorem l_49 {N : Nat} {tok : Int} (hN : N = 40) : ∀ (n t : Nat) (M : mj_M), t + n = N → (True) → mj_Rn d 49 2 [.inr (.inl 13), .inl tok, .inl (t : Int)] [] (SGx x) M Q = Q none (SGx x) ((q_for (f_49 tok) n t M)) := by
  refine q_for_rule (N := N) (F := (f_49 tok)) (P := fun t M => True) (H := fun t M => mj_Rn d 49 2 [.inr (.inl 13), .inl tok, .inl (t : Int)] [] (SGx x) M Q) (E := fun M => Q none (SGx x) (M)) ?_ ?_
  · intro t M ht hP
    refine ⟨?_, ?_⟩
    · trivial
    · have h1t : ((t + 1 : Nat) : Int) = (t : Int) + 1 := by push_cast; rfl
      have htt : (t : Int) < N := by omega
      simp only [h1t]
      rw [i_49_2]
      simp (disch := omega) only [i_49_0, i_49_1, i_49_3, i_49_5, i_49_8, i_49_9, i_49_12, i_49_13, i_49_14, i_49_15, i_49_18, i_49_19, i_49_22, i_49_23, i_49_24, i_49_25, i_49_28, i_49_31, g_o13, g_r13_0, g_r13_1, g_r13_2, g_r13_3, g_r13_4, g_r13_5, g_r13_6, g_r13_7, g_a14, g_t14, g_a15, g_t15, g_a16, g_t16, g_a17, g_t17, g_a18, g_t18, g_a19, g_t19, g_a20, g_t20, g_a21, g_t21, exists_eq_left', Option.some.injEq, exists_eq_left, ne_eq, List.length_nil, List.length_cons, Option.toList_some, Option.toList_none, List.cons_append, List.nil_append, mj_wt_nil, mj_wt_i, mj_wt_r, mj_wt_l, true_and, and_true, false_and, and_false, true_implies, false_implies, implies_true, not_true_eq_false, not_false_eq_true, and_self, Int.reduceEq, Nat.reduceEqDiff, ↓reduceIte, mj_w_id2, Int.toNat_natCast]
      grind (splits := 40) [f_49, mj_w]
  · intro M hP
    rw [i_49_2]
    simp (disch := omega) only [i_49_0, i_49_1, i_49_3, i_49_5, i_49_8, i_49_9, i_49_12, i_49_13, i_49_14, i_49_15, i_49_18, i_49_19, i_49_22, i_49_23, i_49_24, i_49_25, i_49_28, i_49_31, g_o13, g_r13_0, g_r13_1, g_r13_2, g_r13_3, g_r13_4, g_r13_5, g_r13_6, g_r13_7, g_a14, g_t14, g_a15, g_t15, g_a16, g_t16, g_a17, g_t17, g_a18, g_t18, g_a19, g_t19, g_a20, g_t20, g_a21, g_t21, exists_eq_left', Option.some.injEq, exists_eq_left, ne_eq, List.length_nil, List.length_cons, Option.toList_some, Option.toList_none, List.cons_append, List.nil_append, mj_wt_nil, mj_wt_i, mj_wt_r, mj_wt_l, true_and, and_true, false_and, and_false, true_implies, false_implies, implies_true, not_true_eq_false, not_false_eq_true, and_self, Int.reduceEq, Nat.reduceEqDiff, ↓reduceIte, mj_w_id2, Int.toNat_natCast]
    grind (splits := 40) [mj_w]
theorem e_49 {tok : Int}  : mj_Rn d 49 0 [.inr (.inl 13), .inl tok, .inr (.inr 0)] [] (SGx x) M Q = Q none (SGx x) (q_for (f_49 tok) 40 0 M) := by
  have h := l_49 (d := d) (x := x) (Q := Q) (N := 40) (tok := tok) rfl (40) 0 M (by omega) trivial
  rw [i_49_0, i_49_1]; exact h
def f_52 (y : Int) (t : Nat) (M : mj_M) : mj_M := if M 3 t ≠ -1 ∧ M 10 t = y then mj_up M 10 t 40 else M
theorem f_52_w {y : Int} {t : Nat} (w : q_wr M) : q_wr (f_52 y t M) := by
  unfold f_52; split
  · exact q_wr_up w (by simp [q_okv])
  · exact w
theorem l_52 {N : Nat} {y : Int} (hN : N = 120) : ∀ (n t : Nat) (M : mj_M), t + n = N → (True) → mj_Rn d 52 2 [.inr (.inl 2), .inl y, .inl (t : Int)] [] (SGx x) M Q = Q none (SGx x) ((q_for (f_52 y) n t M)) := by
  refine q_for_rule (N := N) (F := (f_52 y)) (P := fun t M => True) (H := fun t M => mj_Rn d 52 2 [.inr (.inl 2), .inl y, .inl (t : Int)] [] (SGx x) M Q) (E := fun M => Q none (SGx x) (M)) ?_ ?_
  · intro t M ht hP
    refine ⟨?_, ?_⟩
    · trivial
    · have h1t : ((t + 1 : Nat) : Int) = (t : Int) + 1 := by push_cast; rfl
      have htt : (t : Int) < N := by omega
      simp only [h1t]
      rw [i_52_2]
      simp (disch := omega) only [i_52_0, i_52_1, i_52_3, i_52_5, i_52_8, i_52_9, i_52_12, i_52_13, i_52_14, i_52_15, i_52_18, i_52_19, i_52_22, i_52_23, i_52_24, i_52_25, i_52_28, i_52_29, i_52_32, i_52_33, i_52_35, i_52_36, i_52_39, i_52_42, g_o2, g_r2_0, g_r2_1, g_r2_2, g_r2_3, g_r2_4, g_r2_5, g_r2_6, g_r2_7, g_r2_8, g_r2_9, g_a3, g_t3, g_a4, g_t4, g_a5, g_t5, g_a6, g_t6, g_a7, g_t7, g_a8, g_t8, g_a9, g_t9, g_a10, g_t10, g_a11, g_t11, g_a12, g_t12, exists_eq_left', Option.some.injEq, exists_eq_left, ne_eq, List.length_nil, List.length_cons, Option.toList_some, Option.toList_none, List.cons_append, List.nil_append, mj_wt_nil, mj_wt_i, mj_wt_r, mj_wt_l, true_and, and_true, false_and, and_false, true_implies, false_implies, implies_true, not_true_eq_false, not_false_eq_true, and_self, Int.reduceEq, Nat.reduceEqDiff, ↓reduceIte, mj_w_id2, Int.toNat_natCast]
      grind (splits := 40) [f_52, mj_w]
  · intro M hP
    rw [i_52_2]
    simp (disch := omega) only [i_52_0, i_52_1, i_52_3, i_52_5, i_52_8, i_52_9, i_52_12, i_52_13, i_52_14, i_52_15, i_52_18, i_52_19, i_52_22, i_52_23, i_52_24, i_52_25, i_52_28, i_52_29, i_52_32, i_52_33, i_52_35, i_52_36, i_52_39, i_52_42, g_o2, g_r2_0, g_r2_1, g_r2_2, g_r2_3, g_r2_4, g_r2_5, g_r2_6, g_r2_7, g_r2_8, g_r2_9, g_a3, g_t3, g_a4, g_t4, g_a5, g_t5, g_a6, g_t6, g_a7, g_t7, g_a8, g_t8, g_a9, g_t9, g_a10, g_t10, g_a11, g_t11, g_a12, g_t12, exists_eq_left', Option.some.injEq, exists_eq_left, ne_eq, List.length_nil, List.length_cons, Option.toList_some, Option.toList_none, List.cons_append, List.nil_append, mj_wt_nil, mj_wt_i, mj_wt_r, mj_wt_l, true_and, and_true, false_and, and_false, true_implies, false_implies, implies_true, not_true_eq_false, not_false_eq_true, and_self, Int.reduceEq, Nat.reduceEqDiff, ↓reduceIte, mj_w_id2, Int.toNat_natCast]
    grind (splits := 40) [mj_w]
theorem e_52 {y : Int}  : mj_Rn d 52 0 [.inr (.inl 2), .inl y, .inr (.inr 0)] [] (SGx x) M Q = Q none (SGx x) (q_for (f_52 y) 120 0 M) := by
  have h := l_52 (d := d) (x := x) (Q := Q) (N := 120) (y := y) rfl (120) 0 M (by omega) trivial
  rw [i_52_0, i_52_1]; exact h
def f_53 (y : Int) (t : Nat) (M : mj_M) : mj_M := if M 38 t = y ∨ M 39 t = y then mj_up M 41 t 1 else M
theorem f_53_w {y : Int} {t : Nat} (w : q_wr M) : q_wr (f_53 y t M) := by
  unfold f_53; split
  · exact q_wr_up w (q_okv_o (by decide))
  · exact w
theorem f_53_36 {y : Int} {t : Nat} : f_53 y t M 36 = M 36 := by
  unfold f_53; split
  · rw [mj_up_ne (by decide)]
  · rfl
theorem l_53 {N : Nat} {y : Int} (hN : N ≤ 20) : ∀ (n t : Nat) (M : mj_M), t + n = N → (M 36 5 = (N : Int)) → mj_Rn d 53 2 [.inr (.inl 36), .inl y, .inl (t : Int)] [] (SGx x) M Q = Q none (SGx x) ((q_for (f_53 y) n t M)) := by
  refine q_for_rule (N := N) (F := (f_53 y)) (P := fun t M => M 36 5 = (N : Int)) (H := fun t M => mj_Rn d 53 2 [.inr (.inl 36), .inl y, .inl (t : Int)] [] (SGx x) M Q) (E := fun M => Q none (SGx x) (M)) ?_ ?_
  · intro t M ht hP
    refine ⟨?_, ?_⟩
    · rw [f_53_36]; exact hP
    · have h1t : ((t + 1 : Nat) : Int) = (t : Int) + 1 := by push_cast; rfl
      have htt : (t : Int) < N := by omega
      simp only [h1t]
      rw [i_53_2]
      simp (disch := omega) only [i_53_0, i_53_1, i_53_3, i_53_4, i_53_7, i_53_10, i_53_11, i_53_14, i_53_15, i_53_16, i_53_17, i_53_20, i_53_21, i_53_24, i_53_25, i_53_26, i_53_27, i_53_30, i_53_31, i_53_34, i_53_35, i_53_36, i_53_37, i_53_40, i_53_43, g_o36, g_r36_0, g_r36_1, g_r36_2, g_r36_3, g_r36_4, g_a37, g_t37, g_a38, g_t38, g_a39, g_t39, g_a40, g_t40, g_a41, g_t41, exists_eq_left', Option.some.injEq, exists_eq_left, ne_eq, List.length_nil, List.length_cons, Option.toList_some, Option.toList_none, List.cons_append, List.nil_append, mj_wt_nil, mj_wt_i, mj_wt_r, mj_wt_l, true_and, and_true, false_and, and_false, true_implies, false_implies, implies_true, not_true_eq_false, not_false_eq_true, and_self, Int.reduceEq, Nat.reduceEqDiff, ↓reduceIte, mj_w_id2, Int.toNat_natCast]
      grind (splits := 40) [f_53, mj_w]
  · intro M hP
    rw [i_53_2]
    simp (disch := omega) only [i_53_0, i_53_1, i_53_3, i_53_4, i_53_7, i_53_10, i_53_11, i_53_14, i_53_15, i_53_16, i_53_17, i_53_20, i_53_21, i_53_24, i_53_25, i_53_26, i_53_27, i_53_30, i_53_31, i_53_34, i_53_35, i_53_36, i_53_37, i_53_40, i_53_43, g_o36, g_r36_0, g_r36_1, g_r36_2, g_r36_3, g_r36_4, g_a37, g_t37, g_a38, g_t38, g_a39, g_t39, g_a40, g_t40, g_a41, g_t41, exists_eq_left', Option.some.injEq, exists_eq_left, ne_eq, List.length_nil, List.length_cons, Option.toList_some, Option.toList_none, List.cons_append, List.nil_append, mj_wt_nil, mj_wt_i, mj_wt_r, mj_wt_l, true_and, and_true, false_and, and_false, true_implies, false_implies, implies_true, not_true_eq_false, not_false_eq_true, and_self, Int.reduceEq, Nat.reduceEqDiff, ↓reduceIte, mj_w_id2, Int.toNat_natCast]
    grind (splits := 40) [mj_w]
def q_over (M : mj_M) (y : Int) : mj_M := q_for (f_53 y) (M 36 5).toNat 0 M
theorem e_53 (w : q_wr M) {y : Int} : mj_Rn d 53 0 [.inr (.inl 36), .inl y, .inr (.inr 0)] [] (SGx x) M Q = Q none (SGx x) (q_over M y) := by
  have hs := q_w36_5 w
  have h := l_53 (d := d) (x := x) (Q := Q) (N := (M 36 5).toNat) (y := y) (by omega) (M 36 5).toNat 0 M (by omega) (by omega)
  rw [i_53_0, i_53_1]; exact h
def f_111 (y : Int) (t : Nat) (M : mj_M) : mj_M := if M 3 t ≠ -1 ∧ M 4 t = y then q_mark M t else M
theorem q_mark_w {t : Int} (w : q_wr M) : q_wr (q_mark M t) := by
  unfold q_mark; exact q_wr_up (q_wr_up w (q_okv_o (by decide))) (q_okv_o (by decide))
theorem f_111_w {y : Int} {t : Nat} (w : q_wr M) : q_wr (f_111 y t M) := by
  unfold f_111; split
  · exact q_mark_w w
  · exact w
theorem l_111 {N : Nat} {y : Int} (hN : N = 120) : ∀ (n t : Nat) (M : mj_M), t + n = N → (True) → mj_Rn (d + 1) 111 2 [.inr (.inl 130), .inl y, .inl (t : Int)] [] (SGx x) M Q = Q none (SGx x) ((q_for (f_111 y) n t M)) := by
  refine q_for_rule (N := N) (F := (f_111 y)) (P := fun t M => True) (H := fun t M => mj_Rn (d + 1) 111 2 [.inr (.inl 130), .inl y, .inl (t : Int)] [] (SGx x) M Q) (E := fun M => Q none (SGx x) (M)) ?_ ?_
  · intro t M ht hP
    refine ⟨?_, ?_⟩
    · trivial
    · have h1t : ((t + 1 : Nat) : Int) = (t : Int) + 1 := by push_cast; rfl
      have htt : (t : Int) < N := by omega
      have h34 : (0 : Int) ≤ t ∧ (t : Int) < 120 := by omega
      simp only [h1t]
      rw [i_111_2]
      simp (disch := omega) only [i_111_0, i_111_1, i_111_3, i_111_5, i_111_8, i_111_9, i_111_12, i_111_15, i_111_18, i_111_19, i_111_20, i_111_21, i_111_24, i_111_25, i_111_28, i_111_31, i_111_34, i_111_35, i_111_36, i_111_37, i_111_40, i_111_41, i_111_42, i_111_45, i_111_48, i_111_51, g_o130, g_r130_0, g_r130_1, g_a131, g_t131, g_o1, g_r1_0, g_r1_1, g_r1_2, g_r1_3, g_r1_4, g_r1_5, g_o2, g_r2_0, g_r2_1, g_r2_2, g_r2_3, g_r2_4, g_r2_5, g_r2_6, g_r2_7, g_r2_8, g_r2_9, g_a3, g_t3, g_a4, g_t4, g_a5, g_t5, g_a6, g_t6, g_a7, g_t7, g_a8, g_t8, g_a9, g_t9, g_a10, g_t10, g_a11, g_t11, g_a12, g_t12, exists_eq_left', Option.some.injEq, exists_eq_left, ne_eq, List.length_nil, List.length_cons, Option.toList_some, Option.toList_none, List.cons_append, List.nil_append, mj_wt_nil, mj_wt_i, mj_wt_r, mj_wt_l, true_and, and_true, false_and, and_false, true_implies, false_implies, implies_true, not_true_eq_false, not_false_eq_true, and_self, Int.reduceEq, Nat.reduceEqDiff, ↓reduceIte, mj_w_id2, e_34 h34, Int.toNat_natCast]
      grind (splits := 40) [f_111, mj_w]
  · intro M hP
    rw [i_111_2]
    simp (disch := omega) only [i_111_0, i_111_1, i_111_3, i_111_5, i_111_8, i_111_9, i_111_12, i_111_15, i_111_18, i_111_19, i_111_20, i_111_21, i_111_24, i_111_25, i_111_28, i_111_31, i_111_34, i_111_35, i_111_36, i_111_37, i_111_40, i_111_41, i_111_42, i_111_45, i_111_48, i_111_51, g_o130, g_r130_0, g_r130_1, g_a131, g_t131, g_o1, g_r1_0, g_r1_1, g_r1_2, g_r1_3, g_r1_4, g_r1_5, g_o2, g_r2_0, g_r2_1, g_r2_2, g_r2_3, g_r2_4, g_r2_5, g_r2_6, g_r2_7, g_r2_8, g_r2_9, g_a3, g_t3, g_a4, g_t4, g_a5, g_t5, g_a6, g_t6, g_a7, g_t7, g_a8, g_t8, g_a9, g_t9, g_a10, g_t10, g_a11, g_t11, g_a12, g_t12, exists_eq_left', Option.some.injEq, exists_eq_left, ne_eq, List.length_nil, List.length_cons, Option.toList_some, Option.toList_none, List.cons_append, List.nil_append, mj_wt_nil, mj_wt_i, mj_wt_r, mj_wt_l, true_and, and_true, false_and, and_false, true_implies, false_implies, implies_true, not_true_eq_false, not_false_eq_true, and_self, Int.reduceEq, Nat.reduceEqDiff, ↓reduceIte, mj_w_id2, Int.toNat_natCast]
    grind (splits := 40) [mj_w]
theorem e_111 {y : Int}  : mj_Rn (d + 1) 111 0 [.inr (.inl 130), .inl y, .inr (.inr 0)] [] (SGx x) M Q = Q none (SGx x) (q_for (f_111 y) 120 0 M) := by
  have h := l_111 (d := d) (x := x) (Q := Q) (N := 120) (y := y) rfl (120) 0 M (by omega) trivial
  rw [i_111_0, i_111_1]; exact h
def q_md (most : Int) : Nat → Nat → Int → mj_M → mj_M
  | 0, _, _, M => M
  | n + 1, t, m, M => if m < most then (if M 3 t ≠ -1 ∧ M 12 t ≠ 0 then q_md most n (t + 1) (m + 1) (q_mark M t) else q_md most n (t + 1) m M) else M
theorem q_md_w {most : Int} : ∀ (n t : Nat) (m : Int) (M : mj_M), q_wr M → q_wr (q_md most n t m M) := by
  intro n
  induction n with
  | zero => intro t m M w; exact w
  | succ n ih =>
    intro t m M w
    unfold q_md
    split
    · split
      · exact ih _ _ _ (q_mark_w w)
      · exact ih _ _ _ w
    · exact w
theorem l_94 {most : Int} (n : Nat) : ∀ (t : Nat) (m : Int) (M : mj_M), t + n = 120 → 0 ≤ m → m ≤ t → mj_Rn (d + 1) 94 4 [.inr (.inl 130), .inl most, .inl m, .inl (t : Int)] [] (SGx x) M Q = Q none (SGx x) (q_md most n t m M) := by
  induction n with
  | zero =>
    intro t m M h h1 h2
    rw [i_94_4]
    simp (disch := omega) only [i_94_0, i_94_1, i_94_2, i_94_3, i_94_5, i_94_7, i_94_10, i_94_11, i_94_12, i_94_15, i_94_16, i_94_19, i_94_22, i_94_25, i_94_26, i_94_27, i_94_28, i_94_31, i_94_32, i_94_35, i_94_38, i_94_41, i_94_42, i_94_43, i_94_46, i_94_47, i_94_48, i_94_51, i_94_54, i_94_57, i_94_60, g_o130, g_r130_0, g_r130_1, g_a131, g_t131, g_o1, g_r1_0, g_r1_1, g_r1_2, g_r1_3, g_r1_4, g_r1_5, g_o2, g_r2_0, g_r2_1, g_r2_2, g_r2_3, g_r2_4, g_r2_5, g_r2_6, g_r2_7, g_r2_8, g_r2_9, g_a3, g_t3, g_a4, g_t4, g_a5, g_t5, g_a6, g_t6, g_a7, g_t7, g_a8, g_t8, g_a9, g_t9, g_a10, g_t10, g_a11, g_t11, g_a12, g_t12, exists_eq_left', Option.some.injEq, exists_eq_left, ne_eq, List.length_nil, List.length_cons, Option.toList_some, Option.toList_none, List.cons_append, List.nil_append, mj_wt_nil, mj_wt_i, mj_wt_r, mj_wt_l, true_and, and_true, false_and, and_false, true_implies, false_implies, implies_true, not_true_eq_false, not_false_eq_true, and_self, Int.reduceEq, Nat.reduceEqDiff, ↓reduceIte, mj_w_id2, Int.toNat_natCast]
    grind [q_md]
  | succ n ih =>
    intro t m M h h1 h2
    have hih := ih (t + 1) m M (by omega) (by omega) (by omega)
    have hih2 := ih (t + 1) (m + 1) (q_mark M t) (by omega) (by omega) (by omega)
    push_cast at hih hih2
    have h34 : (0 : Int) ≤ t ∧ (t : Int) < 120 := by omega
    rw [i_94_4]
    simp (disch := omega) only [i_94_0, i_94_1, i_94_2, i_94_3, i_94_5, i_94_7, i_94_10, i_94_11, i_94_12, i_94_15, i_94_16, i_94_19, i_94_22, i_94_25, i_94_26, i_94_27, i_94_28, i_94_31, i_94_32, i_94_35, i_94_38, i_94_41, i_94_42, i_94_43, i_94_46, i_94_47, i_94_48, i_94_51, i_94_54, i_94_57, i_94_60, g_o130, g_r130_0, g_r130_1, g_a131, g_t131, g_o1, g_r1_0, g_r1_1, g_r1_2, g_r1_3, g_r1_4, g_r1_5, g_o2, g_r2_0, g_r2_1, g_r2_2, g_r2_3, g_r2_4, g_r2_5, g_r2_6, g_r2_7, g_r2_8, g_r2_9, g_a3, g_t3, g_a4, g_t4, g_a5, g_t5, g_a6, g_t6, g_a7, g_t7, g_a8, g_t8, g_a9, g_t9, g_a10, g_t10, g_a11, g_t11, g_a12, g_t12, exists_eq_left', Option.some.injEq, exists_eq_left, ne_eq, List.length_nil, List.length_cons, Option.toList_some, Option.toList_none, List.cons_append, List.nil_append, mj_wt_nil, mj_wt_i, mj_wt_r, mj_wt_l, true_and, and_true, false_and, and_false, true_implies, false_implies, implies_true, not_true_eq_false, not_false_eq_true, and_self, Int.reduceEq, Nat.reduceEqDiff, ↓reduceIte, mj_w_id2, Int.toNat_natCast, e_34 h34]
    unfold q_md
    clear ih
    grind (splits := 40) [mj_w]
theorem e_94 {most : Int} : mj_Rn (d + 1) 94 0 [.inr (.inl 130), .inl most, .inr (.inr 0), .inr (.inr 0)] [] (SGx x) M Q = Q none (SGx x) (q_md most 120 0 0 M) := by
  have h := l_94 (d := d) (x := x) (Q := Q) (most := most) 120 0 0 M (by omega) (by omega) (by omega)
  rw [i_94_0, i_94_1, i_94_2, i_94_3]; exact h
def q_bm (M : mj_M) : Nat → Int → Int
  | 0, _ => 0
  | n + 1, u => if u = -1 then 0 else if M 131 u.toNat ≠ 0 then 1 else q_bm M n (M 7 u.toNat)
def q_ns (M : mj_M) : Nat → Int → Int
  | 0, u => u
  | n + 1, u => if u ≠ -1 ∧ M 131 u.toNat ≠ 0 then q_ns M n (M 7 u.toNat) else u
theorem q_ns_in (w : q_wr M) : ∀ (n : Nat) (u : Int), -1 ≤ u → u < 120 → -1 ≤ q_ns M n u ∧ q_ns M n u < 120 := by
  intro n
  induction n with
  | zero => intro u h1 h2; exact ⟨h1, h2⟩
  | succ n ih =>
    intro u h1 h2
    unfold q_ns
    split
    · have := q_w7 (i := u.toNat) w (by omega)
      exact ih _ this.1 this.2
    · exact ⟨h1, h2⟩
theorem l_44 (w : q_wr M) {tok : Int} (n : Nat) : ∀ (i u : Int), 0 ≤ i → i + n = 120 → -1 ≤ u → u < 120 → mj_Rn d 44 15 [.inr (.inl 130), .inl tok, .inl u, .inl i] [] (SGx x) M Q = Q (some (.inl (q_bm M n u))) (SGx x) M := by
  induction n with
  | zero =>
    intro i u h0 h h1 h2
    rw [i_44_15]
    simp (disch := omega) only [i_44_0, i_44_1, i_44_4, i_44_7, i_44_10, i_44_11, i_44_12, i_44_13, i_44_14, i_44_16, i_44_18, i_44_21, i_44_22, i_44_23, i_44_26, i_44_27, i_44_30, i_44_31, i_44_32, i_44_35, i_44_36, i_44_37, i_44_38, i_44_41, i_44_44, i_44_47, i_44_48, i_44_49, i_44_50, i_44_53, i_44_56, i_44_57, g_o130, g_r130_0, g_r130_1, g_a131, g_t131, g_o1, g_r1_0, g_r1_1, g_r1_2, g_r1_3, g_r1_4, g_r1_5, g_o2, g_r2_0, g_r2_1, g_r2_2, g_r2_3, g_r2_4, g_r2_5, g_r2_6, g_r2_7, g_r2_8, g_r2_9, g_a3, g_t3, g_a4, g_t4, g_a5, g_t5, g_a6, g_t6, g_a7, g_t7, g_a8, g_t8, g_a9, g_t9, g_a10, g_t10, g_a11, g_t11, g_a12, g_t12, exists_eq_left', Option.some.injEq, exists_eq_left, ne_eq, List.length_nil, List.length_cons, Option.toList_some, Option.toList_none, List.cons_append, List.nil_append, mj_wt_nil, mj_wt_i, mj_wt_r, mj_wt_l, true_and, and_true, false_and, and_false, true_implies, false_implies, implies_true, not_true_eq_false, not_false_eq_true, and_self, Int.reduceEq, Nat.reduceEqDiff, ↓reduceIte, mj_w_id2]
    grind [q_bm]
  | succ n ih =>
    intro i u h0 h h1 h2
    have w7 := fun hh => q_w7 (i := u.toNat) w hh
    rw [i_44_15]
    simp (disch := omega) only [i_44_0, i_44_1, i_44_4, i_44_7, i_44_10, i_44_11, i_44_12, i_44_13, i_44_14, i_44_16, i_44_18, i_44_21, i_44_22, i_44_23, i_44_26, i_44_27, i_44_30, i_44_31, i_44_32, i_44_35, i_44_36, i_44_37, i_44_38, i_44_41, i_44_44, i_44_47, i_44_48, i_44_49, i_44_50, i_44_53, i_44_56, i_44_57, g_o130, g_r130_0, g_r130_1, g_a131, g_t131, g_o1, g_r1_0, g_r1_1, g_r1_2, g_r1_3, g_r1_4, g_r1_5, g_o2, g_r2_0, g_r2_1, g_r2_2, g_r2_3, g_r2_4, g_r2_5, g_r2_6, g_r2_7, g_r2_8, g_r2_9, g_a3, g_t3, g_a4, g_t4, g_a5, g_t5, g_a6, g_t6, g_a7, g_t7, g_a8, g_t8, g_a9, g_t9, g_a10, g_t10, g_a11, g_t11, g_a12, g_t12, exists_eq_left', Option.some.injEq, exists_eq_left, ne_eq, List.length_nil, List.length_cons, Option.toList_some, Option.toList_none, List.cons_append, List.nil_append, mj_wt_nil, mj_wt_i, mj_wt_r, mj_wt_l, true_and, and_true, false_and, and_false, true_implies, false_implies, implies_true, not_true_eq_false, not_false_eq_true, and_self, Int.reduceEq, Nat.reduceEqDiff, ↓reduceIte, mj_w_id2]
    grind [q_bm, mj_w]
theorem e_44 (w : q_wr M) {t : Int} (ht : 0 ≤ t ∧ t < 120) : mj_Rn d 44 0 [.inr (.inl 130), .inl t, .inr (.inr 0), .inr (.inr 0)] [] (SGx x) M Q = Q (some (.inl (q_bm M 120 (M 7 t.toNat)))) (SGx x) M := by
  have h7 := q_w7 (i := t.toNat) w (by omega)
  have h := l_44 (d := d) (x := x) (Q := Q) w (tok := t) 120 0 (M 7 t.toNat) (by omega) (by omega) h7.1 h7.2
  simp (disch := omega) only [i_44_0, i_44_1, i_44_4, i_44_7, i_44_10, i_44_11, i_44_12, i_44_13, i_44_14, i_44_16, i_44_18, i_44_21, i_44_22, i_44_23, i_44_26, i_44_27, i_44_30, i_44_31, i_44_32, i_44_35, i_44_36, i_44_37, i_44_38, i_44_41, i_44_44, i_44_47, i_44_48, i_44_49, i_44_50, i_44_53, i_44_56, i_44_57, g_o130, g_r130_0, g_r130_1, g_a131, g_t131, g_o1, g_r1_0, g_r1_1, g_r1_2, g_r1_3, g_r1_4, g_r1_5, g_o2, g_r2_0, g_r2_1, g_r2_2, g_r2_3, g_r2_4, g_r2_5, g_r2_6, g_r2_7, g_r2_8, g_r2_9, g_a3, g_t3, g_a4, g_t4, g_a5, g_t5, g_a6, g_t6, g_a7, g_t7, g_a8, g_t8, g_a9, g_t9, g_a10, g_t10, g_a11, g_t11, g_a12, g_t12, exists_eq_left', Option.some.injEq, exists_eq_left, ne_eq, List.length_nil, List.length_cons, Option.toList_some, Option.toList_none, List.cons_append, List.nil_append, mj_wt_nil, mj_wt_i, mj_wt_r, mj_wt_l, true_and, and_true, false_and, and_false, true_implies, false_implies, implies_true, not_true_eq_false, not_false_eq_true, and_self, Int.reduceEq, Nat.reduceEqDiff, ↓reduceIte, mj_w_id2, h]
  grind
theorem l_46 (w : q_wr M) {tok : Int} (n : Nat) : ∀ (i u : Int), 0 ≤ i → i + n = 120 → -1 ≤ u → u < 120 → mj_Rn d 46 15 [.inr (.inl 130), .inl tok, .inl u, .inl i] [] (SGx x) M Q = Q (some (.inl (q_ns M n u))) (SGx x) M := by
  induction n with
  | zero =>
    intro i u h0 h h1 h2
    rw [i_46_15]
    simp (disch := omega) only [i_46_0, i_46_1, i_46_4, i_46_7, i_46_10, i_46_11, i_46_12, i_46_13, i_46_14, i_46_16, i_46_18, i_46_21, i_46_22, i_46_23, i_46_26, i_46_27, i_46_30, i_46_31, i_46_32, i_46_35, i_46_36, i_46_39, i_46_42, i_46_45, i_46_46, i_46_47, i_46_48, i_46_51, i_46_54, i_46_55, g_o130, g_r130_0, g_r130_1, g_a131, g_t131, g_o1, g_r1_0, g_r1_1, g_r1_2, g_r1_3, g_r1_4, g_r1_5, g_o2, g_r2_0, g_r2_1, g_r2_2, g_r2_3, g_r2_4, g_r2_5, g_r2_6, g_r2_7, g_r2_8, g_r2_9, g_a3, g_t3, g_a4, g_t4, g_a5, g_t5, g_a6, g_t6, g_a7, g_t7, g_a8, g_t8, g_a9, g_t9, g_a10, g_t10, g_a11, g_t11, g_a12, g_t12, exists_eq_left', Option.some.injEq, exists_eq_left, ne_eq, List.length_nil, List.length_cons, Option.toList_some, Option.toList_none, List.cons_append, List.nil_append, mj_wt_nil, mj_wt_i, mj_wt_r, mj_wt_l, true_and, and_true, false_and, and_false, true_implies, false_implies, implies_true, not_true_eq_false, not_false_eq_true, and_self, Int.reduceEq, Nat.reduceEqDiff, ↓reduceIte, mj_w_id2]
    grind [q_ns]
  | succ n ih =>
    intro i u h0 h h1 h2
    have w7 := fun hh => q_w7 (i := u.toNat) w hh
    rw [i_46_15]
    simp (disch := omega) only [i_46_0, i_46_1, i_46_4, i_46_7, i_46_10, i_46_11, i_46_12, i_46_13, i_46_14, i_46_16, i_46_18, i_46_21, i_46_22, i_46_23, i_46_26, i_46_27, i_46_30, i_46_31, i_46_32, i_46_35, i_46_36, i_46_39, i_46_42, i_46_45, i_46_46, i_46_47, i_46_48, i_46_51, i_46_54, i_46_55, g_o130, g_r130_0, g_r130_1, g_a131, g_t131, g_o1, g_r1_0, g_r1_1, g_r1_2, g_r1_3, g_r1_4, g_r1_5, g_o2, g_r2_0, g_r2_1, g_r2_2, g_r2_3, g_r2_4, g_r2_5, g_r2_6, g_r2_7, g_r2_8, g_r2_9, g_a3, g_t3, g_a4, g_t4, g_a5, g_t5, g_a6, g_t6, g_a7, g_t7, g_a8, g_t8, g_a9, g_t9, g_a10, g_t10, g_a11, g_t11, g_a12, g_t12, exists_eq_left', Option.some.injEq, exists_eq_left, ne_eq, List.length_nil, List.length_cons, Option.toList_some, Option.toList_none, List.cons_append, List.nil_append, mj_wt_nil, mj_wt_i, mj_wt_r, mj_wt_l, true_and, and_true, false_and, and_false, true_implies, false_implies, implies_true, not_true_eq_false, not_false_eq_true, and_self, Int.reduceEq, Nat.reduceEqDiff, ↓reduceIte, mj_w_id2]
    grind [q_ns, mj_w]
theorem e_46 (w : q_wr M) {t : Int} (ht : 0 ≤ t ∧ t < 120) : mj_Rn d 46 0 [.inr (.inl 130), .inl t, .inr (.inr 0), .inr (.inr 0)] [] (SGx x) M Q = Q (some (.inl (q_ns M 120 (M 7 t.toNat)))) (SGx x) M := by
  have h7 := q_w7 (i := t.toNat) w (by omega)
  have h := l_46 (d := d) (x := x) (Q := Q) w (tok := t) 120 0 (M 7 t.toNat) (by omega) (by omega) h7.1 h7.2
  simp (disch := omega) only [i_46_0, i_46_1, i_46_4, i_46_7, i_46_10, i_46_11, i_46_12, i_46_13, i_46_14, i_46_16, i_46_18, i_46_21, i_46_22, i_46_23, i_46_26, i_46_27, i_46_30, i_46_31, i_46_32, i_46_35, i_46_36, i_46_39, i_46_42, i_46_45, i_46_46, i_46_47, i_46_48, i_46_51, i_46_54, i_46_55, g_o130, g_r130_0, g_r130_1, g_a131, g_t131, g_o1, g_r1_0, g_r1_1, g_r1_2, g_r1_3, g_r1_4, g_r1_5, g_o2, g_r2_0, g_r2_1, g_r2_2, g_r2_3, g_r2_4, g_r2_5, g_r2_6, g_r2_7, g_r2_8, g_r2_9, g_a3, g_t3, g_a4, g_t4, g_a5, g_t5, g_a6, g_t6, g_a7, g_t7, g_a8, g_t8, g_a9, g_t9, g_a10, g_t10, g_a11, g_t11, g_a12, g_t12, exists_eq_left', Option.some.injEq, exists_eq_left, ne_eq, List.length_nil, List.length_cons, Option.toList_some, Option.toList_none, List.cons_append, List.nil_append, mj_wt_nil, mj_wt_i, mj_wt_r, mj_wt_l, true_and, and_true, false_and, and_false, true_implies, false_implies, implies_true, not_true_eq_false, not_false_eq_true, and_self, Int.reduceEq, Nat.reduceEqDiff, ↓reduceIte, mj_w_id2, h]
  grind
def q_gr (M : mj_M) (t v : Int) : mj_M := if t = -1 then mj_up M 1 8 (mj_w (M 1 8 + v)) else mj_up M 6 t.toNat (mj_w (M 6 t.toNat + v))
theorem q_gr_w {t v : Int} (w : q_wr M) : q_wr (q_gr M t v) := by
  unfold q_gr; split
  · exact q_wr_up w (by simp [q_okv])
  · exact q_wr_up w (q_okv_o (by decide))
theorem e_47 {t v : Int} (ht : -1 ≤ t ∧ t < 120) : mj_Rn d 47 0 [.inr (.inl 130), .inl t, .inl v] [] (SGx x) M Q = Q none (SGx x) (q_gr M t v) := by
  simp (disch := omega) only [i_47_0, i_47_1, i_47_2, i_47_5, i_47_6, i_47_9, i_47_10, i_47_13, i_47_14, i_47_15, i_47_18, i_47_21, i_47_22, i_47_25, i_47_28, i_47_31, i_47_32, i_47_33, i_47_34, i_47_35, i_47_36, i_47_37, g_o130, g_r130_0, g_r130_1, g_a131, g_t131, g_o1, g_r1_0, g_r1_1, g_r1_2, g_r1_3, g_r1_4, g_r1_5, g_a42, g_t42, g_a43, g_t43, g_o2, g_r2_0, g_r2_1, g_r2_2, g_r2_3, g_r2_4, g_r2_5, g_r2_6, g_r2_7, g_r2_8, g_r2_9, g_a3, g_t3, g_a4, g_t4, g_a5, g_t5, g_a6, g_t6, g_a7, g_t7, g_a8, g_t8, g_a9, g_t9, g_a10, g_t10, g_a11, g_t11, g_a12, g_t12, exists_eq_left', Option.some.injEq, exists_eq_left, ne_eq, List.length_nil, List.length_cons, Option.toList_some, Option.toList_none, List.cons_append, List.nil_append, mj_wt_nil, mj_wt_i, mj_wt_r, mj_wt_l, true_and, and_true, false_and, and_false, true_implies, false_implies, implies_true, not_true_eq_false, not_false_eq_true, and_self, Int.reduceEq, Nat.reduceEqDiff, ↓reduceIte, mj_w_id2]
  unfold q_gr
  by_cases h : t = -1 <;> simp only [h, if_true, if_false] <;> grind
end sp45
