section sp46
variable {x : Nat} {M : mj_M} {Q : Option mj_V → mj_G → mj_M → Prop} {d : Nat}
def f_43 (t : Nat) (M : mj_M) : mj_M := if M 3 t ≠ -1 ∧ q_bm M 120 (M 7 t) = 1 then mj_up M 131 t 1 else M
theorem f_43_w {t : Nat} (w : q_wr M) : q_wr (f_43 t M) := by
  unfold f_43; split
  · exact q_wr_up w (q_okv_o (by decide))
  · exact w
theorem q_bm_01 : ∀ (n : Nat) (u : Int), q_bm M n u = 0 ∨ q_bm M n u = 1 := by
  intro n
  induction n with
  | zero => intro u; exact Or.inl rfl
  | succ n ih => intro u; have := ih (M 7 u.toNat); grind [q_bm]
theorem l_43 {N : Nat}  (hN : N = 120) : ∀ (n t : Nat) (M : mj_M), t + n = N → (q_wr M) → mj_Rn (d + 1) 43 2 [.inr (.inl 130), .inl (t : Int)] [] (SGx x) M Q = Q none (SGx x) ((q_for f_43 n t M)) := by
  refine q_for_rule (N := N) (F := f_43) (P := fun t M => q_wr M) (H := fun t M => mj_Rn (d + 1) 43 2 [.inr (.inl 130), .inl (t : Int)] [] (SGx x) M Q) (E := fun M => Q none (SGx x) (M)) ?_ ?_
  · intro t M ht hP
    refine ⟨?_, ?_⟩
    · exact f_43_w hP
    · have h1t : ((t + 1 : Nat) : Int) = (t : Int) + 1 := by push_cast; rfl
      have htt : (t : Int) < N := by omega
      have h34 : (0 : Int) ≤ t ∧ (t : Int) < 120 := by omega
      have h01 := q_bm_01 (M := M) 120 (M 7 t)
      simp only [h1t]
      rw [i_43_2]
      simp (disch := omega) only [i_43_0, i_43_1, i_43_3, i_43_5, i_43_8, i_43_9, i_43_12, i_43_15, i_43_18, i_43_19, i_43_20, i_43_21, i_43_24, i_43_25, i_43_26, i_43_29, i_43_32, i_43_33, i_43_36, i_43_37, i_43_38, i_43_39, i_43_42, i_43_45, g_o130, g_r130_0, g_r130_1, g_a131, g_t131, g_o1, g_r1_0, g_r1_1, g_r1_2, g_r1_3, g_r1_4, g_r1_5, g_o2, g_r2_0, g_r2_1, g_r2_2, g_r2_3, g_r2_4, g_r2_5, g_r2_6, g_r2_7, g_r2_8, g_r2_9, g_a3, g_t3, g_a4, g_t4, g_a5, g_t5, g_a6, g_t6, g_a7, g_t7, g_a8, g_t8, g_a9, g_t9, g_a10, g_t10, g_a11, g_t11, g_a12, g_t12, exists_eq_left', Option.some.injEq, exists_eq_left, ne_eq, List.length_nil, List.length_cons, Option.toList_some, Option.toList_none, List.cons_append, List.nil_append, mj_wt_nil, mj_wt_i, mj_wt_r, mj_wt_l, true_and, and_true, false_and, and_false, true_implies, false_implies, implies_true, not_true_eq_false, not_false_eq_true, and_self, Int.reduceEq, Nat.reduceEqDiff, ↓reduceIte, mj_w_id2, e_44 hP h34, Int.toNat_natCast]
      grind (splits := 40) [f_43, mj_w]
  · intro M hP
    rw [i_43_2]
    simp (disch := omega) only [i_43_0, i_43_1, i_43_3, i_43_5, i_43_8, i_43_9, i_43_12, i_43_15, i_43_18, i_43_19, i_43_20, i_43_21, i_43_24, i_43_25, i_43_26, i_43_29, i_43_32, i_43_33, i_43_36, i_43_37, i_43_38, i_43_39, i_43_42, i_43_45, g_o130, g_r130_0, g_r130_1, g_a131, g_t131, g_o1, g_r1_0, g_r1_1, g_r1_2, g_r1_3, g_r1_4, g_r1_5, g_o2, g_r2_0, g_r2_1, g_r2_2, g_r2_3, g_r2_4, g_r2_5, g_r2_6, g_r2_7, g_r2_8, g_r2_9, g_a3, g_t3, g_a4, g_t4, g_a5, g_t5, g_a6, g_t6, g_a7, g_t7, g_a8, g_t8, g_a9, g_t9, g_a10, g_t10, g_a11, g_t11, g_a12, g_t12, exists_eq_left', Option.some.injEq, exists_eq_left, ne_eq, List.length_nil, List.length_cons, Option.toList_some, Option.toList_none, List.cons_append, List.nil_append, mj_wt_nil, mj_wt_i, mj_wt_r, mj_wt_l, true_and, and_true, false_and, and_false, true_implies, false_implies, implies_true, not_true_eq_false, not_false_eq_true, and_self, Int.reduceEq, Nat.reduceEqDiff, ↓reduceIte, mj_w_id2, Int.toNat_natCast]
    grind (splits := 40) [mj_w]
def q_mab (M : mj_M) : mj_M := q_for f_43 120 0 M
theorem q_mab_w (w : q_wr M) : q_wr (q_mab M) := q_for_inv (N := 120) (P := fun _ M => q_wr M) (fun t M _ h => f_43_w h) 120 0 M rfl w
theorem e_43 (w : q_wr M) : mj_Rn (d + 1) 43 0 [.inr (.inl 130), .inr (.inr 0)] [] (SGx x) M Q = Q none (SGx x) (q_mab M) := by
  have h := l_43 (d := d) (x := x) (Q := Q) (N := 120) rfl 120 0 M rfl w
  rw [i_43_0, i_43_1]; exact h
def f_45 (t : Nat) (M : mj_M) : mj_M := if M 131 t ≠ 0 then q_gr M (q_ns M 120 (M 7 t)) (M 6 t) else M
theorem f_45_w {t : Nat} (w : q_wr M) : q_wr (f_45 t M) := by
  unfold f_45; split
  · exact q_gr_w w
  · exact w
theorem l_45 {N : Nat}  (hN : N = 120) : ∀ (n t : Nat) (M : mj_M), t + n = N → (q_wr M) → mj_Rn (d + 1) 45 2 [.inr (.inl 130), .inl (t : Int)] [] (SGx x) M Q = Q none (SGx x) ((q_for f_45 n t M)) := by
  refine q_for_rule (N := N) (F := f_45) (P := fun t M => q_wr M) (H := fun t M => mj_Rn (d + 1) 45 2 [.inr (.inl 130), .inl (t : Int)] [] (SGx x) M Q) (E := fun M => Q none (SGx x) (M)) ?_ ?_
  · intro t M ht hP
    refine ⟨?_, ?_⟩
    · exact f_45_w hP
    · have h1t : ((t + 1 : Nat) : Int) = (t : Int) + 1 := by push_cast; rfl
      have htt : (t : Int) < N := by omega
      have h34 : (0 : Int) ≤ t ∧ (t : Int) < 120 := by omega
      have h7 := q_w7 (i := t) hP (by omega)
      have hns := q_ns_in hP 120 (M 7 t) h7.1 h7.2
      simp only [h1t]
      rw [i_45_2]
      simp (disch := omega) only [i_45_0, i_45_1, i_45_3, i_45_5, i_45_8, i_45_9, i_45_12, i_45_13, i_45_14, i_45_17, i_45_18, i_45_19, i_45_20, i_45_23, i_45_24, i_45_27, i_45_30, i_45_33, i_45_34, i_45_35, i_45_38, i_45_41, i_45_44, g_o130, g_r130_0, g_r130_1, g_a131, g_t131, g_o1, g_r1_0, g_r1_1, g_r1_2, g_r1_3, g_r1_4, g_r1_5, g_o2, g_r2_0, g_r2_1, g_r2_2, g_r2_3, g_r2_4, g_r2_5, g_r2_6, g_r2_7, g_r2_8, g_r2_9, g_a3, g_t3, g_a4, g_t4, g_a5, g_t5, g_a6, g_t6, g_a7, g_t7, g_a8, g_t8, g_a9, g_t9, g_a10, g_t10, g_a11, g_t11, g_a12, g_t12, exists_eq_left', Option.some.injEq, exists_eq_left, ne_eq, List.length_nil, List.length_cons, Option.toList_some, Option.toList_none, List.cons_append, List.nil_append, mj_wt_nil, mj_wt_i, mj_wt_r, mj_wt_l, true_and, and_true, false_and, and_false, true_implies, false_implies, implies_true, not_true_eq_false, not_false_eq_true, and_self, Int.reduceEq, Nat.reduceEqDiff, ↓reduceIte, mj_w_id2, e_46 hP h34, e_47 hns, Int.toNat_natCast]
      grind (splits := 40) [f_45, mj_w]
  · intro M hP
    rw [i_45_2]
    simp (disch := omega) only [i_45_0, i_45_1, i_45_3, i_45_5, i_45_8, i_45_9, i_45_12, i_45_13, i_45_14, i_45_17, i_45_18, i_45_19, i_45_20, i_45_23, i_45_24, i_45_27, i_45_30, i_45_33, i_45_34, i_45_35, i_45_38, i_45_41, i_45_44, g_o130, g_r130_0, g_r130_1, g_a131, g_t131, g_o1, g_r1_0, g_r1_1, g_r1_2, g_r1_3, g_r1_4, g_r1_5, g_o2, g_r2_0, g_r2_1, g_r2_2, g_r2_3, g_r2_4, g_r2_5, g_r2_6, g_r2_7, g_r2_8, g_r2_9, g_a3, g_t3, g_a4, g_t4, g_a5, g_t5, g_a6, g_t6, g_a7, g_t7, g_a8, g_t8, g_a9, g_t9, g_a10, g_t10, g_a11, g_t11, g_a12, g_t12, exists_eq_left', Option.some.injEq, exists_eq_left, ne_eq, List.length_nil, List.length_cons, Option.toList_some, Option.toList_none, List.cons_append, List.nil_append, mj_wt_nil, mj_wt_i, mj_wt_r, mj_wt_l, true_and, and_true, false_and, and_false, true_implies, false_implies, implies_true, not_true_eq_false, not_false_eq_true, and_self, Int.reduceEq, Nat.reduceEqDiff, ↓reduceIte, mj_w_id2, Int.toNat_natCast]
    grind (splits := 40) [mj_w]
def q_gbr (M : mj_M) : mj_M := q_for f_45 120 0 M
theorem q_gbr_w (w : q_wr M) : q_wr (q_gbr M) := q_for_inv (N := 120) (P := fun _ M => q_wr M) (fun t M _ h => f_45_w h) 120 0 M rfl w
theorem e_45 (w : q_wr M) : mj_Rn (d + 1) 45 0 [.inr (.inl 130), .inr (.inr 0)] [] (SGx x) M Q = Q none (SGx x) (q_gbr M) := by
  have h := l_45 (d := d) (x := x) (Q := Q) (N := 120) rfl 120 0 M rfl w
  rw [i_45_0, i_45_1]; exact h
def q_lose1 (t : Nat) (M : mj_M) : mj_M := mj_up (mj_up M 42 (10 * M 8 t + M 9 t).toNat (-1)) 3 t (-1)
def f_48 (t : Nat) (M : mj_M) : mj_M := if M 131 t ≠ 0 then mj_up (q_for (f_49 t) 40 0 (q_lose1 t M)) 131 t 0 else M
theorem q_forget_w {t : Int} (w : q_wr M) : q_wr (q_for (f_49 t) 40 0 M) := q_for_inv (N := 40) (P := fun _ M => q_wr M) (fun t M _ h => f_49_w h) 40 0 M rfl w
theorem f_48_w {t : Nat} (w : q_wr M) : q_wr (f_48 t M) := by
  unfold f_48 q_lose1; split
  · exact q_wr_up (q_forget_w (q_wr_up (q_wr_up w (by simp [q_okv])) (by simp [q_okv]))) (q_okv_o (by decide))
  · exact w
theorem l_48 {N : Nat}  (hN : N = 120) : ∀ (n t : Nat) (M : mj_M), t + n = N → (q_wr M) → mj_Rn (d + 1) 48 2 [.inr (.inl 130), .inl (t : Int)] [] (SGx x) M Q = Q none (SGx x) (mj_up (q_for f_48 n t M) 130 2 0) := by
  refine q_for_rule (N := N) (F := f_48) (P := fun t M => q_wr M) (H := fun t M => mj_Rn (d + 1) 48 2 [.inr (.inl 130), .inl (t : Int)] [] (SGx x) M Q) (E := fun M => Q none (SGx x) (mj_up M 130 2 0)) ?_ ?_
  · intro t M ht hP
    refine ⟨?_, ?_⟩
    · exact f_48_w hP
    · have h1t : ((t + 1 : Nat) : Int) = (t : Int) + 1 := by push_cast; rfl
      have htt : (t : Int) < N := by omega
      have h8 := q_w8 (i := t) hP (by omega)
      have h9 := q_w9 (i := t) hP (by omega)
      simp only [h1t]
      rw [i_48_2]
      simp (disch := omega) only [i_48_0, i_48_1, i_48_3, i_48_5, i_48_8, i_48_9, i_48_12, i_48_13, i_48_14, i_48_17, i_48_18, i_48_21, i_48_24, i_48_25, i_48_28, i_48_31, i_48_34, i_48_35, i_48_36, i_48_38, i_48_39, i_48_40, i_48_43, i_48_46, i_48_49, i_48_50, i_48_51, i_48_52, i_48_53, i_48_54, i_48_55, i_48_58, i_48_61, i_48_64, i_48_65, i_48_66, i_48_67, i_48_68, i_48_71, i_48_74, i_48_75, i_48_78, i_48_79, i_48_82, i_48_83, i_48_84, i_48_85, i_48_88, i_48_91, i_48_92, i_48_93, i_48_96, g_o130, g_r130_0, g_r130_1, g_a131, g_t131, g_o1, g_r1_0, g_r1_1, g_r1_2, g_r1_3, g_r1_4, g_r1_5, g_o13, g_r13_0, g_r13_1, g_r13_2, g_r13_3, g_r13_4, g_r13_5, g_r13_6, g_r13_7, g_o2, g_r2_0, g_r2_1, g_r2_2, g_r2_3, g_r2_4, g_r2_5, g_r2_6, g_r2_7, g_r2_8, g_r2_9, g_a3, g_t3, g_a4, g_t4, g_a5, g_t5, g_a6, g_t6, g_a7, g_t7, g_a8, g_t8, g_a9, g_t9, g_a10, g_t10, g_a11, g_t11, g_a12, g_t12, g_o1, g_r1_0, g_r1_1, g_r1_2, g_r1_3, g_r1_4, g_r1_5, g_a42, g_t42, g_a43, g_t43, exists_eq_left', Option.some.injEq, exists_eq_left, ne_eq, List.length_nil, List.length_cons, Option.toList_some, Option.toList_none, List.cons_append, List.nil_append, mj_wt_nil, mj_wt_i, mj_wt_r, mj_wt_l, true_and, and_true, false_and, and_false, true_implies, false_implies, implies_true, not_true_eq_false, not_false_eq_true, and_self, Int.reduceEq, Nat.reduceEqDiff, ↓reduceIte, mj_w_id2, e_49, mj_up_ne (show (9 : Nat) ≠ 42 by decide), mj_up_ne (show (8 : Nat) ≠ 42 by decide), Int.toNat_natCast]
      by_cases hm : M 131 t = 0 <;> simp only [f_48, q_lose1, hm, ne_eq, not_true_eq_false, not_false_eq_true, if_true, if_false, Int.mul_comm (M 8 t) 10] <;> grind [mj_w]
  · intro M hP
    rw [i_48_2]
    simp (disch := omega) only [i_48_0, i_48_1, i_48_3, i_48_5, i_48_8, i_48_9, i_48_12, i_48_13, i_48_14, i_48_17, i_48_18, i_48_21, i_48_24, i_48_25, i_48_28, i_48_31, i_48_34, i_48_35, i_48_36, i_48_38, i_48_39, i_48_40, i_48_43, i_48_46, i_48_49, i_48_50, i_48_51, i_48_52, i_48_53, i_48_54, i_48_55, i_48_58, i_48_61, i_48_64, i_48_65, i_48_66, i_48_67, i_48_68, i_48_71, i_48_74, i_48_75, i_48_78, i_48_79, i_48_82, i_48_83, i_48_84, i_48_85, i_48_88, i_48_91, i_48_92, i_48_93, i_48_96, g_o130, g_r130_0, g_r130_1, g_a131, g_t131, g_o1, g_r1_0, g_r1_1, g_r1_2, g_r1_3, g_r1_4, g_r1_5, g_o13, g_r13_0, g_r13_1, g_r13_2, g_r13_3, g_r13_4, g_r13_5, g_r13_6, g_r13_7, g_o2, g_r2_0, g_r2_1, g_r2_2, g_r2_3, g_r2_4, g_r2_5, g_r2_6, g_r2_7, g_r2_8, g_r2_9, g_a3, g_t3, g_a4, g_t4, g_a5, g_t5, g_a6, g_t6, g_a7, g_t7, g_a8, g_t8, g_a9, g_t9, g_a10, g_t10, g_a11, g_t11, g_a12, g_t12, g_o1, g_r1_0, g_r1_1, g_r1_2, g_r1_3, g_r1_4, g_r1_5, g_a42, g_t42, g_a43, g_t43, exists_eq_left', Option.some.injEq, exists_eq_left, ne_eq, List.length_nil, List.length_cons, Option.toList_some, Option.toList_none, List.cons_append, List.nil_append, mj_wt_nil, mj_wt_i, mj_wt_r, mj_wt_l, true_and, and_true, false_and, and_false, true_implies, false_implies, implies_true, not_true_eq_false, not_false_eq_true, and_self, Int.reduceEq, Nat.reduceEqDiff, ↓reduceIte, mj_w_id2, Int.toNat_natCast]
    grind (splits := 40) [mj_w]
def q_lts (M : mj_M) : mj_M := mj_up (q_for f_48 120 0 M) 130 2 0
theorem q_lts_w (w : q_wr M) : q_wr (q_lts M) := q_wr_up (q_for_inv (N := 120) (P := fun _ M => q_wr M) (fun t M _ h => f_48_w h) 120 0 M rfl w) (q_okv_o (by decide))
theorem e_48 (w : q_wr M) : mj_Rn (d + 1) 48 0 [.inr (.inl 130), .inr (.inr 0)] [] (SGx x) M Q = Q none (SGx x) (q_lts M) := by
  have h := l_48 (d := d) (x := x) (Q := Q) (N := 120) rfl 120 0 M rfl w
  rw [i_48_0, i_48_1]; exact h
theorem q_sum_b {f : Nat → Int} (hf : ∀ t, 0 ≤ f t ∧ f t ≤ 1) : ∀ (n t : Nat), 0 ≤ q_sum f n t ∧ q_sum f n t ≤ n := by
  intro n
  induction n with
  | zero => intro t; simp [q_sum]
  | succ n ih => intro t; have := ih (t + 1); have := hf t; simp only [q_sum]; omega
def q_hm (M : mj_M) (y : Int) : Int := q_sum (fun t => if M 3 t ≠ -1 ∧ M 4 t = y then 1 else 0) 120 0
theorem l_50 {y : Int}  (n : Nat) : ∀ (t : Nat) (c : Int), t + n = 120 → 0 ≤ c → c ≤ t → mj_Rn d 50 4 [.inr (.inl 2), .inl y, .inl c, .inl (t : Int)] [] (SGx x) M Q = Q (some (.inl (c + q_sum (fun t => if M 3 t ≠ -1 ∧ M 4 t = y then 1 else 0) n t))) (SGx x) M := by
  induction n with
  | zero =>
    intro t c h h1 h2
    rw [i_50_4]
    simp (disch := omega) only [i_50_0, i_50_1, i_50_2, i_50_3, i_50_5, i_50_7, i_50_10, i_50_11, i_50_12, i_50_15, i_50_16, i_50_17, i_50_18, i_50_21, i_50_22, i_50_25, i_50_26, i_50_27, i_50_28, i_50_31, i_50_32, i_50_35, i_50_36, i_50_37, i_50_38, i_50_41, i_50_44, i_50_45, g_o2, g_r2_0, g_r2_1, g_r2_2, g_r2_3, g_r2_4, g_r2_5, g_r2_6, g_r2_7, g_r2_8, g_r2_9, g_a3, g_t3, g_a4, g_t4, g_a5, g_t5, g_a6, g_t6, g_a7, g_t7, g_a8, g_t8, g_a9, g_t9, g_a10, g_t10, g_a11, g_t11, g_a12, g_t12, exists_eq_left', Option.some.injEq, exists_eq_left, ne_eq, List.length_nil, List.length_cons, Option.toList_some, Option.toList_none, List.cons_append, List.nil_append, mj_wt_nil, mj_wt_i, mj_wt_r, mj_wt_l, true_and, and_true, false_and, and_false, true_implies, false_implies, implies_true, not_true_eq_false, not_false_eq_true, and_self, Int.reduceEq, Nat.reduceEqDiff, ↓reduceIte, mj_w_id2, Int.toNat_natCast]
    have h0 : c + q_sum (fun t => if M 3 t ≠ -1 ∧ M 4 t = y then 1 else 0) 0 t = c := by simp [q_sum]
    rw [h0]
    grind
  | succ n ih =>
    intro t c h h1 h2
    have hih := ih (t + 1) c (by omega) h1 (by omega)
    have hih2 := ih (t + 1) (c + 1) (by omega) (by omega) (by omega)
    push_cast at hih hih2
    clear ih
    rw [i_50_4]
    simp (disch := omega) only [i_50_0, i_50_1, i_50_2, i_50_3, i_50_5, i_50_7, i_50_10, i_50_11, i_50_12, i_50_15, i_50_16, i_50_17, i_50_18, i_50_21, i_50_22, i_50_25, i_50_26, i_50_27, i_50_28, i_50_31, i_50_32, i_50_35, i_50_36, i_50_37, i_50_38, i_50_41, i_50_44, i_50_45, g_o2, g_r2_0, g_r2_1, g_r2_2, g_r2_3, g_r2_4, g_r2_5, g_r2_6, g_r2_7, g_r2_8, g_r2_9, g_a3, g_t3, g_a4, g_t4, g_a5, g_t5, g_a6, g_t6, g_a7, g_t7, g_a8, g_t8, g_a9, g_t9, g_a10, g_t10, g_a11, g_t11, g_a12, g_t12, exists_eq_left', Option.some.injEq, exists_eq_left, ne_eq, List.length_nil, List.length_cons, Option.toList_some, Option.toList_none, List.cons_append, List.nil_append, mj_wt_nil, mj_wt_i, mj_wt_r, mj_wt_l, true_and, and_true, false_and, and_false, true_implies, false_implies, implies_true, not_true_eq_false, not_false_eq_true, and_self, Int.reduceEq, Nat.reduceEqDiff, ↓reduceIte, mj_w_id2, Int.toNat_natCast]
    rw [q_sum, ← Int.add_assoc]
    have htt : (t : Int) < 120 := by omega
    have htn : ¬ (120 : Int) ≤ t := by omega
    grind (splits := 40) [mj_w]
theorem e_50 {y : Int}  : mj_Rn d 50 0 [.inr (.inl 2), .inl y, .inr (.inr 0), .inr (.inr 0)] [] (SGx x) M Q = Q (some (.inl (q_sum (fun t => if M 3 t ≠ -1 ∧ M 4 t = y then 1 else 0) 120 0))) (SGx x) M := by
  have h := l_50 (d := d) (x := x) (Q := Q) (M := M) (y := y) 120 0 0 (by omega) (by omega) (by omega)
  rw [i_50_0, i_50_1, i_50_2, i_50_3]
  simpa using h
end sp46
