section sp94x
variable {x : Nat} {M : mj_M} {Q : Option mj_V → mj_G → mj_M → Prop} {d : Nat}
theorem l_157   (n : Nat) : ∀ (t : Nat) (c : Int), t + n = 40 → 0 ≤ c → c ≤ t → mj_Rn d 157 4 [.inr (.inl 13), .inl c, .inl (t : Int)] [] (SGx x) M Q = Q (some (.inl (c + q_sum (fun t => if M 14 t ≠ -1 then 1 else 0) n t))) (SGx x) M := by
  induction n with
  | zero =>
    intro t c h h1 h2
    rw [i_157_4]
    simp (disch := omega) only [i_157_0, i_157_1, i_157_2, i_157_3, i_157_5, i_157_7, i_157_10, i_157_11, i_157_12, i_157_15, i_157_16, i_157_17, i_157_18, i_157_21, i_157_22, i_157_25, i_157_26, i_157_27, i_157_28, i_157_31, i_157_34, i_157_35, g_o13, g_r13_0, g_r13_1, g_r13_2, g_r13_3, g_r13_4, g_r13_5, g_r13_6, g_r13_7, g_a14, g_t14, g_a15, g_t15, g_a16, g_t16, g_a17, g_t17, g_a18, g_t18, g_a19, g_t19, g_a20, g_t20, g_a21, g_t21, exists_eq_left', Option.some.injEq, exists_eq_left, ne_eq, List.length_nil, List.length_cons, Option.toList_some, Option.toList_none, List.cons_append, List.nil_append, mj_wt_nil, mj_wt_i, mj_wt_r, mj_wt_l, true_and, and_true, false_and, and_false, true_implies, false_implies, implies_true, not_true_eq_false, not_false_eq_true, and_self, Int.reduceEq, Nat.reduceEqDiff, ↓reduceIte, mj_w_id2, Int.toNat_natCast]
    have h0 : c + q_sum (fun t => if M 14 t ≠ -1 then 1 else 0) 0 t = c := by simp [q_sum]
    rw [h0]
    grind
  | succ n ih =>
    intro t c h h1 h2
    have hih := ih (t + 1) c (by omega) h1 (by omega)
    have hih2 := ih (t + 1) (c + 1) (by omega) (by omega) (by omega)
    push_cast at hih hih2
    clear ih
    rw [i_157_4]
    simp (disch := omega) only [i_157_0, i_157_1, i_157_2, i_157_3, i_157_5, i_157_7, i_157_10, i_157_11, i_157_12, i_157_15, i_157_16, i_157_17, i_157_18, i_157_21, i_157_22, i_157_25, i_157_26, i_157_27, i_157_28, i_157_31, i_157_34, i_157_35, g_o13, g_r13_0, g_r13_1, g_r13_2, g_r13_3, g_r13_4, g_r13_5, g_r13_6, g_r13_7, g_a14, g_t14, g_a15, g_t15, g_a16, g_t16, g_a17, g_t17, g_a18, g_t18, g_a19, g_t19, g_a20, g_t20, g_a21, g_t21, exists_eq_left', Option.some.injEq, exists_eq_left, ne_eq, List.length_nil, List.length_cons, Option.toList_some, Option.toList_none, List.cons_append, List.nil_append, mj_wt_nil, mj_wt_i, mj_wt_r, mj_wt_l, true_and, and_true, false_and, and_false, true_implies, false_implies, implies_true, not_true_eq_false, not_false_eq_true, and_self, Int.reduceEq, Nat.reduceEqDiff, ↓reduceIte, mj_w_id2, Int.toNat_natCast]
    rw [q_sum, ← Int.add_assoc]
    have htt : (t : Int) < 40 := by omega
    have htn : ¬ (40 : Int) ≤ t := by omega
    grind (splits := 40) [mj_w]
theorem e_157   : mj_Rn d 157 0 [.inr (.inl 13), .inr (.inr 0), .inr (.inr 0)] [] (SGx x) M Q = Q (some (.inl (q_sum (fun t => if M 14 t ≠ -1 then 1 else 0) 40 0))) (SGx x) M := by
  have h := l_157 (d := d) (x := x) (Q := Q) (M := M)   40 0 0 (by omega) (by omega) (by omega)
  rw [i_157_0, i_157_1, i_157_2, i_157_3]
  simpa using h
theorem l_158   (n : Nat) : ∀ (t : Nat) (c : Int), t + n = 120 → 0 ≤ c → c ≤ t → mj_Rn d 158 4 [.inr (.inl 2), .inl c, .inl (t : Int)] [] (SGx x) M Q = Q (some (.inl (c + q_sum (fun t => if M 3 t ≠ -1 then 1 else 0) n t))) (SGx x) M := by
  induction n with
  | zero =>
    intro t c h h1 h2
    rw [i_158_4]
    simp (disch := omega) only [i_158_0, i_158_1, i_158_2, i_158_3, i_158_5, i_158_7, i_158_10, i_158_11, i_158_12, i_158_15, i_158_16, i_158_17, i_158_18, i_158_21, i_158_22, i_158_25, i_158_26, i_158_27, i_158_28, i_158_31, i_158_34, i_158_35, g_o2, g_r2_0, g_r2_1, g_r2_2, g_r2_3, g_r2_4, g_r2_5, g_r2_6, g_r2_7, g_r2_8, g_r2_9, g_a3, g_t3, g_a4, g_t4, g_a5, g_t5, g_a6, g_t6, g_a7, g_t7, g_a8, g_t8, g_a9, g_t9, g_a10, g_t10, g_a11, g_t11, g_a12, g_t12, exists_eq_left', Option.some.injEq, exists_eq_left, ne_eq, List.length_nil, List.length_cons, Option.toList_some, Option.toList_none, List.cons_append, List.nil_append, mj_wt_nil, mj_wt_i, mj_wt_r, mj_wt_l, true_and, and_true, false_and, and_false, true_implies, false_implies, implies_true, not_true_eq_false, not_false_eq_true, and_self, Int.reduceEq, Nat.reduceEqDiff, ↓reduceIte, mj_w_id2, Int.toNat_natCast]
    have h0 : c + q_sum (fun t => if M 3 t ≠ -1 then 1 else 0) 0 t = c := by simp [q_sum]
    rw [h0]
    grind
  | succ n ih =>
    intro t c h h1 h2
    have hih := ih (t + 1) c (by omega) h1 (by omega)
    have hih2 := ih (t + 1) (c + 1) (by omega) (by omega) (by omega)
    push_cast at hih hih2
    clear ih
    rw [i_158_4]
    simp (disch := omega) only [i_158_0, i_158_1, i_158_2, i_158_3, i_158_5, i_158_7, i_158_10, i_158_11, i_158_12, i_158_15, i_158_16, i_158_17, i_158_18, i_158_21, i_158_22, i_158_25, i_158_26, i_158_27, i_158_28, i_158_31, i_158_34, i_158_35, g_o2, g_r2_0, g_r2_1, g_r2_2, g_r2_3, g_r2_4, g_r2_5, g_r2_6, g_r2_7, g_r2_8, g_r2_9, g_a3, g_t3, g_a4, g_t4, g_a5, g_t5, g_a6, g_t6, g_a7, g_t7, g_a8, g_t8, g_a9, g_t9, g_a10, g_t10, g_a11, g_t11, g_a12, g_t12, exists_eq_left', Option.some.injEq, exists_eq_left, ne_eq, List.length_nil, List.length_cons, Option.toList_some, Option.toList_none, List.cons_append, List.nil_append, mj_wt_nil, mj_wt_i, mj_wt_r, mj_wt_l, true_and, and_true, false_and, and_false, true_implies, false_implies, implies_true, not_true_eq_false, not_false_eq_true, and_self, Int.reduceEq, Nat.reduceEqDiff, ↓reduceIte, mj_w_id2, Int.toNat_natCast]
    rw [q_sum, ← Int.add_assoc]
    have htt : (t : Int) < 120 := by omega
    have htn : ¬ (120 : Int) ≤ t := by omega
    grind (splits := 40) [mj_w]
theorem e_158   : mj_Rn d 158 0 [.inr (.inl 2), .inr (.inr 0), .inr (.inr 0)] [] (SGx x) M Q = Q (some (.inl (q_sum (fun t => if M 3 t ≠ -1 then 1 else 0) 120 0))) (SGx x) M := by
  have h := l_158 (d := d) (x := x) (Q := Q) (M := M)   120 0 0 (by omega) (by omega) (by omega)
  rw [i_158_0, i_158_1, i_158_2, i_158_3]
  simpa using h
theorem l_159  (hd : ∀ t : Nat, t < 120 → M 12 t = 0 ∨ M 12 t = 1) (n : Nat) : ∀ (t : Nat) (c : Int), t + n = 120 → 0 ≤ c → c ≤ t → mj_Rn d 159 4 [.inr (.inl 2), .inl c, .inl (t : Int)] [] (SGx x) M Q = Q (some (.inl (c + q_sum (fun t => if M 3 t ≠ -1 then M 12 t else 0) n t))) (SGx x) M := by
  induction n with
  | zero =>
    intro t c h h1 h2
    rw [i_159_4]
    simp (disch := omega) only [i_159_0, i_159_1, i_159_2, i_159_3, i_159_5, i_159_7, i_159_10, i_159_11, i_159_12, i_159_15, i_159_16, i_159_17, i_159_18, i_159_21, i_159_22, i_159_25, i_159_26, i_159_27, i_159_30, i_159_31, i_159_32, i_159_33, i_159_36, i_159_39, i_159_40, g_o2, g_r2_0, g_r2_1, g_r2_2, g_r2_3, g_r2_4, g_r2_5, g_r2_6, g_r2_7, g_r2_8, g_r2_9, g_a3, g_t3, g_a4, g_t4, g_a5, g_t5, g_a6, g_t6, g_a7, g_t7, g_a8, g_t8, g_a9, g_t9, g_a10, g_t10, g_a11, g_t11, g_a12, g_t12, exists_eq_left', Option.some.injEq, exists_eq_left, ne_eq, List.length_nil, List.length_cons, Option.toList_some, Option.toList_none, List.cons_append, List.nil_append, mj_wt_nil, mj_wt_i, mj_wt_r, mj_wt_l, true_and, and_true, false_and, and_false, true_implies, false_implies, implies_true, not_true_eq_false, not_false_eq_true, and_self, Int.reduceEq, Nat.reduceEqDiff, ↓reduceIte, mj_w_id2, Int.toNat_natCast]
    have h0 : c + q_sum (fun t => if M 3 t ≠ -1 then M 12 t else 0) 0 t = c := by simp [q_sum]
    rw [h0]
    grind
  | succ n ih =>
    intro t c h h1 h2
    have hih := ih (t + 1) c (by omega) h1 (by omega)
    have hih2 := ih (t + 1) (c + 1) (by omega) (by omega) (by omega)
    push_cast at hih hih2
    clear ih
    rw [i_159_4]
    simp (disch := omega) only [i_159_0, i_159_1, i_159_2, i_159_3, i_159_5, i_159_7, i_159_10, i_159_11, i_159_12, i_159_15, i_159_16, i_159_17, i_159_18, i_159_21, i_159_22, i_159_25, i_159_26, i_159_27, i_159_30, i_159_31, i_159_32, i_159_33, i_159_36, i_159_39, i_159_40, g_o2, g_r2_0, g_r2_1, g_r2_2, g_r2_3, g_r2_4, g_r2_5, g_r2_6, g_r2_7, g_r2_8, g_r2_9, g_a3, g_t3, g_a4, g_t4, g_a5, g_t5, g_a6, g_t6, g_a7, g_t7, g_a8, g_t8, g_a9, g_t9, g_a10, g_t10, g_a11, g_t11, g_a12, g_t12, exists_eq_left', Option.some.injEq, exists_eq_left, ne_eq, List.length_nil, List.length_cons, Option.toList_some, Option.toList_none, List.cons_append, List.nil_append, mj_wt_nil, mj_wt_i, mj_wt_r, mj_wt_l, true_and, and_true, false_and, and_false, true_implies, false_implies, implies_true, not_true_eq_false, not_false_eq_true, and_self, Int.reduceEq, Nat.reduceEqDiff, ↓reduceIte, mj_w_id2, Int.toNat_natCast]
    rw [q_sum, ← Int.add_assoc]
    have htt : (t : Int) < 120 := by omega
    have htn : ¬ (120 : Int) ≤ t := by omega
    rcases hd t (by omega) with hd | hd
    · grind (splits := 40) [mj_w]
    · grind (splits := 40) [mj_w]
theorem e_159  (hd : ∀ t : Nat, t < 120 → M 12 t = 0 ∨ M 12 t = 1) : mj_Rn d 159 0 [.inr (.inl 2), .inr (.inr 0), .inr (.inr 0)] [] (SGx x) M Q = Q (some (.inl (q_sum (fun t => if M 3 t ≠ -1 then M 12 t else 0) 120 0))) (SGx x) M := by
  have h := l_159 (d := d) (x := x) (Q := Q) (M := M)  hd 120 0 0 (by omega) (by omega) (by omega)
  rw [i_159_0, i_159_1, i_159_2, i_159_3]
  simpa using h
theorem l_74 {o : Int} (w : q_wr M) (n : Nat) : ∀ (t : Nat) (c : Int), t + n = 120 → 0 ≤ c → c ≤ t → mj_Rn (d + 1) 74 4 [.inr (.inl 2), .inl o, .inl c, .inl (t : Int)] [] (SGx x) M Q = Q (some (.inl (c + q_sum (fun t => if M 3 t ≠ -1 ∧ q_co M o 120 (M 7 t) = 1 then 1 else 0) n t))) (SGx x) M := by
  induction n with
  | zero =>
    intro t c h h1 h2
    rw [i_74_4]
    simp (disch := omega) only [i_74_0, i_74_1, i_74_2, i_74_3, i_74_5, i_74_7, i_74_10, i_74_11, i_74_12, i_74_15, i_74_16, i_74_17, i_74_18, i_74_21, i_74_22, i_74_23, i_74_24, i_74_27, i_74_30, i_74_31, i_74_34, i_74_35, i_74_36, i_74_37, i_74_40, i_74_43, i_74_44, g_o2, g_r2_0, g_r2_1, g_r2_2, g_r2_3, g_r2_4, g_r2_5, g_r2_6, g_r2_7, g_r2_8, g_r2_9, g_a3, g_t3, g_a4, g_t4, g_a5, g_t5, g_a6, g_t6, g_a7, g_t7, g_a8, g_t8, g_a9, g_t9, g_a10, g_t10, g_a11, g_t11, g_a12, g_t12, exists_eq_left', Option.some.injEq, exists_eq_left, ne_eq, List.length_nil, List.length_cons, Option.toList_some, Option.toList_none, List.cons_append, List.nil_append, mj_wt_nil, mj_wt_i, mj_wt_r, mj_wt_l, true_and, and_true, false_and, and_false, true_implies, false_implies, implies_true, not_true_eq_false, not_false_eq_true, and_self, Int.reduceEq, Nat.reduceEqDiff, ↓reduceIte, mj_w_id2, Int.toNat_natCast]
    have h0 : c + q_sum (fun t => if M 3 t ≠ -1 ∧ q_co M o 120 (M 7 t) = 1 then 1 else 0) 0 t = c := by simp [q_sum]
    rw [h0]
    grind
  | succ n ih =>
    intro t c h h1 h2
    have hih := ih (t + 1) c (by omega) h1 (by omega)
    have hih2 := ih (t + 1) (c + 1) (by omega) (by omega) (by omega)
    push_cast at hih hih2
    clear ih
    have h120 : (0 : Int) ≤ t ∧ (t : Int) < 120 := by omega
    have h01 := q_co_01 (M := M) (o := o) 120 (M 7 t)
    rw [i_74_4]
    simp (disch := omega) only [i_74_0, i_74_1, i_74_2, i_74_3, i_74_5, i_74_7, i_74_10, i_74_11, i_74_12, i_74_15, i_74_16, i_74_17, i_74_18, i_74_21, i_74_22, i_74_23, i_74_24, i_74_27, i_74_30, i_74_31, i_74_34, i_74_35, i_74_36, i_74_37, i_74_40, i_74_43, i_74_44, g_o2, g_r2_0, g_r2_1, g_r2_2, g_r2_3, g_r2_4, g_r2_5, g_r2_6, g_r2_7, g_r2_8, g_r2_9, g_a3, g_t3, g_a4, g_t4, g_a5, g_t5, g_a6, g_t6, g_a7, g_t7, g_a8, g_t8, g_a9, g_t9, g_a10, g_t10, g_a11, g_t11, g_a12, g_t12, exists_eq_left', Option.some.injEq, exists_eq_left, ne_eq, List.length_nil, List.length_cons, Option.toList_some, Option.toList_none, List.cons_append, List.nil_append, mj_wt_nil, mj_wt_i, mj_wt_r, mj_wt_l, true_and, and_true, false_and, and_false, true_implies, false_implies, implies_true, not_true_eq_false, not_false_eq_true, and_self, Int.reduceEq, Nat.reduceEqDiff, ↓reduceIte, mj_w_id2, Int.toNat_natCast, e_38 w h120]
    rw [q_sum, ← Int.add_assoc]
    have htt : (t : Int) < 120 := by omega
    have htn : ¬ (120 : Int) ≤ t := by omega
    grind (splits := 40) [mj_w]
theorem e_74 {o : Int} (w : q_wr M) : mj_Rn (d + 1) 74 0 [.inr (.inl 2), .inl o, .inr (.inr 0), .inr (.inr 0)] [] (SGx x) M Q = Q (some (.inl (q_sum (fun t => if M 3 t ≠ -1 ∧ q_co M o 120 (M 7 t) = 1 then 1 else 0) 120 0))) (SGx x) M := by
  have h := l_74 (d := d) (x := x) (Q := Q) (M := M) (o := o) w 120 0 0 (by omega) (by omega) (by omega)
  rw [i_74_0, i_74_1, i_74_2, i_74_3]
  simpa using h
end sp94x
