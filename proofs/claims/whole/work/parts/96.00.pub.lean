section sp96z
variable {x : Nat} {M : mj_M} {Q : Option mj_V → mj_G → mj_M → Prop} {d : Nat}
theorem l_159b  (hd : ∀ t : Nat, t < 120 → M 3 t ≠ -1 → M 12 t = 0 ∨ M 12 t = 1) (n : Nat) : ∀ (t : Nat) (c : Int), t + n = 120 → 0 ≤ c → c ≤ t → mj_Rn d 159 4 [.inr (.inl 2), .inl c, .inl (t : Int)] [] (SGx x) M Q = Q (some (.inl (c + q_sum (fun t => if M 3 t ≠ -1 then M 12 t else 0) n t))) (SGx x) M := by
  induction n with
  | zero =>
    intro t c h h1 h2
    rw [i_159_4]
    simp (disch := omega) only [i_159_0, i_159_1, i_159_2, i_159_3, i_159_5, i_159_7, i_159_10, i_159_11, i_159_12, i_159_15, i_159_16, i_159_17, i_159_18, i_159_21, i_159_22, i_159_25, i_159_26, i_159_27, i_159_30, i_159_31, i_159_32, i_159_33, i_159_36, i_159_39, i_159_40, g_o2, g_r2_0, g_r2_1, g_r2_2, g_r2_3, g_r2_4, g_r2_5, g_r2_6, g_r2_7, g_r2_8, g_r2_9, g_a3, g_t3, g_a4, g_t4, g_a5, g_t5, g_a6, g_t6, g_a7, g_t7, g_a8, g_t8, g_a9, g_t9, g_a10, g_t10, g_a11, g_t11, g_a12, g_t12, exists_eq_left', Option.some.injEq, exists_eq_left, ne_eq, List.length_nil, List.length_cons, Option.toList_some, Option.toList_none, List.cons_append, List.nil_append, mj_wt_nil, mj_wt_i, mj_wt_r, mj_wt_l, true_and, and_true, false_and, and_false, true_implies, false_implies, implies_true, not_true_eq_false, not_false_eq_true, and_self, Int.reduceEq, Nat.reduceEqDiff, ↓reduceIte, mj_w_id2, Int.toNat_natCast]
    have h0 : c + q_sum (fun t => if M 3 t ≠ -1 then M 12 t else 0) 0 t = c := by simp [q_sum]
    rw [h0]
    grind
  | succ n ih =>
    intro t c h h1 h2
    have hih := ih (t + 1) c (by omega) h1 (by omega)
    have hih2 := ih (t + 1) (c + 1) (by omega) (by omega) (by omega)
    push_cast at hih hih2
    clear ih
    rw [i_159_4]
    simp (disch := omega) only [i_159_0, i_159_1, i_159_2, i_159_3, i_159_5, i_159_7, i_159_10, i_159_11, i_159_12, i_159_15, i_159_16, i_159_17, i_159_18, i_159_21, i_159_22, i_159_25, i_159_26, i_159_27, i_159_30, i_159_31, i_159_32, i_159_33, i_159_36, i_159_39, i_159_40, g_o2, g_r2_0, g_r2_1, g_r2_2, g_r2_3, g_r2_4, g_r2_5, g_r2_6, g_r2_7, g_r2_8, g_r2_9, g_a3, g_t3, g_a4, g_t4, g_a5, g_t5, g_a6, g_t6, g_a7, g_t7, g_a8, g_t8, g_a9, g_t9, g_a10, g_t10, g_a11, g_t11, g_a12, g_t12, exists_eq_left', Option.some.injEq, exists_eq_left, ne_eq, List.length_nil, List.length_cons, Option.toList_some, Option.toList_none, List.cons_append, List.nil_append, mj_wt_nil, mj_wt_i, mj_wt_r, mj_wt_l, true_and, and_true, false_and, and_false, true_implies, false_implies, implies_true, not_true_eq_false, not_false_eq_true, and_self, Int.reduceEq, Nat.reduceEqDiff, ↓reduceIte, mj_w_id2, Int.toNat_natCast]
    rw [q_sum, ← Int.add_assoc]
    have htt : (t : Int) < 120 := by omega
    have htn : ¬ (120 : Int) ≤ t := by omega
    by_cases h3 : M 3 t = -1
    · grind (splits := 40) [mj_w]
    · rcases hd t (by omega) h3 with hd | hd
      · grind (splits := 40) [mj_w]
      · grind (splits := 40) [mj_w]
theorem e_159b  (hd : ∀ t : Nat, t < 120 → M 3 t ≠ -1 → M 12 t = 0 ∨ M 12 t = 1) : mj_Rn d 159 0 [.inr (.inl 2), .inr (.inr 0), .inr (.inr 0)] [] (SGx x) M Q = Q (some (.inl (q_sum (fun t => if M 3 t ≠ -1 then M 12 t else 0) 120 0))) (SGx x) M := by
  have h := l_159b (d := d) (x := x) (Q := Q) (M := M)  hd 120 0 0 (by omega) (by omega) (by omega)
  rw [i_159_0, i_159_1, i_159_2, i_159_3]
  simpa using h
end sp96z
