section sp42
variable {x : Nat} {M : mj_M} {Q : Option mj_V → mj_G → mj_M → Prop} {d : Nat}
def q_dmF (M : mj_M) (o : Int) (t : Nat) : mj_M := mj_upr M 12 fun i => if i < t ∧ M 3 i ≠ -1 ∧ q_co M o 120 (M 7 i) = 1 then 1 else M 12 i
theorem q_dmF_ne {o : Int} {t a : Nat} (h : a ≠ 12) : q_dmF M o t a = M a := mj_upr_ne h
theorem q_co_ext {M' : mj_M} {o : Int} (h : M' 7 = M 7) : ∀ (n : Nat) (u : Int), q_co M' o n u = q_co M o n u := by
  intro n
  induction n with
  | zero => intro u; rfl
  | succ n ih => intro u; simp only [q_co, h, ih]
theorem q_dmF_s {o : Int} {t : Nat} (h : M 3 t ≠ -1 ∧ q_co M o 120 (M 7 t) = 1) : mj_up (q_dmF M o t) 12 t 1 = q_dmF M o (t + 1) := by
  funext a i
  unfold q_dmF mj_up mj_upr
  by_cases ha : a = 12
  · simp only [ha, if_true]
    by_cases hi : i = t
    · subst hi; simp [h]
    · by_cases h2 : i < t
      · simp [hi, h2, show i < t + 1 by omega]
      · simp [hi, h2, show ¬ i < t + 1 by omega]
  · simp [ha]
theorem q_dmF_k {o : Int} {t : Nat} (h : ¬ (M 3 t ≠ -1 ∧ q_co M o 120 (M 7 t) = 1)) : q_dmF M o t = q_dmF M o (t + 1) := by
  funext a i
  unfold q_dmF mj_upr
  by_cases ha : a = 12
  · simp only [ha, if_true]
    by_cases hi : i = t
    · subst hi; rw [if_neg (fun q => h q.2), if_neg (fun q => h q.2)]
    · by_cases h2 : i < t
      · simp [h2, show i < t + 1 by omega]
      · simp [h2, show ¬ i < t + 1 by omega]
  · simp [ha]
theorem q_dmF_0 {o : Int} : q_dmF M o 0 = M := by funext a i; unfold q_dmF mj_upr; split <;> simp_all
theorem q_wr_dm {o : Int} {t : Nat} (w : q_wr M) : q_wr (q_dmF M o t) := by
  unfold q_wr at *
  simp only [q_dmF_ne (show 3 ≠ 12 by decide), q_dmF_ne (show 4 ≠ 12 by decide), q_dmF_ne (show 7 ≠ 12 by decide), q_dmF_ne (show 8 ≠ 12 by decide), q_dmF_ne (show 9 ≠ 12 by decide), q_dmF_ne (show 10 ≠ 12 by decide), q_dmF_ne (show 42 ≠ 12 by decide), q_dmF_ne (show 14 ≠ 12 by decide), q_dmF_ne (show 15 ≠ 12 by decide), q_dmF_ne (show 17 ≠ 12 by decide), q_dmF_ne (show 18 ≠ 12 by decide), q_dmF_ne (show 19 ≠ 12 by decide), q_dmF_ne (show 23 ≠ 12 by decide), q_dmF_ne (show 27 ≠ 12 by decide), q_dmF_ne (show 28 ≠ 12 by decide), q_dmF_ne (show 29 ≠ 12 by decide), q_dmF_ne (show 30 ≠ 12 by decide), q_dmF_ne (show 31 ≠ 12 by decide), q_dmF_ne (show 22 ≠ 12 by decide), q_dmF_ne (show 36 ≠ 12 by decide), q_dmF_ne (show 1 ≠ 12 by decide)]
  exact w
theorem q_co_01 {o : Int} : ∀ (n : Nat) (u : Int), q_co M o n u = 0 ∨ q_co M o n u = 1 := by
  intro n
  induction n with
  | zero => intro u; exact Or.inl rfl
  | succ n ih => intro u; have := ih (M 7 u.toNat); grind [q_co]
theorem l_37 (w : q_wr M) {o : Int} (n : Nat) : ∀ (t : Nat), t + n = 120 → mj_Rn (d + 1) 37 2 [.inr (.inl 2), .inl o, .inl (t : Int)] [] (SGx x) (q_dmF M o t) Q = Q none (SGx x) (q_dmF M o 120) := by
  induction n with
  | zero =>
    intro t h
    have : t = 120 := by omega
    subst this
    rw [i_37_2]
    simp (disch := omega) only [i_37_0, i_37_1, i_37_3, i_37_5, i_37_8, i_37_9, i_37_12, i_37_13, i_37_14, i_37_15, i_37_18, i_37_19, i_37_20, i_37_21, i_37_24, i_37_27, i_37_28, i_37_31, i_37_32, i_37_33, i_37_34, i_37_37, i_37_40, g_o2, g_r2_0, g_r2_1, g_r2_2, g_r2_3, g_r2_4, g_r2_5, g_r2_6, g_r2_7, g_r2_8, g_r2_9, g_a3, g_t3, g_a4, g_t4, g_a5, g_t5, g_a6, g_t6, g_a7, g_t7, g_a8, g_t8, g_a9, g_t9, g_a10, g_t10, g_a11, g_t11, g_a12, g_t12, exists_eq_left', Option.some.injEq, exists_eq_left, ne_eq, List.length_nil, List.length_cons, Option.toList_some, Option.toList_none, List.cons_append, List.nil_append, mj_wt_nil, mj_wt_i, mj_wt_r, mj_wt_l, true_and, and_true, false_and, and_false, true_implies, false_implies, implies_true, not_true_eq_false, not_false_eq_true, and_self, Int.reduceEq, Nat.reduceEqDiff, ↓reduceIte, mj_w_id2, Int.toNat_natCast]
    grind
  | succ n ih =>
    intro t h
    have e3 : q_dmF M o t 3 = M 3 := q_dmF_ne (by decide)
    have e7 : q_dmF M o t 7 = M 7 := q_dmF_ne (by decide)
    have hih := ih (t + 1) (by omega)
    push_cast at hih
    rw [i_37_2]
    simp (disch := omega) only [i_37_0, i_37_1, i_37_3, i_37_5, i_37_8, i_37_9, i_37_12, i_37_13, i_37_14, i_37_15, i_37_18, i_37_19, i_37_20, i_37_21, i_37_24, i_37_27, i_37_28, i_37_31, i_37_32, i_37_33, i_37_34, i_37_37, i_37_40, g_o2, g_r2_0, g_r2_1, g_r2_2, g_r2_3, g_r2_4, g_r2_5, g_r2_6, g_r2_7, g_r2_8, g_r2_9, g_a3, g_t3, g_a4, g_t4, g_a5, g_t5, g_a6, g_t6, g_a7, g_t7, g_a8, g_t8, g_a9, g_t9, g_a10, g_t10, g_a11, g_t11, g_a12, g_t12, exists_eq_left', Option.some.injEq, exists_eq_left, ne_eq, List.length_nil, List.length_cons, Option.toList_some, Option.toList_none, List.cons_append, List.nil_append, mj_wt_nil, mj_wt_i, mj_wt_r, mj_wt_l, true_and, and_true, false_and, and_false, true_implies, false_implies, implies_true, not_true_eq_false, not_false_eq_true, and_self, Int.reduceEq, Nat.reduceEqDiff, ↓reduceIte, mj_w_id2, e_38 (q_wr_dm w) ⟨Int.natCast_nonneg t, (by omega : (t : Int) < 120)⟩, e3, e7, q_co_ext e7, Int.toNat_natCast]
    have htt : (t : Int) < 120 := by omega
    have htn : ¬ (120 : Int) ≤ t := by omega
    by_cases h3 : M 3 t = -1
    · rw [q_dmF_k (fun q => q.1 h3)]
      simp [h3, hih, htt, htn]
    · rcases q_co_01 (M := M) (o := o) 120 (M 7 t) with h4 | h4
      · rw [q_dmF_k (fun q => by omega)]
        simp [h3, h4, hih, htt, htn]
      · rw [q_dmF_s ⟨h3, h4⟩]
        simp [h3, h4, hih, htt, htn]
theorem e_37 (w : q_wr M) {o : Int} : mj_Rn (d + 1) 37 0 [.inr (.inl 2), .inl o, .inr (.inr 0)] [] (SGx x) M Q = Q none (SGx x) (q_dmF M o 120) := by
  have := l_37 (Q := Q) (x := x) (d := d) w (o := o) 120 0 (by omega)
  rw [q_dmF_0] at this
  rw [i_37_0, i_37_1]
  exact this
def q_take (M : mj_M) (t : Int) : Int := q_fits M t 8
def q_takeM (M : mj_M) (t : Int) : mj_M := if q_fits M t 8 = 1 then q_dmF M t 120 else M
theorem e_36 {t : Int} (w : q_wr M) (ht : -1 ≤ t ∧ t < 120) : mj_Rn (d + 2) 36 0 [.inr (.inl 132), .inl t] [] (SGx x) M Q = Q (some (.inl (q_take M t))) (SGx x) (q_takeM M t) := by
  simp (disch := omega) only [i_36_0, i_36_1, i_36_4, i_36_5, i_36_7, i_36_10, i_36_13, i_36_14, i_36_15, i_36_16, i_36_19, i_36_22, i_36_23, i_36_26, i_36_27, g_o132, g_r132_0, g_r132_1, g_o1, g_r1_0, g_r1_1, g_r1_2, g_r1_3, g_r1_4, g_r1_5, g_o2, g_r2_0, g_r2_1, g_r2_2, g_r2_3, g_r2_4, g_r2_5, g_r2_6, g_r2_7, g_r2_8, g_r2_9, g_a3, g_t3, g_a4, g_t4, g_a5, g_t5, g_a6, g_t6, g_a7, g_t7, g_a8, g_t8, g_a9, g_t9, g_a10, g_t10, g_a11, g_t11, g_a12, g_t12, exists_eq_left', Option.some.injEq, exists_eq_left, ne_eq, List.length_nil, List.length_cons, Option.toList_some, Option.toList_none, List.cons_append, List.nil_append, mj_wt_nil, mj_wt_i, mj_wt_r, mj_wt_l, true_and, and_true, false_and, and_false, true_implies, false_implies, implies_true, not_true_eq_false, not_false_eq_true, and_self, Int.reduceEq, Nat.reduceEqDiff, ↓reduceIte, mj_w_id2, e_27 ht, e_37 w]
  grind (splits := 40) [q_take, q_takeM, q_fits, mj_w]
def q_nin (M : mj_M) (t : Int) : Int := if M 18 t.toNat ≤ M 19 t.toNat then 0 else M 21 (30 * t + M 19 t.toNat).toNat
def q_ninM (M : mj_M) (t : Int) : mj_M := if M 18 t.toNat ≤ M 19 t.toNat then M else mj_up M 19 t.toNat (M 19 t.toNat + 1)
theorem e_62 {t : Int} (w : q_wr M) (ht : 0 ≤ t ∧ t < 40) : mj_Rn d 62 0 [.inr (.inl 13), .inl t, .inr (.inr 0)] [] (SGx x) M Q = Q (some (.inl (q_nin M t))) (SGx x) (q_ninM M t) := by
  have w1 := w.2.2.2.2.2.2.2.2.2.2.1 t.toNat (by omega)
  have w2 := w.2.2.2.2.2.2.2.2.2.2.2.1 t.toNat (by omega)
  have e1 : mj_w (30 * t + M 19 t.toNat) = 30 * t + M 19 t.toNat := mj_w_id2 (by omega) (by omega)
  simp (disch := omega) only [i_62_0, i_62_1, i_62_4, i_62_5, i_62_6, i_62_7, i_62_10, i_62_11, i_62_12, i_62_15, i_62_16, i_62_17, i_62_18, i_62_20, i_62_21, i_62_22, i_62_25, i_62_26, i_62_27, i_62_28, i_62_29, i_62_30, i_62_33, i_62_34, i_62_35, i_62_36, i_62_37, i_62_38, i_62_39, i_62_40, i_62_43, i_62_44, i_62_45, g_o13, g_r13_0, g_r13_1, g_r13_2, g_r13_3, g_r13_4, g_r13_5, g_r13_6, g_r13_7, g_a14, g_t14, g_a15, g_t15, g_a16, g_t16, g_a17, g_t17, g_a18, g_t18, g_a19, g_t19, g_a20, g_t20, g_a21, g_t21, exists_eq_left', Option.some.injEq, exists_eq_left, ne_eq, List.length_nil, List.length_cons, Option.toList_some, Option.toList_none, List.cons_append, List.nil_append, mj_wt_nil, mj_wt_i, mj_wt_r, mj_wt_l, true_and, and_true, false_and, and_false, true_implies, false_implies, implies_true, not_true_eq_false, not_false_eq_true, and_self, Int.reduceEq, Nat.reduceEqDiff, ↓reduceIte, mj_w_id2, mj_up_ne (show (21 : Nat) ≠ 19 by decide)]
  grind (splits := 40) [q_nin, q_ninM, mj_up, mj_w]
def q_pout (M : mj_M) (t v : Int) : mj_M := if M 17 t.toNat < 30 then mj_up (mj_up M 20 (30 * t + M 17 t.toNat).toNat v) 17 t.toNat (M 17 t.toNat + 1) else mj_up M 17 t.toNat (M 17 t.toNat + 1)
theorem e_65 {t v : Int} (w : q_wr M) (ht : 0 ≤ t ∧ t < 40) : mj_Rn d 65 0 [.inr (.inl 13), .inl t, .inl v] [] (SGx x) M Q = Q none (SGx x) (q_pout M t v) := by
  have w1 := w.2.2.2.2.2.2.2.2.2.1 t.toNat (by omega)
  simp (disch := omega) only [i_65_0, i_65_1, i_65_4, i_65_5, i_65_6, i_65_8, i_65_11, i_65_12, i_65_15, i_65_16, i_65_18, i_65_19, i_65_20, i_65_23, i_65_24, i_65_25, i_65_26, i_65_27, i_65_28, i_65_29, i_65_32, i_65_33, i_65_34, i_65_35, i_65_36, i_65_37, i_65_38, g_o13, g_r13_0, g_r13_1, g_r13_2, g_r13_3, g_r13_4, g_r13_5, g_r13_6, g_r13_7, g_a14, g_t14, g_a15, g_t15, g_a16, g_t16, g_a17, g_t17, g_a18, g_t18, g_a19, g_t19, g_a20, g_t20, g_a21, g_t21, exists_eq_left', Option.some.injEq, exists_eq_left, ne_eq, List.length_nil, List.length_cons, Option.toList_some, Option.toList_none, List.cons_append, List.nil_append, mj_wt_nil, mj_wt_i, mj_wt_r, mj_wt_l, true_and, and_true, false_and, and_false, true_implies, false_implies, implies_true, not_true_eq_false, not_false_eq_true, and_self, Int.reduceEq, Nat.reduceEqDiff, ↓reduceIte, mj_w_id2, mj_up_ne (show (17 : Nat) ≠ 20 by decide)]
  grind (splits := 40) [q_pout, mj_up, mj_w]
end sp42
