section sp48
variable {x : Nat} {M : mj_M} {Q : Option mj_V → mj_G → mj_M → Prop} {d : Nat}
def f_42 (t : Nat) (M : mj_M) : mj_M := if M 14 t ≠ -1 ∧ q_hm M t = 0 then q_lt M t else M
theorem f_42_w {t : Nat} (w : q_wr M) : q_wr (f_42 t M) := by
  unfold f_42; split
  · exact q_lt_w w
  · exact w
def q_pass (M : mj_M) : mj_M := q_for f_42 39 1 (q_lts (q_gbr (q_mab M)))
theorem q_pass_w (w : q_wr M) : q_wr (q_pass M) := q_for_inv (N := 40) (P := fun _ M => q_wr M) (fun t M _ h => f_42_w h) 39 1 _ rfl (q_lts_w (q_gbr_w (q_mab_w w)))
def q_swp : Nat → mj_M → mj_M
  | 0, M => M
  | n + 1, M => if M 130 2 = 0 then M else q_swp n (q_pass M)
theorem q_swp_w : ∀ (n : Nat) (M : mj_M), q_wr M → q_wr (q_swp n M) := by
  intro n
  induction n with
  | zero => intro M w; exact w
  | succ n ih =>
    intro M w
    unfold q_swp
    split
    · exact w
    · exact ih _ (q_pass_w w)
def q_sweep (M : mj_M) : mj_M := q_swp 41 M
theorem q_sweep_w (w : q_wr M) : q_wr (q_sweep M) := q_swp_w 41 M w
theorem q_hm_in {y : Int} : 0 ≤ q_hm M y ∧ q_hm M y ≤ 120 := q_sum_b (fun t => by split <;> omega) 120 0
theorem l_42b {pp : Int} (hp : 0 ≤ pp ∧ pp ≤ 40) : ∀ (n t : Nat) (M : mj_M), t + n = 40 → q_wr M → mj_Rn (d + 4) 42 29 [.inr (.inl 130), .inl pp, .inl (t : Int)] [] (SGx x) M Q = mj_Rn (d + 4) 42 2 [.inr (.inl 130), .inl (pp + 1), .inl 40] [] (SGx x) (q_for f_42 n t M) Q := by
  refine q_for_rule (N := 40) (F := f_42) (P := fun t M => q_wr M) (H := fun t M => mj_Rn (d + 4) 42 29 [.inr (.inl 130), .inl pp, .inl (t : Int)] [] (SGx x) M Q) (E := fun M => mj_Rn (d + 4) 42 2 [.inr (.inl 130), .inl (pp + 1), .inl 40] [] (SGx x) M Q) ?_ ?_
  · intro t M ht hP
    refine ⟨f_42_w hP, ?_⟩
    have h1t : ((t + 1 : Nat) : Int) = (t : Int) + 1 := by push_cast; rfl
    have hm := q_hm_in (M := M) (y := t)
    have e50 := fun (d : Nat) (Q : Option mj_V → mj_G → mj_M → Prop) => e_50 (x := x) (M := M) (Q := Q) (d := d) (y := t)
    simp only [show q_sum (fun k => if M 3 k ≠ -1 ∧ M 4 k = t then 1 else 0) 120 0 = q_hm M t from rfl] at e50
    have h40 : (0 : Int) ≤ t ∧ (t : Int) < 40 := by omega
    simp only [h1t]
    rw [i_42_29]
    by_cases h1 : M 14 t = -1
    · simp (disch := omega) only [i_42_0, i_42_1, i_42_3, i_42_5, i_42_8, i_42_9, i_42_12, i_42_15, i_42_16, i_42_19, i_42_20, i_42_23, i_42_24, i_42_27, i_42_28, i_42_30, i_42_32, i_42_35, i_42_36, i_42_39, i_42_42, i_42_45, i_42_46, i_42_47, i_42_48, i_42_51, i_42_52, i_42_55, i_42_58, i_42_59, i_42_62, i_42_65, i_42_66, i_42_67, i_42_70, i_42_73, i_42_76, i_42_79, i_42_82, g_o130, g_r130_0, g_r130_1, g_a131, g_t131, g_o1, g_r1_0, g_r1_1, g_r1_2, g_r1_3, g_r1_4, g_r1_5, g_a42, g_t42, g_a43, g_t43, g_o13, g_r13_0, g_r13_1, g_r13_2, g_r13_3, g_r13_4, g_r13_5, g_r13_6, g_r13_7, g_a14, g_t14, g_a15, g_t15, g_a16, g_t16, g_a17, g_t17, g_a18, g_t18, g_a19, g_t19, g_a20, g_t20, g_a21, g_t21, g_o2, g_r2_0, g_r2_1, g_r2_2, g_r2_3, g_r2_4, g_r2_5, g_r2_6, g_r2_7, g_r2_8, g_r2_9, g_a3, g_t3, g_a4, g_t4, g_a5, g_t5, g_a6, g_t6, g_a7, g_t7, g_a8, g_t8, g_a9, g_t9, g_a10, g_t10, g_a11, g_t11, g_a12, g_t12, exists_eq_left', Option.some.injEq, exists_eq_left, ne_eq, List.length_nil, List.length_cons, Option.toList_some, Option.toList_none, List.cons_append, List.nil_append, mj_wt_nil, mj_wt_i, mj_wt_r, mj_wt_l, true_and, and_true, false_and, and_false, true_implies, false_implies, implies_true, not_true_eq_false, not_false_eq_true, and_self, Int.reduceEq, Nat.reduceEqDiff, ↓reduceIte, mj_w_id2, Int.toNat_natCast, h1]
      simp only [f_42, h1, ne_eq, not_true_eq_false, false_and, if_false]
      grind [mj_w]
    by_cases h2 : q_hm M t = 0
    · simp (disch := omega) only [i_42_0, i_42_1, i_42_3, i_42_5, i_42_8, i_42_9, i_42_12, i_42_15, i_42_16, i_42_19, i_42_20, i_42_23, i_42_24, i_42_27, i_42_28, i_42_30, i_42_32, i_42_35, i_42_36, i_42_39, i_42_42, i_42_45, i_42_46, i_42_47, i_42_48, i_42_51, i_42_52, i_42_55, i_42_58, i_42_59, i_42_62, i_42_65, i_42_66, i_42_67, i_42_70, i_42_73, i_42_76, i_42_79, i_42_82, g_o130, g_r130_0, g_r130_1, g_a131, g_t131, g_o1, g_r1_0, g_r1_1, g_r1_2, g_r1_3, g_r1_4, g_r1_5, g_a42, g_t42, g_a43, g_t43, g_o13, g_r13_0, g_r13_1, g_r13_2, g_r13_3, g_r13_4, g_r13_5, g_r13_6, g_r13_7, g_a14, g_t14, g_a15, g_t15, g_a16, g_t16, g_a17, g_t17, g_a18, g_t18, g_a19, g_t19, g_a20, g_t20, g_a21, g_t21, g_o2, g_r2_0, g_r2_1, g_r2_2, g_r2_3, g_r2_4, g_r2_5, g_r2_6, g_r2_7, g_r2_8, g_r2_9, g_a3, g_t3, g_a4, g_t4, g_a5, g_t5, g_a6, g_t6, g_a7, g_t7, g_a8, g_t8, g_a9, g_t9, g_a10, g_t10, g_a11, g_t11, g_a12, g_t12, exists_eq_left', Option.some.injEq, exists_eq_left, ne_eq, List.length_nil, List.length_cons, Option.toList_some, Option.toList_none, List.cons_append, List.nil_append, mj_wt_nil, mj_wt_i, mj_wt_r, mj_wt_l, true_and, and_true, false_and, and_false, true_implies, false_implies, implies_true, not_true_eq_false, not_false_eq_true, and_self, Int.reduceEq, Nat.reduceEqDiff, ↓reduceIte, mj_w_id2, Int.toNat_natCast, h1, h2, e50, e_51 hP h40 h1]
      simp only [f_42, h1, h2, ne_eq, not_false_eq_true, and_true, if_true]
      grind [mj_w]
    · simp (disch := omega) only [i_42_0, i_42_1, i_42_3, i_42_5, i_42_8, i_42_9, i_42_12, i_42_15, i_42_16, i_42_19, i_42_20, i_42_23, i_42_24, i_42_27, i_42_28, i_42_30, i_42_32, i_42_35, i_42_36, i_42_39, i_42_42, i_42_45, i_42_46, i_42_47, i_42_48, i_42_51, i_42_52, i_42_55, i_42_58, i_42_59, i_42_62, i_42_65, i_42_66, i_42_67, i_42_70, i_42_73, i_42_76, i_42_79, i_42_82, g_o130, g_r130_0, g_r130_1, g_a131, g_t131, g_o1, g_r1_0, g_r1_1, g_r1_2, g_r1_3, g_r1_4, g_r1_5, g_a42, g_t42, g_a43, g_t43, g_o13, g_r13_0, g_r13_1, g_r13_2, g_r13_3, g_r13_4, g_r13_5, g_r13_6, g_r13_7, g_a14, g_t14, g_a15, g_t15, g_a16, g_t16, g_a17, g_t17, g_a18, g_t18, g_a19, g_t19, g_a20, g_t20, g_a21, g_t21, g_o2, g_r2_0, g_r2_1, g_r2_2, g_r2_3, g_r2_4, g_r2_5, g_r2_6, g_r2_7, g_r2_8, g_r2_9, g_a3, g_t3, g_a4, g_t4, g_a5, g_t5, g_a6, g_t6, g_a7, g_t7, g_a8, g_t8, g_a9, g_t9, g_a10, g_t10, g_a11, g_t11, g_a12, g_t12, exists_eq_left', Option.some.injEq, exists_eq_left, ne_eq, List.length_nil, List.length_cons, Option.toList_some, Option.toList_none, List.cons_append, List.nil_append, mj_wt_nil, mj_wt_i, mj_wt_r, mj_wt_l, true_and, and_true, false_and, and_false, true_implies, false_implies, implies_true, not_true_eq_false, not_false_eq_true, and_self, Int.reduceEq, Nat.reduceEqDiff, ↓reduceIte, mj_w_id2, Int.toNat_natCast, h1, h2, e50]
      simp only [f_42, h1, h2, ne_eq, not_false_eq_true, and_false, if_false]
      grind [mj_w]
  · intro M hP
    rw [i_42_29]
    simp (disch := omega) only [i_42_0, i_42_1, i_42_3, i_42_5, i_42_8, i_42_9, i_42_12, i_42_15, i_42_16, i_42_19, i_42_20, i_42_23, i_42_24, i_42_27, i_42_28, i_42_30, i_42_32, i_42_35, i_42_36, i_42_39, i_42_42, i_42_45, i_42_46, i_42_47, i_42_48, i_42_51, i_42_52, i_42_55, i_42_58, i_42_59, i_42_62, i_42_65, i_42_66, i_42_67, i_42_70, i_42_73, i_42_76, i_42_79, i_42_82, g_o130, g_r130_0, g_r130_1, g_a131, g_t131, g_o1, g_r1_0, g_r1_1, g_r1_2, g_r1_3, g_r1_4, g_r1_5, g_a42, g_t42, g_a43, g_t43, exists_eq_left', Option.some.injEq, exists_eq_left, ne_eq, List.length_nil, List.length_cons, Option.toList_some, Option.toList_none, List.cons_append, List.nil_append, mj_wt_nil, mj_wt_i, mj_wt_r, mj_wt_l, true_and, and_true, false_and, and_false, true_implies, false_implies, implies_true, not_true_eq_false, not_false_eq_true, and_self, Int.reduceEq, Nat.reduceEqDiff, ↓reduceIte, mj_w_id2, Int.toNat_natCast]
    grind
theorem l_42 : ∀ (n : Nat) (pp : Int) (v : mj_V) (M : mj_M), 0 ≤ pp → pp + n = 41 → q_wr M → mj_Rn (d + 4) 42 2 [.inr (.inl 130), .inl pp, v] [] (SGx x) M Q = Q none (SGx x) (q_swp n M) := by
  intro n
  induction n with
  | zero =>
    intro pp v M h0 h w
    rw [i_42_2]
    simp (disch := omega) only [i_42_0, i_42_1, i_42_3, i_42_5, i_42_8, i_42_9, i_42_12, i_42_15, i_42_16, i_42_19, i_42_20, i_42_23, i_42_24, i_42_27, i_42_28, i_42_30, i_42_32, i_42_35, i_42_36, i_42_39, i_42_42, i_42_45, i_42_46, i_42_47, i_42_48, i_42_51, i_42_52, i_42_55, i_42_58, i_42_59, i_42_62, i_42_65, i_42_66, i_42_67, i_42_70, i_42_73, i_42_76, i_42_79, i_42_82, g_o130, g_r130_0, g_r130_1, g_a131, g_t131, g_o1, g_r1_0, g_r1_1, g_r1_2, g_r1_3, g_r1_4, g_r1_5, g_a42, g_t42, g_a43, g_t43, exists_eq_left', Option.some.injEq, exists_eq_left, ne_eq, List.length_nil, List.length_cons, Option.toList_some, Option.toList_none, List.cons_append, List.nil_append, mj_wt_nil, mj_wt_i, mj_wt_r, mj_wt_l, true_and, and_true, false_and, and_false, true_implies, false_implies, implies_true, not_true_eq_false, not_false_eq_true, and_self, Int.reduceEq, Nat.reduceEqDiff, ↓reduceIte, mj_w_id2]
    grind [q_swp]
  | succ n ih =>
    intro pp v M h0 h w
    have hb := l_42b (d := d) (x := x) (Q := Q) (pp := pp) (by omega) 39 1 (q_lts (q_gbr (q_mab M))) rfl (q_lts_w (q_gbr_w (q_mab_w w)))
    have hih := ih (pp + 1) (.inl 40) (q_pass M) (by omega) (by omega) (q_pass_w w)
    have e1 : q_for f_42 39 1 (q_lts (q_gbr (q_mab M))) = q_pass M := rfl
    rw [e1, hih] at hb
    clear ih
    simp only [Int.ofNat_one] at hb
    rw [i_42_2]
    unfold q_swp
    by_cases h1 : M 130 2 = 0
    · simp (disch := omega) only [i_42_0, i_42_1, i_42_3, i_42_5, i_42_8, i_42_9, i_42_12, i_42_15, i_42_16, i_42_19, i_42_20, i_42_23, i_42_24, i_42_27, i_42_28, i_42_30, i_42_32, i_42_35, i_42_36, i_42_39, i_42_42, i_42_45, i_42_46, i_42_47, i_42_48, i_42_51, i_42_52, i_42_55, i_42_58, i_42_59, i_42_62, i_42_65, i_42_66, i_42_67, i_42_70, i_42_73, i_42_76, i_42_79, i_42_82, g_o130, g_r130_0, g_r130_1, g_a131, g_t131, g_o1, g_r1_0, g_r1_1, g_r1_2, g_r1_3, g_r1_4, g_r1_5, g_a42, g_t42, g_a43, g_t43, exists_eq_left', Option.some.injEq, exists_eq_left, ne_eq, List.length_nil, List.length_cons, Option.toList_some, Option.toList_none, List.cons_append, List.nil_append, mj_wt_nil, mj_wt_i, mj_wt_r, mj_wt_l, true_and, and_true, false_and, and_false, true_implies, false_implies, implies_true, not_true_eq_false, not_false_eq_true, and_self, Int.reduceEq, Nat.reduceEqDiff, ↓reduceIte, mj_w_id2, h1, if_true]
      grind
    · simp (disch := omega) only [i_42_0, i_42_1, i_42_3, i_42_5, i_42_8, i_42_9, i_42_12, i_42_15, i_42_16, i_42_19, i_42_20, i_42_23, i_42_24, i_42_27, i_42_28, i_42_30, i_42_32, i_42_35, i_42_36, i_42_39, i_42_42, i_42_45, i_42_46, i_42_47, i_42_48, i_42_51, i_42_52, i_42_55, i_42_58, i_42_59, i_42_62, i_42_65, i_42_66, i_42_67, i_42_70, i_42_73, i_42_76, i_42_79, i_42_82, g_o130, g_r130_0, g_r130_1, g_a131, g_t131, g_o1, g_r1_0, g_r1_1, g_r1_2, g_r1_3, g_r1_4, g_r1_5, g_a42, g_t42, g_a43, g_t43, exists_eq_left', Option.some.injEq, exists_eq_left, ne_eq, List.length_nil, List.length_cons, Option.toList_some, Option.toList_none, List.cons_append, List.nil_append, mj_wt_nil, mj_wt_i, mj_wt_r, mj_wt_l, true_and, and_true, false_and, and_false, true_implies, false_implies, implies_true, not_true_eq_false, not_false_eq_true, and_self, Int.reduceEq, Nat.reduceEqDiff, ↓reduceIte, mj_w_id2, h1, if_false, e_43 w, e_45 (q_mab_w w), e_48 (q_gbr_w (q_mab_w w)), hb, Int.ofNat_one]
      grind
theorem e_42 (w : q_wr M) : mj_Rn (d + 4) 42 0 [.inr (.inl 130), .inr (.inr 0), .inr (.inr 0)] [] (SGx x) M Q = Q none (SGx x) (q_sweep M) := by
  have h := l_42 (d := d) (x := x) (Q := Q) 41 0 (.inr (.inr 0)) M (by omega) (by omega) w
  rw [i_42_0, i_42_1]; exact h
end sp48
