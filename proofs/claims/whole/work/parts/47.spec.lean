section sp47
variable {x : Nat} {M : mj_M} {Q : Option mj_V → mj_G → mj_M → Prop} {d : Nat}
theorem q_for_ruleV {α : Type} {N : Nat} {F : Nat → mj_M → mj_M} {P : Nat → mj_M → Prop} {H : α → Nat → mj_M → Prop} {E : mj_M → Prop}
    (h1 : ∀ v t M, t < N → P t M → P (t + 1) (F t M) ∧ ∃ v', H v t M = H v' (t + 1) (F t M)) (h2 : ∀ v M, P N M → H v N M = E M) :
    ∀ (n t : Nat) (v : α) (M : mj_M), t + n = N → P t M → H v t M = E (q_for F n t M) := by
  intro n
  induction n with
  | zero => intro t v M h hP; have : t = N := by omega
            subst this; exact h2 v M hP
  | succ n ih =>
    intro t v M h hP
    obtain ⟨a, v', b⟩ := h1 v t M (by omega) hP
    rw [b, ih (t + 1) v' _ (by omega) a]; rfl
def f_57 (y : Int) (t : Nat) (M : mj_M) : mj_M := if M 42 (10 * y + t).toNat ≠ -1 then q_mark M (M 42 (10 * y + t).toNat) else M
theorem f_57_w {y : Int} {t : Nat} (w : q_wr M) : q_wr (f_57 y t M) := by
  unfold f_57; split
  · exact q_mark_w w
  · exact w
theorem l_57 {y : Int} (hy : 0 ≤ y ∧ y < 40) : ∀ (n t : Nat) (v : mj_V) (M : mj_M), t + n = 10 → q_wr M → mj_Rn (d + 1) 57 2 [.inr (.inl 130), .inl y, .inl (t : Int), v] [] (SGx x) M Q = Q none (SGx x) (q_for (f_57 y) n t M) := by
  refine q_for_ruleV (N := 10) (F := f_57 y) (P := fun t M => q_wr M) (H := fun v t M => mj_Rn (d + 1) 57 2 [.inr (.inl 130), .inl y, .inl (t : Int), v] [] (SGx x) M Q) (E := fun M => Q none (SGx x) M) ?_ ?_
  · intro v t M ht hP
    refine ⟨f_57_w hP, .inl (M 42 (10 * y + t).toNat), ?_⟩
    have h1t : ((t + 1 : Nat) : Int) = (t : Int) + 1 := by push_cast; rfl
    have h42 := q_w42 (i := (10 * y + t).toNat) hP (by omega)
    simp only [h1t]
    rw [i_57_2]
    by_cases hm : M 42 (10 * y + t).toNat = -1
    · simp (disch := omega) only [i_57_0, i_57_1, i_57_3, i_57_5, i_57_8, i_57_9, i_57_12, i_57_15, i_57_16, i_57_18, i_57_19, i_57_20, i_57_21, i_57_22, i_57_23, i_57_24, i_57_25, i_57_28, i_57_29, i_57_30, i_57_33, i_57_36, i_57_39, g_o130, g_r130_0, g_r130_1, g_a131, g_t131, g_o1, g_r1_0, g_r1_1, g_r1_2, g_r1_3, g_r1_4, g_r1_5, g_a42, g_t42, g_a43, g_t43, exists_eq_left', Option.some.injEq, exists_eq_left, ne_eq, List.length_nil, List.length_cons, Option.toList_some, Option.toList_none, List.cons_append, List.nil_append, mj_wt_nil, mj_wt_i, mj_wt_r, mj_wt_l, true_and, and_true, false_and, and_false, true_implies, false_implies, implies_true, not_true_eq_false, not_false_eq_true, and_self, Int.reduceEq, Nat.reduceEqDiff, ↓reduceIte, mj_w_id2, Int.toNat_natCast, Int.mul_comm y 10, hm]
      simp only [f_57, hm, ne_eq, not_true_eq_false, if_false]
      grind [mj_w]
    · have h34 : 0 ≤ M 42 (10 * y + t).toNat ∧ M 42 (10 * y + t).toNat < 120 := by omega
      simp (disch := omega) only [i_57_0, i_57_1, i_57_3, i_57_5, i_57_8, i_57_9, i_57_12, i_57_15, i_57_16, i_57_18, i_57_19, i_57_20, i_57_21, i_57_22, i_57_23, i_57_24, i_57_25, i_57_28, i_57_29, i_57_30, i_57_33, i_57_36, i_57_39, g_o130, g_r130_0, g_r130_1, g_a131, g_t131, g_o1, g_r1_0, g_r1_1, g_r1_2, g_r1_3, g_r1_4, g_r1_5, g_a42, g_t42, g_a43, g_t43, exists_eq_left', Option.some.injEq, exists_eq_left, ne_eq, List.length_nil, List.length_cons, Option.toList_some, Option.toList_none, List.cons_append, List.nil_append, mj_wt_nil, mj_wt_i, mj_wt_r, mj_wt_l, true_and, and_true, false_and, and_false, true_implies, false_implies, implies_true, not_true_eq_false, not_false_eq_true, and_self, Int.reduceEq, Nat.reduceEqDiff, ↓reduceIte, mj_w_id2, Int.toNat_natCast, Int.mul_comm y 10, hm, e_34 h34]
      simp only [f_57, hm, ne_eq, not_false_eq_true, if_true]
      grind [mj_w]
  · intro v M hP
    rw [i_57_2]
    simp (disch := omega) only [i_57_0, i_57_1, i_57_3, i_57_5, i_57_8, i_57_9, i_57_12, i_57_15, i_57_16, i_57_18, i_57_19, i_57_20, i_57_21, i_57_22, i_57_23, i_57_24, i_57_25, i_57_28, i_57_29, i_57_30, i_57_33, i_57_36, i_57_39, g_o130, g_r130_0, g_r130_1, g_a131, g_t131, g_o1, g_r1_0, g_r1_1, g_r1_2, g_r1_3, g_r1_4, g_r1_5, g_a42, g_t42, g_a43, g_t43, exists_eq_left', Option.some.injEq, exists_eq_left, ne_eq, List.length_nil, List.length_cons, Option.toList_some, Option.toList_none, List.cons_append, List.nil_append, mj_wt_nil, mj_wt_i, mj_wt_r, mj_wt_l, true_and, and_true, false_and, and_false, true_implies, false_implies, implies_true, not_true_eq_false, not_false_eq_true, and_self, Int.reduceEq, Nat.reduceEqDiff, ↓reduceIte, mj_w_id2, Int.toNat_natCast]
    grind
theorem e_57 (w : q_wr M) {y : Int} (hy : 0 ≤ y ∧ y < 40) : mj_Rn (d + 1) 57 0 [.inr (.inl 130), .inl y, .inr (.inr 0), .inr (.inr 0)] [] (SGx x) M Q = Q none (SGx x) (q_for (f_57 y) 10 0 M) := by
  have h := l_57 (d := d) (x := x) (Q := Q) hy 10 0 (.inr (.inr 0)) M rfl w
  rw [i_57_0, i_57_1]; exact h
def q_lt0 (M : mj_M) (y : Int) : mj_M := mj_up (q_gr M (M 15 y.toNat) (M 9001 (M 14 y.toNat).toNat)) 14 y.toNat (-1)
def q_lt1 (M : mj_M) (y : Int) : mj_M := q_over (q_for (f_52 y) 120 0 (q_lt0 M y)) y
def q_lt (M : mj_M) (y : Int) : mj_M :=
  if M 14 y.toNat = 1 then q_for (f_57 y) 10 0 (q_endIn (q_lt1 M y) y) else if M 14 y.toNat = 2 ∨ M 14 y.toNat = 3 then q_stopAt (q_lt1 M y) y else q_lt1 M y
theorem q_over_w {y : Int} (w : q_wr M) : q_wr (q_over M y) := by
  have h := q_w36_5 w
  exact q_for_inv (N := (M 36 5).toNat) (P := fun _ M => q_wr M) (fun t M _ h => f_53_w h) (M 36 5).toNat 0 M (by omega) w
theorem q_endIn_w {y : Int} (w : q_wr M) : q_wr (q_endIn M y) :=
  q_for_inv (N := (M 22 13).toNat) (P := fun _ M => q_wr M) (fun t M _ h => f_54_w h) (M 22 13).toNat 0 M (by omega) w
theorem q_stopAt_w {y : Int} (w : q_wr M) : q_wr (q_stopAt M y) :=
  q_for_inv (N := (M 22 13).toNat) (P := fun _ M => q_wr M) (fun t M _ h => f_58_w h) (M 22 13).toNat 0 M (by omega) w
theorem q_lt0_w {y : Int} (w : q_wr M) : q_wr (q_lt0 M y) := q_wr_up (q_gr_w w) (by simp [q_okv])
theorem q_52_w {y : Int} (w : q_wr M) : q_wr (q_for (f_52 y) 120 0 M) := q_for_inv (N := 120) (P := fun _ M => q_wr M) (fun t M _ h => f_52_w h) 120 0 M rfl w
theorem q_57_w {y : Int} (w : q_wr M) : q_wr (q_for (f_57 y) 10 0 M) := q_for_inv (N := 10) (P := fun _ M => q_wr M) (fun t M _ h => f_57_w h) 10 0 M rfl w
theorem q_lt1_w {y : Int} (w : q_wr M) : q_wr (q_lt1 M y) := q_over_w (q_52_w (q_lt0_w w))
theorem q_lt_w {y : Int} (w : q_wr M) : q_wr (q_lt M y) := by
  unfold q_lt; split
  · exact q_57_w (q_endIn_w (q_lt1_w w))
  · split
    · exact q_stopAt_w (q_lt1_w w)
    · exact q_lt1_w w
theorem e_51 (w : q_wr M) {y : Int} (hy : 0 ≤ y ∧ y < 40) (hk : M 14 y.toNat ≠ -1) : mj_Rn (d + 3) 51 0 [.inr (.inl 130), .inl y, .inr (.inr 0)] [] (SGx x) M Q = Q none (SGx x) (q_lt M y) := by
  have h15 := q_w15 (i := y.toNat) w (by omega)
  have h14 := q_w14 (i := y.toNat) w (by omega)
  have wA := q_lt0_w (y := y) w
  have wB := q_52_w (y := y) wA
  have wC : q_wr (q_lt1 M y) := q_lt1_w w
  have wD : q_wr (q_endIn (q_lt1 M y) y) := q_endIn_w wC
  have h0 : mj_up (q_gr M (M 15 y.toNat) (M 9001 (M 14 y.toNat).toNat)) 14 y.toNat (-1) = q_lt0 M y := rfl
  have hov : q_over (q_for (f_52 y) 120 0 (q_lt0 M y)) y = q_lt1 M y := rfl
  unfold q_lt
  by_cases k1 : M 14 y.toNat = 1
  · simp only [k1] at h0
    simp (disch := omega) only [i_51_0, i_51_1, i_51_4, i_51_7, i_51_10, i_51_11, i_51_12, i_51_13, i_51_14, i_51_15, i_51_18, i_51_21, i_51_24, i_51_25, i_51_26, i_51_29, i_51_30, i_51_31, i_51_34, i_51_35, i_51_38, i_51_41, i_51_44, i_51_45, i_51_46, i_51_47, i_51_48, i_51_51, i_51_54, i_51_55, i_51_58, i_51_59, i_51_62, i_51_65, i_51_66, i_51_69, i_51_70, i_51_71, i_51_74, i_51_75, i_51_78, i_51_81, i_51_82, i_51_85, i_51_86, i_51_87, i_51_90, i_51_91, i_51_92, i_51_95, i_51_96, i_51_97, i_51_100, i_51_101, i_51_104, i_51_107, i_51_108, i_51_111, g_o130, g_r130_0, g_r130_1, g_a131, g_t131, g_o1, g_r1_0, g_r1_1, g_r1_2, g_r1_3, g_r1_4, g_r1_5, g_a42, g_t42, g_a43, g_t43, g_o13, g_r13_0, g_r13_1, g_r13_2, g_r13_3, g_r13_4, g_r13_5, g_r13_6, g_r13_7, g_a14, g_t14, g_a15, g_t15, g_a16, g_t16, g_a17, g_t17, g_a18, g_t18, g_a19, g_t19, g_a20, g_t20, g_a21, g_t21, g_o2, g_r2_0, g_r2_1, g_r2_2, g_r2_3, g_r2_4, g_r2_5, g_r2_6, g_r2_7, g_r2_8, g_r2_9, g_a3, g_t3, g_a4, g_t4, g_a5, g_t5, g_a6, g_t6, g_a7, g_t7, g_a8, g_t8, g_a9, g_t9, g_a10, g_t10, g_a11, g_t11, g_a12, g_t12, g_o22, g_r22_0, g_r22_1, g_r22_2, g_r22_3, g_r22_4, g_r22_5, g_r22_6, g_r22_7, g_r22_8, g_r22_9, g_r22_10, g_r22_11, g_r22_12, g_a23, g_t23, g_a24, g_t24, g_a25, g_t25, g_a26, g_t26, g_a27, g_t27, g_a28, g_t28, g_a29, g_t29, g_a30, g_t30, g_a31, g_t31, g_a32, g_t32, g_a33, g_t33, g_a34, g_t34, g_a35, g_t35, g_o36, g_r36_0, g_r36_1, g_r36_2, g_r36_3, g_r36_4, g_a37, g_t37, g_a38, g_t38, g_a39, g_t39, g_a40, g_t40, g_a41, g_t41, exists_eq_left', Option.some.injEq, exists_eq_left, ne_eq, List.length_nil, List.length_cons, Option.toList_some, Option.toList_none, List.cons_append, List.nil_append, mj_wt_nil, mj_wt_i, mj_wt_r, mj_wt_l, true_and, and_true, false_and, and_false, true_implies, false_implies, implies_true, not_true_eq_false, not_false_eq_true, and_self, Int.reduceEq, Nat.reduceEqDiff, ↓reduceIte, mj_w_id2, e_47 h15, e_52, e_53 wB, e_54 wC, e_57 wD hy, e_58 wC, g_p, hov, Int.toNat_natCast, k1, h0, if_true]
    grind
  · by_cases k2 : M 14 y.toNat = 2 ∨ M 14 y.toNat = 3
    · rcases k2 with k2 | k2
      · simp only [k2] at h0
        simp (disch := omega) only [i_51_0, i_51_1, i_51_4, i_51_7, i_51_10, i_51_11, i_51_12, i_51_13, i_51_14, i_51_15, i_51_18, i_51_21, i_51_24, i_51_25, i_51_26, i_51_29, i_51_30, i_51_31, i_51_34, i_51_35, i_51_38, i_51_41, i_51_44, i_51_45, i_51_46, i_51_47, i_51_48, i_51_51, i_51_54, i_51_55, i_51_58, i_51_59, i_51_62, i_51_65, i_51_66, i_51_69, i_51_70, i_51_71, i_51_74, i_51_75, i_51_78, i_51_81, i_51_82, i_51_85, i_51_86, i_51_87, i_51_90, i_51_91, i_51_92, i_51_95, i_51_96, i_51_97, i_51_100, i_51_101, i_51_104, i_51_107, i_51_108, i_51_111, g_o130, g_r130_0, g_r130_1, g_a131, g_t131, g_o1, g_r1_0, g_r1_1, g_r1_2, g_r1_3, g_r1_4, g_r1_5, g_a42, g_t42, g_a43, g_t43, g_o13, g_r13_0, g_r13_1, g_r13_2, g_r13_3, g_r13_4, g_r13_5, g_r13_6, g_r13_7, g_a14, g_t14, g_a15, g_t15, g_a16, g_t16, g_a17, g_t17, g_a18, g_t18, g_a19, g_t19, g_a20, g_t20, g_a21, g_t21, g_o2, g_r2_0, g_r2_1, g_r2_2, g_r2_3, g_r2_4, g_r2_5, g_r2_6, g_r2_7, g_r2_8, g_r2_9, g_a3, g_t3, g_a4, g_t4, g_a5, g_t5, g_a6, g_t6, g_a7, g_t7, g_a8, g_t8, g_a9, g_t9, g_a10, g_t10, g_a11, g_t11, g_a12, g_t12, g_o22, g_r22_0, g_r22_1, g_r22_2, g_r22_3, g_r22_4, g_r22_5, g_r22_6, g_r22_7, g_r22_8, g_r22_9, g_r22_10, g_r22_11, g_r22_12, g_a23, g_t23, g_a24, g_t24, g_a25, g_t25, g_a26, g_t26, g_a27, g_t27, g_a28, g_t28, g_a29, g_t29, g_a30, g_t30, g_a31, g_t31, g_a32, g_t32, g_a33, g_t33, g_a34, g_t34, g_a35, g_t35, g_o36, g_r36_0, g_r36_1, g_r36_2, g_r36_3, g_r36_4, g_a37, g_t37, g_a38, g_t38, g_a39, g_t39, g_a40, g_t40, g_a41, g_t41, exists_eq_left', Option.some.injEq, exists_eq_left, ne_eq, List.length_nil, List.length_cons, Option.toList_some, Option.toList_none, List.cons_append, List.nil_append, mj_wt_nil, mj_wt_i, mj_wt_r, mj_wt_l, true_and, and_true, false_and, and_false, true_implies, false_implies, implies_true, not_true_eq_false, not_false_eq_true, and_self, Int.reduceEq, Nat.reduceEqDiff, ↓reduceIte, mj_w_id2, e_47 h15, e_52, e_53 wB, e_54 wC, e_57 wD hy, e_58 wC, g_p, hov, Int.toNat_natCast, k2, h0, if_true, if_false]
        grind
      · simp only [k2] at h0
        simp (disch := omega) only [i_51_0, i_51_1, i_51_4, i_51_7, i_51_10, i_51_11, i_51_12, i_51_13, i_51_14, i_51_15, i_51_18, i_51_21, i_51_24, i_51_25, i_51_26, i_51_29, i_51_30, i_51_31, i_51_34, i_51_35, i_51_38, i_51_41, i_51_44, i_51_45, i_51_46, i_51_47, i_51_48, i_51_51, i_51_54, i_51_55, i_51_58, i_51_59, i_51_62, i_51_65, i_51_66, i_51_69, i_51_70, i_51_71, i_51_74, i_51_75, i_51_78, i_51_81, i_51_82, i_51_85, i_51_86, i_51_87, i_51_90, i_51_91, i_51_92, i_51_95, i_51_96, i_51_97, i_51_100, i_51_101, i_51_104, i_51_107, i_51_108, i_51_111, g_o130, g_r130_0, g_r130_1, g_a131, g_t131, g_o1, g_r1_0, g_r1_1, g_r1_2, g_r1_3, g_r1_4, g_r1_5, g_a42, g_t42, g_a43, g_t43, g_o13, g_r13_0, g_r13_1, g_r13_2, g_r13_3, g_r13_4, g_r13_5, g_r13_6, g_r13_7, g_a14, g_t14, g_a15, g_t15, g_a16, g_t16, g_a17, g_t17, g_a18, g_t18, g_a19, g_t19, g_a20, g_t20, g_a21, g_t21, g_o2, g_r2_0, g_r2_1, g_r2_2, g_r2_3, g_r2_4, g_r2_5, g_r2_6, g_r2_7, g_r2_8, g_r2_9, g_a3, g_t3, g_a4, g_t4, g_a5, g_t5, g_a6, g_t6, g_a7, g_t7, g_a8, g_t8, g_a9, g_t9, g_a10, g_t10, g_a11, g_t11, g_a12, g_t12, g_o22, g_r22_0, g_r22_1, g_r22_2, g_r22_3, g_r22_4, g_r22_5, g_r22_6, g_r22_7, g_r22_8, g_r22_9, g_r22_10, g_r22_11, g_r22_12, g_a23, g_t23, g_a24, g_t24, g_a25, g_t25, g_a26, g_t26, g_a27, g_t27, g_a28, g_t28, g_a29, g_t29, g_a30, g_t30, g_a31, g_t31, g_a32, g_t32, g_a33, g_t33, g_a34, g_t34, g_a35, g_t35, g_o36, g_r36_0, g_r36_1, g_r36_2, g_r36_3, g_r36_4, g_a37, g_t37, g_a38, g_t38, g_a39, g_t39, g_a40, g_t40, g_a41, g_t41, exists_eq_left', Option.some.injEq, exists_eq_left, ne_eq, List.length_nil, List.length_cons, Option.toList_some, Option.toList_none, List.cons_append, List.nil_append, mj_wt_nil, mj_wt_i, mj_wt_r, mj_wt_l, true_and, and_true, false_and, and_false, true_implies, false_implies, implies_true, not_true_eq_false, not_false_eq_true, and_self, Int.reduceEq, Nat.reduceEqDiff, ↓reduceIte, mj_w_id2, e_47 h15, e_52, e_53 wB, e_54 wC, e_57 wD hy, e_58 wC, g_p, hov, Int.toNat_natCast, k2, h0, if_true, if_false]
        grind
    · obtain ⟨k3, k4⟩ := not_or.mp k2
      simp (disch := omega) only [i_51_0, i_51_1, i_51_4, i_51_7, i_51_10, i_51_11, i_51_12, i_51_13, i_51_14, i_51_15, i_51_18, i_51_21, i_51_24, i_51_25, i_51_26, i_51_29, i_51_30, i_51_31, i_51_34, i_51_35, i_51_38, i_51_41, i_51_44, i_51_45, i_51_46, i_51_47, i_51_48, i_51_51, i_51_54, i_51_55, i_51_58, i_51_59, i_51_62, i_51_65, i_51_66, i_51_69, i_51_70, i_51_71, i_51_74, i_51_75, i_51_78, i_51_81, i_51_82, i_51_85, i_51_86, i_51_87, i_51_90, i_51_91, i_51_92, i_51_95, i_51_96, i_51_97, i_51_100, i_51_101, i_51_104, i_51_107, i_51_108, i_51_111, g_o130, g_r130_0, g_r130_1, g_a131, g_t131, g_o1, g_r1_0, g_r1_1, g_r1_2, g_r1_3, g_r1_4, g_r1_5, g_a42, g_t42, g_a43, g_t43, g_o13, g_r13_0, g_r13_1, g_r13_2, g_r13_3, g_r13_4, g_r13_5, g_r13_6, g_r13_7, g_a14, g_t14, g_a15, g_t15, g_a16, g_t16, g_a17, g_t17, g_a18, g_t18, g_a19, g_t19, g_a20, g_t20, g_a21, g_t21, g_o2, g_r2_0, g_r2_1, g_r2_2, g_r2_3, g_r2_4, g_r2_5, g_r2_6, g_r2_7, g_r2_8, g_r2_9, g_a3, g_t3, g_a4, g_t4, g_a5, g_t5, g_a6, g_t6, g_a7, g_t7, g_a8, g_t8, g_a9, g_t9, g_a10, g_t10, g_a11, g_t11, g_a12, g_t12, g_o22, g_r22_0, g_r22_1, g_r22_2, g_r22_3, g_r22_4, g_r22_5, g_r22_6, g_r22_7, g_r22_8, g_r22_9, g_r22_10, g_r22_11, g_r22_12, g_a23, g_t23, g_a24, g_t24, g_a25, g_t25, g_a26, g_t26, g_a27, g_t27, g_a28, g_t28, g_a29, g_t29, g_a30, g_t30, g_a31, g_t31, g_a32, g_t32, g_a33, g_t33, g_a34, g_t34, g_a35, g_t35, g_o36, g_r36_0, g_r36_1, g_r36_2, g_r36_3, g_r36_4, g_a37, g_t37, g_a38, g_t38, g_a39, g_t39, g_a40, g_t40, g_a41, g_t41, exists_eq_left', Option.some.injEq, exists_eq_left, ne_eq, List.length_nil, List.length_cons, Option.toList_some, Option.toList_none, List.cons_append, List.nil_append, mj_wt_nil, mj_wt_i, mj_wt_r, mj_wt_l, true_and, and_true, false_and, and_false, true_implies, false_implies, implies_true, not_true_eq_false, not_false_eq_true, and_self, Int.reduceEq, Nat.reduceEqDiff, ↓reduceIte, mj_w_id2, e_47 h15, e_52, e_53 wB, e_54 wC, e_57 wD hy, e_58 wC, g_p, hov, Int.toNat_natCast, k1, k3, k4, h0, if_true, if_false]
      grind
end sp47
