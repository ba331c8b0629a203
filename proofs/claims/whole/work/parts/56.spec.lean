section sp56
variable {x : Nat} {M : mj_M} {Q : Option mj_V → mj_G → mj_M → Prop} {d : Nat}
theorem q_wM_w {r g b : Int} : ∀ (n : Nat) (M : mj_M) (u : Int), q_wr M → q_wr (q_wM r g b n M u) := by
  intro n
  induction n with
  | zero => intro M u w; exact w
  | succ n ih =>
    intro M u w
    rw [q_wM]
    split
    · exact w
    split
    · exact w
    split
    · exact q_lendM_w w (q_ta_in w) (by omega)
    · exact ih _ _ (q_fault_w w)
theorem q_wM_c {r g b : Int} : ∀ (n : Nat) (M : mj_M) (u : Int), q_ch M (q_wM r g b n M u) := by
  intro n
  induction n with
  | zero => intro M u; exact q_ch_r
  | succ n ih =>
    intro M u
    rw [q_wM]
    split
    · exact q_ch_r
    split
    · exact q_ch_r
    split
    · exact q_lendM_c
    · exact q_ch_t q_fault_c (ih _ _)
theorem q_wC_in {r g b : Int} : ∀ (n : Nat) (M : mj_M) (u : Int), q_wr M → -1 ≤ u ∧ u < 8 → -1 ≤ q_wC r g b n M u ∧ q_wC r g b n M u < 8 := by
  intro n
  induction n with
  | zero => intro M u w h; exact h
  | succ n ih =>
    intro M u w h
    rw [q_wC]
    split
    · omega
    split
    · exact h
    split
    · exact h
    · have wf := q_fault_w (r := u) w
      have h1 := q_firstC_in (g := g) wf
      have h2 := q_w22_13 wf
      exact ih _ _ wf (by omega)
theorem q_wF_w {r g b c t u : Int} (w : q_wr M) (hg : -1 ≤ g ∧ g < 40) (hr : 0 ≤ r ∧ r < 8) (hu : -1 ≤ u ∧ u < 8) : q_wr (q_wF M r g b c t u) := by
  unfold q_wF
  refine q_use_w ?_
  split
  · exact q_goes_w w hg
  · exact q_serve_w w (by omega) hu
theorem q_wF_c {r g b c t u : Int} : q_ch M (q_wF M r g b c t u) := by
  unfold q_wF
  refine q_ch_t ?_ q_use_c
  split
  · exact q_goes_c
  · exact q_serve_c
theorem q_wtM_w {r a b c : Int} (w : q_wr M) (hr : 0 ≤ r ∧ r < 8) : q_wr (q_wtM M r a b c) := by
  unfold q_wtM
  split
  · rename_i h
    have hta : -1 ≤ q_wtT M r a ∧ q_wtT M r a < 120 := q_ta_in (b := M 23 r.toNat) (s := a) w
    have ft : q_wtT M r a ≠ -1 := by grind [q_wt, q_og, q_fits]
    have h4 := q_w4 (i := (q_wtT M r a).toNat) w (by omega)
    have hc := q_firstC_in (g := q_wtG M r a) w
    have h8 := q_w22_13 w
    exact q_wF_w (q_wM_w 8 M _ w) h4 hr (q_wC_in 8 M _ w (by omega))
  · exact w
theorem q_wtM_c {r a b c : Int} : q_ch M (q_wtM M r a b c) := by
  unfold q_wtM
  split
  · exact q_ch_t (q_wM_c 8 M _) q_wF_c
  · exact q_ch_r
theorem q_clM_w {r a b c : Int} (w : q_wr M) (hr : 0 ≤ r ∧ r < 8) : q_wr (q_clM M r a b c) := by
  unfold q_clM
  split
  · rename_i h
    have hta := q_ta_in (b := M 23 r.toNat) (s := a) w
    have htb := q_ta_in (b := M 23 r.toNat) (s := b) w
    have ft : q_ta M (M 23 r.toNat) a ≠ -1 := by grind [q_cl, q_clG, q_og, q_fits]
    have h4 := q_w4 (i := (q_ta M (M 23 r.toNat) a).toNat) w (by omega)
    have hl := q_leastW_in (g := M 4 (q_ta M (M 23 r.toNat) a).toNat) w
    have h8 := q_w22_13 w
    refine q_use_w (q_goes_w ?_ h4)
    split
    · exact w
    · refine q_serve_w ?_ (by unfold q_clS; omega) (by omega)
      unfold q_clLM
      split
      · exact w
      · exact q_lendM_w w htb (by omega)
  · exact w
theorem q_clM_c {r a b c : Int} : q_ch M (q_clM M r a b c) := by
  unfold q_clM
  split
  · refine q_ch_t (q_ch_t ?_ q_goes_c) q_use_c
    split
    · exact q_ch_r
    · refine q_ch_t ?_ q_serve_c
      unfold q_clLM
      split
      · exact q_ch_r
      · exact q_lendM_c
  · exact q_ch_r
theorem q_111_w {g : Int} (w : q_wr M) : q_wr (q_for (f_111 g) 120 0 M) := q_for_inv (N := 120) (P := fun _ M => q_wr M) (fun t M _ h => f_111_w h) 120 0 M rfl w
theorem q_anM_w {r b : Int} (w : q_wr M) (hr : 0 ≤ r ∧ r < 8) : q_wr (q_anM M r b) := by
  unfold q_anM
  split
  · have wl : q_wr (q_anL M r b) := by
      unfold q_anL
      split
      · exact w
      · exact q_lendM_w w (q_ta_in w) (by omega)
    have ww : q_wr (q_anW (q_anL M r b) r (M 30 r.toNat)) := q_wr_up (q_wake_w (q_wr_up wl (by simp [q_okv]))) (q_okv_o (by decide))
    unfold q_anP
    split
    · exact q_111_w ww
    · exact ww
  · exact w
theorem q_anM_c {r b : Int} : q_ch M (q_anM M r b) := by
  unfold q_anM
  split
  · have wl : q_ch M (q_anL M r b) := by
      unfold q_anL
      split
      · exact q_ch_r
      · exact q_lendM_c
    have ww : q_ch (q_anL M r b) (q_anW (q_anL M r b) r (M 30 r.toNat)) := by
      unfold q_anW
      exact q_ch_up (q_ch_t (q_ch_up q_ch_r (by unfold q_mut; omega)) q_wake_c) (by unfold q_mut; omega)
    unfold q_anP
    split
    · exact q_ch_t wl (q_ch_t ww (q_ch_for (N := 120) (fun _ _ _ => f_111_c) 120 0 _ rfl))
    · exact q_ch_t wl ww
  · exact q_ch_r
theorem q_wkM_w {r : Int} (w : q_wr M) (hn : q_few M 99999999) : q_wr (q_wkM M r) := by
  unfold q_wkM
  split
  · refine q_wr_up ?_ (q_okv_o (by decide))
    unfold q_wkB
    split
    · exact q_end_w w
    split
    · exact q_wr_up w (q_okv_o (by decide))
    split
    · exact q_wr_up w (q_okv_o (by decide))
    split
    · exact w
    split
    · exact q_wr_up (q_roM_w w) (q_okv_o (by decide))
    split
    · exact q_wiM_w w hn
    · exact q_prfM_w w
  · exact w
theorem q_wkM_c {r : Int} : q_ch M (q_wkM M r) := by
  unfold q_wkM
  split
  · refine q_ch_up ?_ (by unfold q_mut; omega)
    unfold q_wkB
    split
    · exact q_end_c
    split
    · exact q_ch_up q_ch_r (by unfold q_mut; omega)
    split
    · exact q_ch_up q_ch_r (by unfold q_mut; omega)
    split
    · exact q_ch_r
    split
    · exact q_ch_up q_roM_c (by unfold q_mut; omega)
    split
    · exact q_wiM_c
    · exact q_prfM_c
  · exact q_ch_r
def q_mtG (M : mj_M) (r : Int) : Int := if q_sn (q_pr M r 2) = 1 ∧ q_sn (q_pr M r 3) = 1 then 1 else 0
def q_mtY (M : mj_M) (r : Int) : Int := if q_mtG M r = 1 then (if q_pr M r 0 = 15 then q_cl M r (q_pr M r 1) (q_pr M r 2) else if q_pr M r 0 = 16 then q_wt M r (q_pr M r 1) else q_anY M r (q_pr M r 2)) else 0
def q_mtM (M : mj_M) (r : Int) : mj_M := if q_mtG M r = 1 then (if q_pr M r 0 = 15 then q_clM M r (q_pr M r 1) (q_pr M r 2) (q_pr M r 3) else if q_pr M r 0 = 16 then q_wtM M r (q_pr M r 1) (q_pr M r 2) (q_pr M r 3) else q_anM M r (q_pr M r 2)) else M
theorem q_sn_01 {k : Int} : q_sn k = 0 ∨ q_sn k = 1 := by unfold q_sn; split <;> simp
theorem q_cl_01 {r a b : Int} : q_cl M r a b = 0 ∨ q_cl M r a b = 1 := by
  unfold q_cl q_clL
  have := q_lend_01 (M := M) (f := q_ta M (M 23 r.toNat) b) (b := M 23 (q_clS M r a).toNat) (s := M 32 (q_clS M r a).toNat)
  grind
theorem q_wt_01 {r a : Int} : q_wt M r a = 0 ∨ q_wt M r a = 1 := by unfold q_wt; split <;> simp
theorem q_anY_01 {r b : Int} : q_anY M r b = 0 ∨ q_anY M r b = 1 := by
  unfold q_anY
  have := q_lend_01 (M := M) (f := q_ta M (M 23 r.toNat) b) (b := M 23 (M 30 r.toNat).toNat) (s := M 33 (M 30 r.toNat).toNat)
  grind
theorem q_mtM_w {r : Int} (w : q_wr M) (hr : 0 ≤ r ∧ r < 8) : q_wr (q_mtM M r) := by
  unfold q_mtM
  split
  · split
    · exact q_clM_w w hr
    · split
      · exact q_wtM_w w hr
      · exact q_anM_w w hr
  · exact w
theorem q_mtM_c {r : Int} : q_ch M (q_mtM M r) := by
  unfold q_mtM
  split
  · split
    · exact q_clM_c
    · split
      · exact q_wtM_c
      · exact q_anM_c
  · exact q_ch_r
theorem e_101 (w : q_wr M) {r : Int} (hr : 0 ≤ r ∧ r < 8) (hp : 0 ≤ M 25 r.toNat ∧ M 25 r.toNat < 40) : mj_Rn (d + 4) 101 0 [.inr (.inl 133), .inl r, .inr (.inr 0), .inr (.inr 0), .inr (.inr 0), .inr (.inr 0)] [] (SGx x) M Q = Q (some (.inl (q_mtY M r))) (SGx x) (q_mtM M r) := by
  have hq : 0 ≤ q_st M r ∧ q_st M r ≤ 1276 := by unfold q_st; omega
  have p0 : M 35 (q_st M r).toNat = q_pr M r 0 := by unfold q_pr; rw [show q_st M r + 0 = q_st M r by omega]
  have p1 : M 35 (q_st M r + 1).toNat = q_pr M r 1 := rfl
  have p2 : M 35 (q_st M r + 2).toNat = q_pr M r 2 := rfl
  have p3 : M 35 (q_st M r + 3).toNat = q_pr M r 3 := rfl
  unfold q_mtY q_mtM
  rcases q_sn_01 (k := q_pr M r 2) with s2 | s2
  · have g : q_mtG M r = 0 := by unfold q_mtG; simp [s2]
    simp (disch := omega) only [i_101_0, i_101_1, i_101_2, i_101_5, i_101_6, i_101_7, i_101_10, i_101_13, i_101_14, i_101_15, i_101_16, i_101_17, i_101_18, i_101_19, i_101_22, i_101_25, i_101_26, i_101_27, i_101_28, i_101_29, i_101_31, i_101_32, i_101_35, i_101_38, i_101_39, i_101_40, i_101_41, i_101_42, i_101_44, i_101_46, i_101_49, i_101_52, i_101_54, i_101_57, i_101_60, i_101_61, i_101_62, i_101_63, i_101_66, i_101_69, i_101_70, i_101_71, i_101_96, i_101_97, i_101_98, i_101_99, i_101_101, i_101_103, i_101_106, i_101_107, i_101_108, i_101_109, i_101_110, i_101_112, i_101_114, i_101_117, i_101_118, i_101_119, i_101_120, i_101_122, i_101_125, g_o133, g_r133_0, g_r133_1, g_r133_2, g_r133_3, g_o1, g_r1_0, g_r1_1, g_r1_2, g_r1_3, g_r1_4, g_r1_5, g_a42, g_t42, g_a43, g_t43, g_o2, g_r2_0, g_r2_1, g_r2_2, g_r2_3, g_r2_4, g_r2_5, g_r2_6, g_r2_7, g_r2_8, g_r2_9, g_a3, g_t3, g_a4, g_t4, g_a5, g_t5, g_a6, g_t6, g_a7, g_t7, g_a8, g_t8, g_a9, g_t9, g_a10, g_t10, g_a11, g_t11, g_a12, g_t12, g_o22, g_r22_0, g_r22_1, g_r22_2, g_r22_3, g_r22_4, g_r22_5, g_r22_6, g_r22_7, g_r22_8, g_r22_9, g_r22_10, g_r22_11, g_r22_12, g_a23, g_t23, g_a24, g_t24, g_a25, g_t25, g_a26, g_t26, g_a27, g_t27, g_a28, g_t28, g_a29, g_t29, g_a30, g_t30, g_a31, g_t31, g_a32, g_t32, g_a33, g_t33, g_a34, g_t34, g_a35, g_t35, g_o130, g_r130_0, g_r130_1, g_a131, g_t131, g_o13, g_r13_0, g_r13_1, g_r13_2, g_r13_3, g_r13_4, g_r13_5, g_r13_6, g_r13_7, g_a14, g_t14, g_a15, g_t15, g_a16, g_t16, g_a17, g_t17, g_a18, g_t18, g_a19, g_t19, g_a20, g_t20, g_a21, g_t21, g_o132, g_r132_0, g_r132_1, exists_eq_left', Option.some.injEq, exists_eq_left, ne_eq, List.length_nil, List.length_cons, Option.toList_some, Option.toList_none, List.cons_append, List.nil_append, mj_wt_nil, mj_wt_i, mj_wt_r, mj_wt_l, true_and, and_true, false_and, and_false, true_implies, false_implies, implies_true, not_true_eq_false, not_false_eq_true, and_self, Int.reduceEq, Nat.reduceEqDiff, ↓reduceIte, mj_w_id2, e_100 hr hp, p0, p1, p2, p3, e_102, s2, g]
    try grind
  rcases q_sn_01 (k := q_pr M r 3) with s3 | s3
  · have g : q_mtG M r = 0 := by unfold q_mtG; simp [s3]
    simp (disch := omega) only [i_101_0, i_101_1, i_101_2, i_101_5, i_101_6, i_101_7, i_101_10, i_101_13, i_101_14, i_101_15, i_101_16, i_101_17, i_101_18, i_101_19, i_101_22, i_101_25, i_101_26, i_101_27, i_101_28, i_101_29, i_101_31, i_101_32, i_101_35, i_101_38, i_101_39, i_101_40, i_101_41, i_101_42, i_101_44, i_101_46, i_101_49, i_101_52, i_101_54, i_101_57, i_101_60, i_101_61, i_101_62, i_101_63, i_101_66, i_101_69, i_101_70, i_101_71, i_101_96, i_101_97, i_101_98, i_101_99, i_101_101, i_101_103, i_101_106, i_101_107, i_101_108, i_101_109, i_101_110, i_101_112, i_101_114, i_101_117, i_101_118, i_101_119, i_101_120, i_101_122, i_101_125, g_o133, g_r133_0, g_r133_1, g_r133_2, g_r133_3, g_o1, g_r1_0, g_r1_1, g_r1_2, g_r1_3, g_r1_4, g_r1_5, g_a42, g_t42, g_a43, g_t43, g_o2, g_r2_0, g_r2_1, g_r2_2, g_r2_3, g_r2_4, g_r2_5, g_r2_6, g_r2_7, g_r2_8, g_r2_9, g_a3, g_t3, g_a4, g_t4, g_a5, g_t5, g_a6, g_t6, g_a7, g_t7, g_a8, g_t8, g_a9, g_t9, g_a10, g_t10, g_a11, g_t11, g_a12, g_t12, g_o22, g_r22_0, g_r22_1, g_r22_2, g_r22_3, g_r22_4, g_r22_5, g_r22_6, g_r22_7, g_r22_8, g_r22_9, g_r22_10, g_r22_11, g_r22_12, g_a23, g_t23, g_a24, g_t24, g_a25, g_t25, g_a26, g_t26, g_a27, g_t27, g_a28, g_t28, g_a29, g_t29, g_a30, g_t30, g_a31, g_t31, g_a32, g_t32, g_a33, g_t33, g_a34, g_t34, g_a35, g_t35, g_o130, g_r130_0, g_r130_1, g_a131, g_t131, g_o13, g_r13_0, g_r13_1, g_r13_2, g_r13_3, g_r13_4, g_r13_5, g_r13_6, g_r13_7, g_a14, g_t14, g_a15, g_t15, g_a16, g_t16, g_a17, g_t17, g_a18, g_t18, g_a19, g_t19, g_a20, g_t20, g_a21, g_t21, g_o132, g_r132_0, g_r132_1, exists_eq_left', Option.some.injEq, exists_eq_left, ne_eq, List.length_nil, List.length_cons, Option.toList_some, Option.toList_none, List.cons_append, List.nil_append, mj_wt_nil, mj_wt_i, mj_wt_r, mj_wt_l, true_and, and_true, false_and, and_false, true_implies, false_implies, implies_true, not_true_eq_false, not_false_eq_true, and_self, Int.reduceEq, Nat.reduceEqDiff, ↓reduceIte, mj_w_id2, e_100 hr hp, p0, p1, p2, p3, e_102, s2, s3, g]
    try grind
  have g : q_mtG M r = 1 := by unfold q_mtG; simp [s2, s3]
  have c1 := q_cl_01 (M := M) (r := r) (a := q_pr M r 1) (b := q_pr M r 2)
  have c2 := q_wt_01 (M := M) (r := r) (a := q_pr M r 1)
  have c3 := q_anY_01 (M := M) (r := r) (b := q_pr M r 2)
  by_cases k1 : q_pr M r 0 = 15
  · simp (disch := omega) only [i_101_0, i_101_1, i_101_2, i_101_5, i_101_6, i_101_7, i_101_10, i_101_13, i_101_14, i_101_15, i_101_16, i_101_17, i_101_18, i_101_19, i_101_22, i_101_25, i_101_26, i_101_27, i_101_28, i_101_29, i_101_31, i_101_32, i_101_35, i_101_38, i_101_39, i_101_40, i_101_41, i_101_42, i_101_44, i_101_46, i_101_49, i_101_52, i_101_54, i_101_57, i_101_60, i_101_61, i_101_62, i_101_63, i_101_66, i_101_69, i_101_70, i_101_71, i_101_96, i_101_97, i_101_98, i_101_99, i_101_101, i_101_103, i_101_106, i_101_107, i_101_108, i_101_109, i_101_110, i_101_112, i_101_114, i_101_117, i_101_118, i_101_119, i_101_120, i_101_122, i_101_125, g_o133, g_r133_0, g_r133_1, g_r133_2, g_r133_3, g_o1, g_r1_0, g_r1_1, g_r1_2, g_r1_3, g_r1_4, g_r1_5, g_a42, g_t42, g_a43, g_t43, g_o2, g_r2_0, g_r2_1, g_r2_2, g_r2_3, g_r2_4, g_r2_5, g_r2_6, g_r2_7, g_r2_8, g_r2_9, g_a3, g_t3, g_a4, g_t4, g_a5, g_t5, g_a6, g_t6, g_a7, g_t7, g_a8, g_t8, g_a9, g_t9, g_a10, g_t10, g_a11, g_t11, g_a12, g_t12, g_o22, g_r22_0, g_r22_1, g_r22_2, g_r22_3, g_r22_4, g_r22_5, g_r22_6, g_r22_7, g_r22_8, g_r22_9, g_r22_10, g_r22_11, g_r22_12, g_a23, g_t23, g_a24, g_t24, g_a25, g_t25, g_a26, g_t26, g_a27, g_t27, g_a28, g_t28, g_a29, g_t29, g_a30, g_t30, g_a31, g_t31, g_a32, g_t32, g_a33, g_t33, g_a34, g_t34, g_a35, g_t35, g_o130, g_r130_0, g_r130_1, g_a131, g_t131, g_o13, g_r13_0, g_r13_1, g_r13_2, g_r13_3, g_r13_4, g_r13_5, g_r13_6, g_r13_7, g_a14, g_t14, g_a15, g_t15, g_a16, g_t16, g_a17, g_t17, g_a18, g_t18, g_a19, g_t19, g_a20, g_t20, g_a21, g_t21, g_o132, g_r132_0, g_r132_1, exists_eq_left', Option.some.injEq, exists_eq_left, ne_eq, List.length_nil, List.length_cons, Option.toList_some, Option.toList_none, List.cons_append, List.nil_append, mj_wt_nil, mj_wt_i, mj_wt_r, mj_wt_l, true_and, and_true, false_and, and_false, true_implies, false_implies, implies_true, not_true_eq_false, not_false_eq_true, and_self, Int.reduceEq, Nat.reduceEqDiff, ↓reduceIte, mj_w_id2, e_100 hr hp, p0, p1, p2, p3, e_102, s2, s3, g, k1, e_103 w hr]
    try grind
  by_cases k2 : q_pr M r 0 = 16
  · simp (disch := omega) only [i_101_0, i_101_1, i_101_2, i_101_5, i_101_6, i_101_7, i_101_10, i_101_13, i_101_14, i_101_15, i_101_16, i_101_17, i_101_18, i_101_19, i_101_22, i_101_25, i_101_26, i_101_27, i_101_28, i_101_29, i_101_31, i_101_32, i_101_35, i_101_38, i_101_39, i_101_40, i_101_41, i_101_42, i_101_44, i_101_46, i_101_49, i_101_52, i_101_54, i_101_57, i_101_60, i_101_61, i_101_62, i_101_63, i_101_66, i_101_69, i_101_70, i_101_71, i_101_96, i_101_97, i_101_98, i_101_99, i_101_101, i_101_103, i_101_106, i_101_107, i_101_108, i_101_109, i_101_110, i_101_112, i_101_114, i_101_117, i_101_118, i_101_119, i_101_120, i_101_122, i_101_125, g_o133, g_r133_0, g_r133_1, g_r133_2, g_r133_3, g_o1, g_r1_0, g_r1_1, g_r1_2, g_r1_3, g_r1_4, g_r1_5, g_a42, g_t42, g_a43, g_t43, g_o2, g_r2_0, g_r2_1, g_r2_2, g_r2_3, g_r2_4, g_r2_5, g_r2_6, g_r2_7, g_r2_8, g_r2_9, g_a3, g_t3, g_a4, g_t4, g_a5, g_t5, g_a6, g_t6, g_a7, g_t7, g_a8, g_t8, g_a9, g_t9, g_a10, g_t10, g_a11, g_t11, g_a12, g_t12, g_o22, g_r22_0, g_r22_1, g_r22_2, g_r22_3, g_r22_4, g_r22_5, g_r22_6, g_r22_7, g_r22_8, g_r22_9, g_r22_10, g_r22_11, g_r22_12, g_a23, g_t23, g_a24, g_t24, g_a25, g_t25, g_a26, g_t26, g_a27, g_t27, g_a28, g_t28, g_a29, g_t29, g_a30, g_t30, g_a31, g_t31, g_a32, g_t32, g_a33, g_t33, g_a34, g_t34, g_a35, g_t35, g_o130, g_r130_0, g_r130_1, g_a131, g_t131, g_o13, g_r13_0, g_r13_1, g_r13_2, g_r13_3, g_r13_4, g_r13_5, g_r13_6, g_r13_7, g_a14, g_t14, g_a15, g_t15, g_a16, g_t16, g_a17, g_t17, g_a18, g_t18, g_a19, g_t19, g_a20, g_t20, g_a21, g_t21, g_o132, g_r132_0, g_r132_1, exists_eq_left', Option.some.injEq, exists_eq_left, ne_eq, List.length_nil, List.length_cons, Option.toList_some, Option.toList_none, List.cons_append, List.nil_append, mj_wt_nil, mj_wt_i, mj_wt_r, mj_wt_l, true_and, and_true, false_and, and_false, true_implies, false_implies, implies_true, not_true_eq_false, not_false_eq_true, and_self, Int.reduceEq, Nat.reduceEqDiff, ↓reduceIte, mj_w_id2, e_100 hr hp, p0, p1, p2, p3, e_102, s2, s3, g, k1, k2, e_107 w hr]
    try grind
  · simp (disch := omega) only [i_101_0, i_101_1, i_101_2, i_101_5, i_101_6, i_101_7, i_101_10, i_101_13, i_101_14, i_101_15, i_101_16, i_101_17, i_101_18, i_101_19, i_101_22, i_101_25, i_101_26, i_101_27, i_101_28, i_101_29, i_101_31, i_101_32, i_101_35, i_101_38, i_101_39, i_101_40, i_101_41, i_101_42, i_101_44, i_101_46, i_101_49, i_101_52, i_101_54, i_101_57, i_101_60, i_101_61, i_101_62, i_101_63, i_101_66, i_101_69, i_101_70, i_101_71, i_101_96, i_101_97, i_101_98, i_101_99, i_101_101, i_101_103, i_101_106, i_101_107, i_101_108, i_101_109, i_101_110, i_101_112, i_101_114, i_101_117, i_101_118, i_101_119, i_101_120, i_101_122, i_101_125, g_o133, g_r133_0, g_r133_1, g_r133_2, g_r133_3, g_o1, g_r1_0, g_r1_1, g_r1_2, g_r1_3, g_r1_4, g_r1_5, g_a42, g_t42, g_a43, g_t43, g_o2, g_r2_0, g_r2_1, g_r2_2, g_r2_3, g_r2_4, g_r2_5, g_r2_6, g_r2_7, g_r2_8, g_r2_9, g_a3, g_t3, g_a4, g_t4, g_a5, g_t5, g_a6, g_t6, g_a7, g_t7, g_a8, g_t8, g_a9, g_t9, g_a10, g_t10, g_a11, g_t11, g_a12, g_t12, g_o22, g_r22_0, g_r22_1, g_r22_2, g_r22_3, g_r22_4, g_r22_5, g_r22_6, g_r22_7, g_r22_8, g_r22_9, g_r22_10, g_r22_11, g_r22_12, g_a23, g_t23, g_a24, g_t24, g_a25, g_t25, g_a26, g_t26, g_a27, g_t27, g_a28, g_t28, g_a29, g_t29, g_a30, g_t30, g_a31, g_t31, g_a32, g_t32, g_a33, g_t33, g_a34, g_t34, g_a35, g_t35, g_o130, g_r130_0, g_r130_1, g_a131, g_t131, g_o13, g_r13_0, g_r13_1, g_r13_2, g_r13_3, g_r13_4, g_r13_5, g_r13_6, g_r13_7, g_a14, g_t14, g_a15, g_t15, g_a16, g_t16, g_a17, g_t17, g_a18, g_t18, g_a19, g_t19, g_a20, g_t20, g_a21, g_t21, g_o132, g_r132_0, g_r132_1, exists_eq_left', Option.some.injEq, exists_eq_left, ne_eq, List.length_nil, List.length_cons, Option.toList_some, Option.toList_none, List.cons_append, List.nil_append, mj_wt_nil, mj_wt_i, mj_wt_r, mj_wt_l, true_and, and_true, false_and, and_false, true_implies, false_implies, implies_true, not_true_eq_false, not_false_eq_true, and_self, Int.reduceEq, Nat.reduceEqDiff, ↓reduceIte, mj_w_id2, e_100 hr hp, p0, p1, p2, p3, e_102, s2, s3, g, k1, k2, e_110 w hr]
    try grind
end sp56
