section sp57
variable {x : Nat} {M : mj_M} {Q : Option mj_V → mj_G → mj_M → Prop} {d : Nat}
/-- a tick: what goes, who is chosen, what that one does -/
def q_tk1 (M : mj_M) : mj_M := q_sweep (q_md 3 120 0 0 M)
def q_tkR (M : mj_M) : Int := if M 1 9 = 0 then q_chF M else q_chR M
def q_tkA (M : mj_M) (r : Int) : mj_M := if q_hs M r = 1 then (if q_im M r = 1 then q_mtM M r else q_wkM M r) else M
def q_tkO (M : mj_M) (r : Int) : Int := if q_hs M r = 1 then (if q_im M r = 1 then q_mtY M r else q_wkY M r) else 0
def q_tkD (M : mj_M) (r : Int) : mj_M := if q_tkO M r = 1 then q_tkA M r else q_fault (q_tkA M r) r
def q_tk2 (M : mj_M) (r : Int) : mj_M := if r = -1 then M else q_sweep (q_tkD (mj_up M 1 10 r) r)
def q_tick (M : mj_M) : mj_M := let A := q_tk2 (q_tk1 M) (q_tkR (q_tk1 M))
  mj_up A 1 7 (mj_w (A 1 7 + 1))
def q_tickR (M : mj_M) : Int := q_tkR (q_tk1 M)
theorem q_tk1_w (w : q_wr M) : q_wr (q_tk1 M) := q_sweep_w (q_md_w 120 0 0 M w)
theorem q_tk1_c : q_ch M (q_tk1 M) := q_ch_t (q_md_c 120 0 0 M) q_sweep_c
theorem q_tkR_in (w : q_wr M) : q_tkR M = -1 ∨ (0 ≤ q_tkR M ∧ q_tkR M < M 22 13 ∧ M 24 (q_tkR M).toNat = 0) := by
  unfold q_tkR
  split
  · exact q_chF_in w
  · exact q_chR_in w
theorem q_tkA_w {r : Int} (w : q_wr M) (hr : 0 ≤ r ∧ r < 8) (hn : q_few M 99999999) : q_wr (q_tkA M r) := by
  unfold q_tkA
  split
  · split
    · exact q_mtM_w w hr
    · exact q_wkM_w w hn
  · exact w
theorem q_tkA_c {r : Int} : q_ch M (q_tkA M r) := by
  unfold q_tkA
  split
  · split
    · exact q_mtM_c
    · exact q_wkM_c
  · exact q_ch_r
theorem q_tkD_w {r : Int} (w : q_wr M) (hr : 0 ≤ r ∧ r < 8) (hn : q_few M 99999999) : q_wr (q_tkD M r) := by
  unfold q_tkD
  split
  · exact q_tkA_w w hr hn
  · exact q_fault_w (q_tkA_w w hr hn)
theorem q_tkD_c {r : Int} : q_ch M (q_tkD M r) := by
  unfold q_tkD
  split
  · exact q_tkA_c
  · exact q_ch_t q_tkA_c q_fault_c
theorem q_tk2_w {r : Int} (w : q_wr M) (hr : -1 ≤ r ∧ r < 8) (hn : q_few M 99999999) : q_wr (q_tk2 M r) := by
  unfold q_tk2
  split
  · exact w
  · refine q_sweep_w (q_tkD_w (q_wr_up w ?_) (by omega) ?_)
    · simp [q_okv]; omega
    · unfold q_few; rw [mj_up_ne (by omega)]; exact hn
theorem q_tk2_c {r : Int} : q_ch M (q_tk2 M r) := by
  unfold q_tk2
  split
  · exact q_ch_r
  · exact q_ch_t (q_ch_t (q_ch_up q_ch_r (by unfold q_mut; omega)) q_tkD_c) q_sweep_c
theorem q_tick_now : q_tick M 1 7 = mj_w (M 1 7 + 1) := by
  have h : q_ch M (q_tk2 (q_tk1 M) (q_tkR (q_tk1 M))) := q_ch_t q_tk1_c q_tk2_c
  have h7 := h 1 7 (by unfold q_mut; omega)
  unfold q_tick
  simp only [mj_up, if_true]
  rw [h7]
/-- what sweeping does not touch -/
theorem q_hs_01 {r : Int} : q_hs M r = 0 ∨ (q_hs M r = 1 ∧ 0 ≤ M 25 r.toNat ∧ M 25 r.toNat < M 31 r.toNat) := by unfold q_hs; split <;> simp_all
theorem q_im_01 {r : Int} : q_im M r = 0 ∨ q_im M r = 1 := by unfold q_im; split <;> simp
theorem q_mtY_01 {r : Int} : q_mtY M r = 0 ∨ q_mtY M r = 1 := by
  unfold q_mtY
  have c1 := q_cl_01 (M := M) (r := r) (a := q_pr M r 1) (b := q_pr M r 2)
  have c2 := q_wt_01 (M := M) (r := r) (a := q_pr M r 1)
  have c3 := q_anY_01 (M := M) (r := r) (b := q_pr M r 2)
  grind
theorem q_wkY_01 {r : Int} : q_wkY M r = 0 ∨ q_wkY M r = 1 := by
  unfold q_wkY
  have c1 := q_ro_01 (M := M) (b := M 23 r.toNat) (s := q_pr M r 1)
  have c2 := q_wi_01 (M := M) (b := M 23 r.toNat) (s := q_pr M r 1)
  have c3 := q_prf_01 (M := M) (bx := M 23 r.toNat) (k := q_pr M r 0) (a := q_pr M r 1) (b := q_pr M r 2) (c := q_pr M r 3)
  grind
theorem e_93 (w : q_wr M) (hn : q_few (q_tk1 M) 99999999) : mj_Rn (d + 6) 93 0 [.inr (.inl 133), .inr (.inr 0)] [] (SGx x) M Q = Q (some (.inl (q_tickR M))) (SGx x) (q_tick M) := by
  have w1 := q_tk1_w w
  have wm := q_md_w 120 0 0 M w (most := 3)
  have e1 : q_sweep (q_md 3 120 0 0 M) = q_tk1 M := rfl
  have hin := q_tkR_in w1
  have h8 := q_w22_13 w1
  have hR : q_tickR M = q_tkR (q_tk1 M) := rfl
  unfold q_tick
  rw [hR]
  simp only []
  generalize hA : q_tk1 M = A at *
  have e2 : (if A 1 9 = 0 then q_chF A else q_chR A) = q_tkR A := rfl
  generalize hr : q_tkR A = r at *
  have key : ∀ (B : mj_M) (r : Int), q_wr B → q_few B 99999999 → 0 ≤ r ∧ r < 8 → mj_Rn (d + 6) 93 50 [.inr (.inl 133), .inl r] [] (SGx x) B Q = Q (some (.inl r)) (SGx x) (mj_up (q_sweep (q_tkD B r)) 1 7 (mj_w (q_sweep (q_tkD B r) 1 7 + 1))) := by
    intro B r wB hB hr
    have h31 := q_w31 (i := r.toNat) wB (by omega)
    rcases q_hs_01 (M := B) (r := r) with k1 | ⟨k1, k2, k3⟩
    · have eA : q_tkA B r = B := by unfold q_tkA; rw [if_neg (by omega)]
      have eD : q_tkD B r = q_fault B r := by unfold q_tkD q_tkO; rw [eA]; simp [k1]
      rw [eD]
      simp (disch := omega) only [i_93_0, i_93_1, i_93_4, i_93_5, i_93_8, i_93_9, i_93_12, i_93_15, i_93_16, i_93_19, i_93_22, i_93_25, i_93_26, i_93_29, i_93_32, i_93_33, i_93_36, i_93_37, i_93_38, i_93_39, i_93_42, i_93_43, i_93_46, i_93_47, i_93_50, i_93_51, i_93_52, i_93_55, i_93_58, i_93_59, i_93_60, i_93_63, i_93_66, i_93_67, i_93_68, i_93_71, i_93_74, i_93_77, i_93_78, i_93_79, i_93_82, i_93_85, i_93_86, i_93_87, i_93_90, i_93_91, i_93_94, i_93_97, i_93_98, i_93_101, i_93_102, i_93_105, i_93_106, i_93_107, i_93_110, i_93_111, g_o133, g_r133_0, g_r133_1, g_r133_2, g_r133_3, g_o1, g_r1_0, g_r1_1, g_r1_2, g_r1_3, g_r1_4, g_r1_5, g_a42, g_t42, g_a43, g_t43, g_o130, g_r130_0, g_r130_1, g_a131, g_t131, g_o22, g_r22_0, g_r22_1, g_r22_2, g_r22_3, g_r22_4, g_r22_5, g_r22_6, g_r22_7, g_r22_8, g_r22_9, g_r22_10, g_r22_11, g_r22_12, g_a23, g_t23, g_a24, g_t24, g_a25, g_t25, g_a26, g_t26, g_a27, g_t27, g_a28, g_t28, g_a29, g_t29, g_a30, g_t30, g_a31, g_t31, g_a32, g_t32, g_a33, g_t33, g_a34, g_t34, g_a35, g_t35, exists_eq_left', Option.some.injEq, exists_eq_left, ne_eq, List.length_nil, List.length_cons, Option.toList_some, Option.toList_none, List.cons_append, List.nil_append, mj_wt_nil, mj_wt_i, mj_wt_r, mj_wt_l, true_and, and_true, false_and, and_false, true_implies, false_implies, implies_true, not_true_eq_false, not_false_eq_true, and_self, Int.reduceEq, Nat.reduceEqDiff, ↓reduceIte, mj_w_id2, e_98 hr, k1, e_109 wB hr, e_42 (q_fault_w wB)]
      try grind
    have hp : 0 ≤ B 25 r.toNat ∧ B 25 r.toNat < 40 := by omega
    rcases q_im_01 (M := B) (r := r) with k4 | k4
    · have eA : q_tkA B r = q_wkM B r := by unfold q_tkA; simp [k1, k4]
      have wA : q_wr (q_wkM B r) := q_wkM_w wB hB
      rcases q_wkY_01 (M := B) (r := r) with k5 | k5
      · have eD : q_tkD B r = q_fault (q_wkM B r) r := by unfold q_tkD q_tkO; rw [eA]; simp [k1, k4, k5]
        rw [eD]
        simp (disch := omega) only [i_93_0, i_93_1, i_93_4, i_93_5, i_93_8, i_93_9, i_93_12, i_93_15, i_93_16, i_93_19, i_93_22, i_93_25, i_93_26, i_93_29, i_93_32, i_93_33, i_93_36, i_93_37, i_93_38, i_93_39, i_93_42, i_93_43, i_93_46, i_93_47, i_93_50, i_93_51, i_93_52, i_93_55, i_93_58, i_93_59, i_93_60, i_93_63, i_93_66, i_93_67, i_93_68, i_93_71, i_93_74, i_93_77, i_93_78, i_93_79, i_93_82, i_93_85, i_93_86, i_93_87, i_93_90, i_93_91, i_93_94, i_93_97, i_93_98, i_93_101, i_93_102, i_93_105, i_93_106, i_93_107, i_93_110, i_93_111, g_o133, g_r133_0, g_r133_1, g_r133_2, g_r133_3, g_o1, g_r1_0, g_r1_1, g_r1_2, g_r1_3, g_r1_4, g_r1_5, g_a42, g_t42, g_a43, g_t43, g_o130, g_r130_0, g_r130_1, g_a131, g_t131, g_o22, g_r22_0, g_r22_1, g_r22_2, g_r22_3, g_r22_4, g_r22_5, g_r22_6, g_r22_7, g_r22_8, g_r22_9, g_r22_10, g_r22_11, g_r22_12, g_a23, g_t23, g_a24, g_t24, g_a25, g_t25, g_a26, g_t26, g_a27, g_t27, g_a28, g_t28, g_a29, g_t29, g_a30, g_t30, g_a31, g_t31, g_a32, g_t32, g_a33, g_t33, g_a34, g_t34, g_a35, g_t35, exists_eq_left', Option.some.injEq, exists_eq_left, ne_eq, List.length_nil, List.length_cons, Option.toList_some, Option.toList_none, List.cons_append, List.nil_append, mj_wt_nil, mj_wt_i, mj_wt_r, mj_wt_l, true_and, and_true, false_and, and_false, true_implies, false_implies, implies_true, not_true_eq_false, not_false_eq_true, and_self, Int.reduceEq, Nat.reduceEqDiff, ↓reduceIte, mj_w_id2, e_98 hr, k1, e_99 hr hp, k4, e_112 wB hr hp, k5, e_109 wA hr, e_42 (q_fault_w wA)]
        try grind
      · have eD : q_tkD B r = q_wkM B r := by unfold q_tkD q_tkO; rw [eA]; simp [k1, k4, k5]
        rw [eD]
        simp (disch := omega) only [i_93_0, i_93_1, i_93_4, i_93_5, i_93_8, i_93_9, i_93_12, i_93_15, i_93_16, i_93_19, i_93_22, i_93_25, i_93_26, i_93_29, i_93_32, i_93_33, i_93_36, i_93_37, i_93_38, i_93_39, i_93_42, i_93_43, i_93_46, i_93_47, i_93_50, i_93_51, i_93_52, i_93_55, i_93_58, i_93_59, i_93_60, i_93_63, i_93_66, i_93_67, i_93_68, i_93_71, i_93_74, i_93_77, i_93_78, i_93_79, i_93_82, i_93_85, i_93_86, i_93_87, i_93_90, i_93_91, i_93_94, i_93_97, i_93_98, i_93_101, i_93_102, i_93_105, i_93_106, i_93_107, i_93_110, i_93_111, g_o133, g_r133_0, g_r133_1, g_r133_2, g_r133_3, g_o1, g_r1_0, g_r1_1, g_r1_2, g_r1_3, g_r1_4, g_r1_5, g_a42, g_t42, g_a43, g_t43, g_o130, g_r130_0, g_r130_1, g_a131, g_t131, g_o22, g_r22_0, g_r22_1, g_r22_2, g_r22_3, g_r22_4, g_r22_5, g_r22_6, g_r22_7, g_r22_8, g_r22_9, g_r22_10, g_r22_11, g_r22_12, g_a23, g_t23, g_a24, g_t24, g_a25, g_t25, g_a26, g_t26, g_a27, g_t27, g_a28, g_t28, g_a29, g_t29, g_a30, g_t30, g_a31, g_t31, g_a32, g_t32, g_a33, g_t33, g_a34, g_t34, g_a35, g_t35, exists_eq_left', Option.some.injEq, exists_eq_left, ne_eq, List.length_nil, List.length_cons, Option.toList_some, Option.toList_none, List.cons_append, List.nil_append, mj_wt_nil, mj_wt_i, mj_wt_r, mj_wt_l, true_and, and_true, false_and, and_false, true_implies, false_implies, implies_true, not_true_eq_false, not_false_eq_true, and_self, Int.reduceEq, Nat.reduceEqDiff, ↓reduceIte, mj_w_id2, e_98 hr, k1, e_99 hr hp, k4, e_112 wB hr hp, k5, e_42 wA]
        try grind
    · have eA : q_tkA B r = q_mtM B r := by unfold q_tkA; simp [k1, k4]
      have wA : q_wr (q_mtM B r) := q_mtM_w wB hr
      rcases q_mtY_01 (M := B) (r := r) with k5 | k5
      · have eD : q_tkD B r = q_fault (q_mtM B r) r := by unfold q_tkD q_tkO; rw [eA]; simp [k1, k4, k5]
        rw [eD]
        simp (disch := omega) only [i_93_0, i_93_1, i_93_4, i_93_5, i_93_8, i_93_9, i_93_12, i_93_15, i_93_16, i_93_19, i_93_22, i_93_25, i_93_26, i_93_29, i_93_32, i_93_33, i_93_36, i_93_37, i_93_38, i_93_39, i_93_42, i_93_43, i_93_46, i_93_47, i_93_50, i_93_51, i_93_52, i_93_55, i_93_58, i_93_59, i_93_60, i_93_63, i_93_66, i_93_67, i_93_68, i_93_71, i_93_74, i_93_77, i_93_78, i_93_79, i_93_82, i_93_85, i_93_86, i_93_87, i_93_90, i_93_91, i_93_94, i_93_97, i_93_98, i_93_101, i_93_102, i_93_105, i_93_106, i_93_107, i_93_110, i_93_111, g_o133, g_r133_0, g_r133_1, g_r133_2, g_r133_3, g_o1, g_r1_0, g_r1_1, g_r1_2, g_r1_3, g_r1_4, g_r1_5, g_a42, g_t42, g_a43, g_t43, g_o130, g_r130_0, g_r130_1, g_a131, g_t131, g_o22, g_r22_0, g_r22_1, g_r22_2, g_r22_3, g_r22_4, g_r22_5, g_r22_6, g_r22_7, g_r22_8, g_r22_9, g_r22_10, g_r22_11, g_r22_12, g_a23, g_t23, g_a24, g_t24, g_a25, g_t25, g_a26, g_t26, g_a27, g_t27, g_a28, g_t28, g_a29, g_t29, g_a30, g_t30, g_a31, g_t31, g_a32, g_t32, g_a33, g_t33, g_a34, g_t34, g_a35, g_t35, exists_eq_left', Option.some.injEq, exists_eq_left, ne_eq, List.length_nil, List.length_cons, Option.toList_some, Option.toList_none, List.cons_append, List.nil_append, mj_wt_nil, mj_wt_i, mj_wt_r, mj_wt_l, true_and, and_true, false_and, and_false, true_implies, false_implies, implies_true, not_true_eq_false, not_false_eq_true, and_self, Int.reduceEq, Nat.reduceEqDiff, ↓reduceIte, mj_w_id2, e_98 hr, k1, e_99 hr hp, k4, e_101 wB hr hp, k5, e_109 wA hr, e_42 (q_fault_w wA)]
        try grind
      · have eD : q_tkD B r = q_mtM B r := by unfold q_tkD q_tkO; rw [eA]; simp [k1, k4, k5]
        rw [eD]
        simp (disch := omega) only [i_93_0, i_93_1, i_93_4, i_93_5, i_93_8, i_93_9, i_93_12, i_93_15, i_93_16, i_93_19, i_93_22, i_93_25, i_93_26, i_93_29, i_93_32, i_93_33, i_93_36, i_93_37, i_93_38, i_93_39, i_93_42, i_93_43, i_93_46, i_93_47, i_93_50, i_93_51, i_93_52, i_93_55, i_93_58, i_93_59, i_93_60, i_93_63, i_93_66, i_93_67, i_93_68, i_93_71, i_93_74, i_93_77, i_93_78, i_93_79, i_93_82, i_93_85, i_93_86, i_93_87, i_93_90, i_93_91, i_93_94, i_93_97, i_93_98, i_93_101, i_93_102, i_93_105, i_93_106, i_93_107, i_93_110, i_93_111, g_o133, g_r133_0, g_r133_1, g_r133_2, g_r133_3, g_o1, g_r1_0, g_r1_1, g_r1_2, g_r1_3, g_r1_4, g_r1_5, g_a42, g_t42, g_a43, g_t43, g_o130, g_r130_0, g_r130_1, g_a131, g_t131, g_o22, g_r22_0, g_r22_1, g_r22_2, g_r22_3, g_r22_4, g_r22_5, g_r22_6, g_r22_7, g_r22_8, g_r22_9, g_r22_10, g_r22_11, g_r22_12, g_a23, g_t23, g_a24, g_t24, g_a25, g_t25, g_a26, g_t26, g_a27, g_t27, g_a28, g_t28, g_a29, g_t29, g_a30, g_t30, g_a31, g_t31, g_a32, g_t32, g_a33, g_t33, g_a34, g_t34, g_a35, g_t35, exists_eq_left', Option.some.injEq, exists_eq_left, ne_eq, List.length_nil, List.length_cons, Option.toList_some, Option.toList_none, List.cons_append, List.nil_append, mj_wt_nil, mj_wt_i, mj_wt_r, mj_wt_l, true_and, and_true, false_and, and_false, true_implies, false_implies, implies_true, not_true_eq_false, not_false_eq_true, and_self, Int.reduceEq, Nat.reduceEqDiff, ↓reduceIte, mj_w_id2, e_98 hr, k1, e_99 hr hp, k4, e_101 wB hr hp, k5, e_42 wA]
        try grind
  have hk := fun (hh : 0 ≤ r ∧ r < 8) => key (mj_up A 1 10 r) r (q_wr_up w1 (by simp [q_okv]; omega)) (by unfold q_few; rw [mj_up_ne (by omega)]; exact hn) hh
  by_cases hm : r = -1
  · have e3 : q_tk2 A r = A := by unfold q_tk2; rw [if_pos hm]
    rw [e3]
    unfold q_tkR at hr
    by_cases h9 : A 1 9 = 0
    · rw [if_pos h9] at hr
      simp (disch := omega) only [i_93_0, i_93_1, i_93_4, i_93_5, i_93_8, i_93_9, i_93_12, i_93_15, i_93_16, i_93_19, i_93_22, i_93_25, i_93_26, i_93_29, i_93_32, i_93_33, i_93_36, i_93_37, i_93_38, i_93_39, i_93_42, i_93_43, i_93_46, i_93_47, i_93_51, i_93_52, i_93_55, i_93_58, i_93_59, i_93_60, i_93_63, i_93_66, i_93_67, i_93_68, i_93_71, i_93_74, i_93_77, i_93_78, i_93_79, i_93_82, i_93_85, i_93_86, i_93_87, i_93_90, i_93_91, i_93_94, i_93_97, i_93_98, i_93_101, i_93_102, i_93_105, i_93_106, i_93_107, i_93_110, i_93_111, g_o133, g_r133_0, g_r133_1, g_r133_2, g_r133_3, g_o1, g_r1_0, g_r1_1, g_r1_2, g_r1_3, g_r1_4, g_r1_5, g_a42, g_t42, g_a43, g_t43, g_o130, g_r130_0, g_r130_1, g_a131, g_t131, g_o22, g_r22_0, g_r22_1, g_r22_2, g_r22_3, g_r22_4, g_r22_5, g_r22_6, g_r22_7, g_r22_8, g_r22_9, g_r22_10, g_r22_11, g_r22_12, g_a23, g_t23, g_a24, g_t24, g_a25, g_t25, g_a26, g_t26, g_a27, g_t27, g_a28, g_t28, g_a29, g_t29, g_a30, g_t30, g_a31, g_t31, g_a32, g_t32, g_a33, g_t33, g_a34, g_t34, g_a35, g_t35, exists_eq_left', Option.some.injEq, exists_eq_left, ne_eq, List.length_nil, List.length_cons, Option.toList_some, Option.toList_none, List.cons_append, List.nil_append, mj_wt_nil, mj_wt_i, mj_wt_r, mj_wt_l, true_and, and_true, false_and, and_false, true_implies, false_implies, implies_true, not_true_eq_false, not_false_eq_true, and_self, Int.reduceEq, Nat.reduceEqDiff, ↓reduceIte, mj_w_id2, e_94, e_42 wm, e1, h9, e_95 w1, hr, hm]
      try grind
    · rw [if_neg h9] at hr
      simp (disch := omega) only [i_93_0, i_93_1, i_93_4, i_93_5, i_93_8, i_93_9, i_93_12, i_93_15, i_93_16, i_93_19, i_93_22, i_93_25, i_93_26, i_93_29, i_93_32, i_93_33, i_93_36, i_93_37, i_93_38, i_93_39, i_93_42, i_93_43, i_93_46, i_93_47, i_93_51, i_93_52, i_93_55, i_93_58, i_93_59, i_93_60, i_93_63, i_93_66, i_93_67, i_93_68, i_93_71, i_93_74, i_93_77, i_93_78, i_93_79, i_93_82, i_93_85, i_93_86, i_93_87, i_93_90, i_93_91, i_93_94, i_93_97, i_93_98, i_93_101, i_93_102, i_93_105, i_93_106, i_93_107, i_93_110, i_93_111, g_o133, g_r133_0, g_r133_1, g_r133_2, g_r133_3, g_o1, g_r1_0, g_r1_1, g_r1_2, g_r1_3, g_r1_4, g_r1_5, g_a42, g_t42, g_a43, g_t43, g_o130, g_r130_0, g_r130_1, g_a131, g_t131, g_o22, g_r22_0, g_r22_1, g_r22_2, g_r22_3, g_r22_4, g_r22_5, g_r22_6, g_r22_7, g_r22_8, g_r22_9, g_r22_10, g_r22_11, g_r22_12, g_a23, g_t23, g_a24, g_t24, g_a25, g_t25, g_a26, g_t26, g_a27, g_t27, g_a28, g_t28, g_a29, g_t29, g_a30, g_t30, g_a31, g_t31, g_a32, g_t32, g_a33, g_t33, g_a34, g_t34, g_a35, g_t35, exists_eq_left', Option.some.injEq, exists_eq_left, ne_eq, List.length_nil, List.length_cons, Option.toList_some, Option.toList_none, List.cons_append, List.nil_append, mj_wt_nil, mj_wt_i, mj_wt_r, mj_wt_l, true_and, and_true, false_and, and_false, true_implies, false_implies, implies_true, not_true_eq_false, not_false_eq_true, and_self, Int.reduceEq, Nat.reduceEqDiff, ↓reduceIte, mj_w_id2, e_94, e_42 wm, e1, h9, e_97 w1, hr, hm]
      try grind
  · have e3 : q_tk2 A r = q_sweep (q_tkD (mj_up A 1 10 r) r) := by unfold q_tk2; rw [if_neg hm]
    rw [e3]
    have hk := hk (by omega)
    unfold q_tkR at hr
    by_cases h9 : A 1 9 = 0
    · rw [if_pos h9] at hr
      simp (disch := omega) only [i_93_0, i_93_1, i_93_4, i_93_5, i_93_8, i_93_9, i_93_12, i_93_15, i_93_16, i_93_19, i_93_22, i_93_25, i_93_26, i_93_29, i_93_32, i_93_33, i_93_36, i_93_37, i_93_38, i_93_39, i_93_42, i_93_43, i_93_46, i_93_47, i_93_51, i_93_52, i_93_55, i_93_58, i_93_59, i_93_60, i_93_63, i_93_66, i_93_67, i_93_68, i_93_71, i_93_74, i_93_77, i_93_78, i_93_79, i_93_82, i_93_85, i_93_86, i_93_87, i_93_90, i_93_91, i_93_94, i_93_97, i_93_98, i_93_101, i_93_102, i_93_105, i_93_106, i_93_107, i_93_110, i_93_111, g_o133, g_r133_0, g_r133_1, g_r133_2, g_r133_3, g_o1, g_r1_0, g_r1_1, g_r1_2, g_r1_3, g_r1_4, g_r1_5, g_a42, g_t42, g_a43, g_t43, g_o130, g_r130_0, g_r130_1, g_a131, g_t131, g_o22, g_r22_0, g_r22_1, g_r22_2, g_r22_3, g_r22_4, g_r22_5, g_r22_6, g_r22_7, g_r22_8, g_r22_9, g_r22_10, g_r22_11, g_r22_12, g_a23, g_t23, g_a24, g_t24, g_a25, g_t25, g_a26, g_t26, g_a27, g_t27, g_a28, g_t28, g_a29, g_t29, g_a30, g_t30, g_a31, g_t31, g_a32, g_t32, g_a33, g_t33, g_a34, g_t34, g_a35, g_t35, exists_eq_left', Option.some.injEq, exists_eq_left, ne_eq, List.length_nil, List.length_cons, Option.toList_some, Option.toList_none, List.cons_append, List.nil_append, mj_wt_nil, mj_wt_i, mj_wt_r, mj_wt_l, true_and, and_true, false_and, and_false, true_implies, false_implies, implies_true, not_true_eq_false, not_false_eq_true, and_self, Int.reduceEq, Nat.reduceEqDiff, ↓reduceIte, mj_w_id2, e_94, e_42 wm, e1, h9, e_95 w1, hr, hm, hk]
      try grind
    · rw [if_neg h9] at hr
      simp (disch := omega) only [i_93_0, i_93_1, i_93_4, i_93_5, i_93_8, i_93_9, i_93_12, i_93_15, i_93_16, i_93_19, i_93_22, i_93_25, i_93_26, i_93_29, i_93_32, i_93_33, i_93_36, i_93_37, i_93_38, i_93_39, i_93_42, i_93_43, i_93_46, i_93_47, i_93_51, i_93_52, i_93_55, i_93_58, i_93_59, i_93_60, i_93_63, i_93_66, i_93_67, i_93_68, i_93_71, i_93_74, i_93_77, i_93_78, i_93_79, i_93_82, i_93_85, i_93_86, i_93_87, i_93_90, i_93_91, i_93_94, i_93_97, i_93_98, i_93_101, i_93_102, i_93_105, i_93_106, i_93_107, i_93_110, i_93_111, g_o133, g_r133_0, g_r133_1, g_r133_2, g_r133_3, g_o1, g_r1_0, g_r1_1, g_r1_2, g_r1_3, g_r1_4, g_r1_5, g_a42, g_t42, g_a43, g_t43, g_o130, g_r130_0, g_r130_1, g_a131, g_t131, g_o22, g_r22_0, g_r22_1, g_r22_2, g_r22_3, g_r22_4, g_r22_5, g_r22_6, g_r22_7, g_r22_8, g_r22_9, g_r22_10, g_r22_11, g_r22_12, g_a23, g_t23, g_a24, g_t24, g_a25, g_t25, g_a26, g_t26, g_a27, g_t27, g_a28, g_t28, g_a29, g_t29, g_a30, g_t30, g_a31, g_t31, g_a32, g_t32, g_a33, g_t33, g_a34, g_t34, g_a35, g_t35, exists_eq_left', Option.some.injEq, exists_eq_left, ne_eq, List.length_nil, List.length_cons, Option.toList_some, Option.toList_none, List.cons_append, List.nil_append, mj_wt_nil, mj_wt_i, mj_wt_r, mj_wt_l, true_and, and_true, false_and, and_false, true_implies, false_implies, implies_true, not_true_eq_false, not_false_eq_true, and_self, Int.reduceEq, Nat.reduceEqDiff, ↓reduceIte, mj_w_id2, e_94, e_42 wm, e1, h9, e_97 w1, hr, hm, hk]
      try grind
end sp57
