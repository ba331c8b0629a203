section sp98m
variable {x : Nat} {M V : mj_M} {Q : Option mj_V → mj_G → mj_M → Prop} {d : Nat}
def m_dg (M : mj_M) : Int := if 48 ≤ m_by M ∧ m_by M ≤ 57 then 1 else 0
theorem m_dg_01 : m_dg M = 0 ∨ (m_dg M = 1 ∧ 48 ≤ m_by M ∧ m_by M ≤ 57) := by
  unfold m_dg; split
  · rename_i h; exact Or.inr ⟨rfl, h⟩
  · exact Or.inl rfl
def m_nuV (M : mj_M) : Int := if m_dg M = 0 then 0 else if m_dg (m_p1 M) = 0 then m_by M - 48 else 10 * (m_by M - 48) + m_by (m_p1 M) - 48
def m_nuM (M : mj_M) : mj_M := if m_dg M = 0 then m_bad M else if m_dg (m_p1 M) = 0 then m_p1 M else m_p1 (m_p1 M)
theorem m_dg_lt (h : m_dg M = 1) : M 172 10 < M 172 9 := by
  rcases m_dg_01 (M := M) with q | q
  · omega
  · exact m_by_lt (c := m_by M) (by omega) rfl
theorem m_nuM_tx (h : m_tx M) : m_tx (m_nuM M) := by
  unfold m_nuM
  rcases m_dg_01 (M := M) with c1 | ⟨c1, -⟩
  · rw [if_pos c1]; exact m_bad_tx h
  · have t1 := m_p1_tx h (m_dg_lt c1)
    rw [if_neg (by omega)]
    rcases m_dg_01 (M := m_p1 M) with c2 | ⟨c2, -⟩
    · rw [if_pos c2]; exact t1
    · rw [if_neg (by omega)]; exact m_p1_tx t1 (m_dg_lt c2)
theorem r_273 (h : m_tx M) (h0 : M 172 11 = 0) : mj_Rn (d + 9) 273 0 [.inr (.inl 172), .inr (.inr 0)] [] (SGx x) (v_st V M) Q = Q (some (.inl (m_nuV M))) (SGx x) (v_st V (m_nuM M)) := by
  have h4 := h.2.2
  have h2 := h.1
  have h3 := h.2.1
  have eb : mj_up M 172 11 1 = m_bad M := rfl
  have b11 : m_bad M 172 11 = 1 := by rw [m_bad_at, if_pos rfl]
  unfold m_nuV m_nuM
  rcases m_dg_01 (M := M) with c1 | ⟨c1, c1b⟩
  · have c1c : ¬ (48 ≤ m_by M ∧ m_by M ≤ 57) := by unfold m_dg at c1; split at c1 <;> omega
    have hb := m_bad_tx h
    simp (disch := omega) only [i_273_0, i_273_1, i_273_4, i_273_6, i_273_8, i_273_11, i_273_14, i_273_15, i_273_16, i_273_19, i_273_20, i_273_23, i_273_26, i_273_27, i_273_28, i_273_29, i_273_32, i_273_34, i_273_35, i_273_36, i_273_37, i_273_38, i_273_41, i_273_42, i_273_43, i_273_46, i_273_47, i_273_50, i_273_52, i_273_54, i_273_57, i_273_60, i_273_62, i_273_63, i_273_64, i_273_65, i_273_68, i_273_69, i_273_71, i_273_72, i_273_73, i_273_74, i_273_75, i_273_78, i_273_79, i_273_80, i_273_83, i_273_84, g_o172, g_r172_1, g_r172_2, g_r172_4, g_r172_5, g_r172_6, g_r172_7, g_r172_8, g_r172_16, g_r172_18, g_r172_19, g_r172_20, g_r172_21, g_a173, g_t173, g_a174, g_t174, g_a179, g_t179, exists_eq_left', Option.some.injEq, exists_eq_left, ne_eq, List.length_nil, List.length_cons, Option.toList_some, Option.toList_none, List.cons_append, List.nil_append, mj_wt_nil, mj_wt_i, mj_wt_r, mj_wt_l, true_and, and_true, false_and, and_false, true_implies, false_implies, implies_true, not_true_eq_false, not_false_eq_true, and_self, Int.reduceEq, Nat.reduceEqDiff, ↓reduceIte, mj_w_id2, Int.toNat_natCast, v_st_ne, v_rd, v_up, v_up_ne, v_rg, v_rg2, v_th0, v_th1, v_th2, v_th3, v_th4, v_th5, v_th6, v_th7, v_tk0, v_tk1, v_tk2, v_tk3, v_tk4, v_tk5, v_tk6, v_tk7, v_tk8, v_tk9, v_tk10, v_tk11, v_rn0, v_rn1, v_rn2, v_rn3, v_rn4, v_rn5, v_rn6, v_rn7, v_rn8, v_rn9, v_rn10, v_rn11, v_ws0, v_ws1, v_ws2, v_ws3, v_ws4, v_ws5, v_ws6, v_gl0, v_gl1, v_gl2, v_gl3, v_gl4, v_gl5, v_gl6, v_gl7, v_gl8, v_gl9, v_ow, v_ow2, v_iw, v_tb, v_pg, Int.neg_neg, Int.reduceNeg, Int.reduceToNat, forall_const, Int.reduceLT, Int.reduceLE, if_true, if_false, gt_iff_lt, r_178, r_270 h, r_270 hb, c1, c1c, eb, b11, h0]
    try grind
  · have hl := m_dg_lt c1
    have t1 := m_p1_tx h hl
    have e1 : mj_up M 172 10 (M 172 10 + 1) = m_p1 M := rfl
    have p10 : m_p1 M 172 10 = M 172 10 + 1 := by rw [m_p1_at, if_pos rfl]
    have e2 : mj_up (m_p1 M) 172 10 (M 172 10 + 1 + 1) = m_p1 (m_p1 M) := by unfold m_p1; rw [mj_up_at, if_pos rfl]
    rcases m_dg_01 (M := m_p1 M) with c2 | ⟨c2, c2b⟩
    · have c2c : ¬ (48 ≤ m_by (m_p1 M) ∧ m_by (m_p1 M) ≤ 57) := by unfold m_dg at c2; split at c2 <;> omega
      simp (disch := omega) only [i_273_0, i_273_1, i_273_4, i_273_6, i_273_8, i_273_11, i_273_14, i_273_15, i_273_16, i_273_19, i_273_20, i_273_23, i_273_26, i_273_27, i_273_28, i_273_29, i_273_32, i_273_34, i_273_35, i_273_36, i_273_37, i_273_38, i_273_41, i_273_42, i_273_43, i_273_46, i_273_47, i_273_50, i_273_52, i_273_54, i_273_57, i_273_60, i_273_62, i_273_63, i_273_64, i_273_65, i_273_68, i_273_69, i_273_71, i_273_72, i_273_73, i_273_74, i_273_75, i_273_78, i_273_79, i_273_80, i_273_83, i_273_84, g_o172, g_r172_1, g_r172_2, g_r172_4, g_r172_5, g_r172_6, g_r172_7, g_r172_8, g_r172_16, g_r172_18, g_r172_19, g_r172_20, g_r172_21, g_a173, g_t173, g_a174, g_t174, g_a179, g_t179, exists_eq_left', Option.some.injEq, exists_eq_left, ne_eq, List.length_nil, List.length_cons, Option.toList_some, Option.toList_none, List.cons_append, List.nil_append, mj_wt_nil, mj_wt_i, mj_wt_r, mj_wt_l, true_and, and_true, false_and, and_false, true_implies, false_implies, implies_true, not_true_eq_false, not_false_eq_true, and_self, Int.reduceEq, Nat.reduceEqDiff, ↓reduceIte, mj_w_id2, Int.toNat_natCast, v_st_ne, v_rd, v_up, v_up_ne, v_rg, v_rg2, v_th0, v_th1, v_th2, v_th3, v_th4, v_th5, v_th6, v_th7, v_tk0, v_tk1, v_tk2, v_tk3, v_tk4, v_tk5, v_tk6, v_tk7, v_tk8, v_tk9, v_tk10, v_tk11, v_rn0, v_rn1, v_rn2, v_rn3, v_rn4, v_rn5, v_rn6, v_rn7, v_rn8, v_rn9, v_rn10, v_rn11, v_ws0, v_ws1, v_ws2, v_ws3, v_ws4, v_ws5, v_ws6, v_gl0, v_gl1, v_gl2, v_gl3, v_gl4, v_gl5, v_gl6, v_gl7, v_gl8, v_gl9, v_ow, v_ow2, v_iw, v_tb, v_pg, Int.neg_neg, Int.reduceNeg, Int.reduceToNat, forall_const, Int.reduceLT, Int.reduceLE, if_true, if_false, gt_iff_lt, r_178, r_270 h, r_270 t1, c1, c1b, c2, c2c, e1, e2, eb, b11, h0, p10]
      try grind
    · have hl2 := m_dg_lt c2
      rw [p10] at hl2
      have h5 := t1.2.1
      have p9 : m_p1 M 172 9 = M 172 9 := by rw [m_p1_at, if_neg (by omega)]
      rw [p9] at hl2
      simp (disch := omega) only [i_273_0, i_273_1, i_273_4, i_273_6, i_273_8, i_273_11, i_273_14, i_273_15, i_273_16, i_273_19, i_273_20, i_273_23, i_273_26, i_273_27, i_273_28, i_273_29, i_273_32, i_273_34, i_273_35, i_273_36, i_273_37, i_273_38, i_273_41, i_273_42, i_273_43, i_273_46, i_273_47, i_273_50, i_273_52, i_273_54, i_273_57, i_273_60, i_273_62, i_273_63, i_273_64, i_273_65, i_273_68, i_273_69, i_273_71, i_273_72, i_273_73, i_273_74, i_273_75, i_273_78, i_273_79, i_273_80, i_273_83, i_273_84, g_o172, g_r172_1, g_r172_2, g_r172_4, g_r172_5, g_r172_6, g_r172_7, g_r172_8, g_r172_16, g_r172_18, g_r172_19, g_r172_20, g_r172_21, g_a173, g_t173, g_a174, g_t174, g_a179, g_t179, exists_eq_left', Option.some.injEq, exists_eq_left, ne_eq, List.length_nil, List.length_cons, Option.toList_some, Option.toList_none, List.cons_append, List.nil_append, mj_wt_nil, mj_wt_i, mj_wt_r, mj_wt_l, true_and, and_true, false_and, and_false, true_implies, false_implies, implies_true, not_true_eq_false, not_false_eq_true, and_self, Int.reduceEq, Nat.reduceEqDiff, ↓reduceIte, mj_w_id2, Int.toNat_natCast, v_st_ne, v_rd, v_up, v_up_ne, v_rg, v_rg2, v_th0, v_th1, v_th2, v_th3, v_th4, v_th5, v_th6, v_th7, v_tk0, v_tk1, v_tk2, v_tk3, v_tk4, v_tk5, v_tk6, v_tk7, v_tk8, v_tk9, v_tk10, v_tk11, v_rn0, v_rn1, v_rn2, v_rn3, v_rn4, v_rn5, v_rn6, v_rn7, v_rn8, v_rn9, v_rn10, v_rn11, v_ws0, v_ws1, v_ws2, v_ws3, v_ws4, v_ws5, v_ws6, v_gl0, v_gl1, v_gl2, v_gl3, v_gl4, v_gl5, v_gl6, v_gl7, v_gl8, v_gl9, v_ow, v_ow2, v_iw, v_tb, v_pg, Int.neg_neg, Int.reduceNeg, Int.reduceToNat, forall_const, Int.reduceLT, Int.reduceLE, if_true, if_false, gt_iff_lt, r_178, r_270 h, r_270 t1, c1, c1b, c2, c2b, e1, e2, eb, b11, h0, p10]
      try grind
def m_rgV : Nat → Int → mj_M → Int
  | 0, r, _ => r
  | n + 1, r, M => if m_rgt (m_by M) = 0 then r else if mj_and r (m_rgt (m_by M)) ≠ 0 then r else m_rgV n (mj_or r (m_rgt (m_by M))) (m_p1 M)
def m_rgM : Nat → Int → mj_M → mj_M
  | 0, _, M => M
  | n + 1, r, M => if m_rgt (m_by M) = 0 then M else if mj_and r (m_rgt (m_by M)) ≠ 0 then m_bad M else m_rgM n (mj_or r (m_rgt (m_by M))) (m_p1 M)
theorem m_rgt_lt (h : m_rgt (m_by M) ≠ 0) : M 172 10 < M 172 9 := by
  refine m_by_lt (c := m_by M) ?_ rfl
  unfold m_rgt at h
  split at h
  · omega
  · split at h
    · omega
    · split at h
      · omega
      · split at h
        · omega
        · exact absurd rfl h
theorem m_rgM_tx : ∀ (n : Nat) (r : Int) (M : mj_M), m_tx M → m_tx (m_rgM n r M) := by
  intro n
  induction n with
  | zero => intro r M h; exact h
  | succ n ih =>
    intro r M h
    rw [m_rgM]
    split
    · exact h
    · rename_i q
      split
      · exact m_bad_tx h
      · exact ih _ _ (m_p1_tx h (m_rgt_lt q))
theorem l_274 (n : Nat) : ∀ (r : Int) (M : mj_M), M 172 9 ≤ M 172 10 + n → m_tx M → M 172 11 = 0 → mj_Rn (d + 9) 274 17 [.inr (.inl 172), .inl r] [] (SGx x) (v_st V M) Q = Q (some (.inl (m_rgV n r M))) (SGx x) (v_st V (m_rgM n r M)) := by
  induction n with
  | zero =>
    intro r M hn h h0
    have c1 : m_rgt (m_by M) = 0 := Classical.byContradiction fun q => by have := m_rgt_lt q; omega
    rw [i_274_17, m_rgV, m_rgM]
    simp (disch := omega) only [i_274_0, i_274_1, i_274_2, i_274_3, i_274_6, i_274_9, i_274_12, i_274_13, i_274_14, i_274_18, i_274_21, i_274_24, i_274_25, i_274_28, i_274_31, i_274_34, i_274_35, i_274_36, i_274_39, i_274_42, i_274_43, i_274_46, i_274_47, i_274_48, i_274_51, i_274_52, i_274_55, i_274_58, i_274_59, i_274_60, i_274_63, i_274_66, i_274_67, i_274_68, i_274_69, i_274_70, i_274_73, i_274_74, i_274_75, i_274_78, i_274_81, i_274_82, g_o172, g_r172_1, g_r172_2, g_r172_4, g_r172_5, g_r172_6, g_r172_7, g_r172_8, g_r172_16, g_r172_18, g_r172_19, g_r172_20, g_r172_21, g_a173, g_t173, g_a174, g_t174, g_a179, g_t179, exists_eq_left', Option.some.injEq, exists_eq_left, ne_eq, List.length_nil, List.length_cons, Option.toList_some, Option.toList_none, List.cons_append, List.nil_append, mj_wt_nil, mj_wt_i, mj_wt_r, mj_wt_l, true_and, and_true, false_and, and_false, true_implies, false_implies, implies_true, not_true_eq_false, not_false_eq_true, and_self, Int.reduceEq, Nat.reduceEqDiff, ↓reduceIte, mj_w_id2, Int.toNat_natCast, v_st_ne, v_rd, v_up, v_up_ne, v_rg, v_rg2, v_th0, v_th1, v_th2, v_th3, v_th4, v_th5, v_th6, v_th7, v_tk0, v_tk1, v_tk2, v_tk3, v_tk4, v_tk5, v_tk6, v_tk7, v_tk8, v_tk9, v_tk10, v_tk11, v_rn0, v_rn1, v_rn2, v_rn3, v_rn4, v_rn5, v_rn6, v_rn7, v_rn8, v_rn9, v_rn10, v_rn11, v_ws0, v_ws1, v_ws2, v_ws3, v_ws4, v_ws5, v_ws6, v_gl0, v_gl1, v_gl2, v_gl3, v_gl4, v_gl5, v_gl6, v_gl7, v_gl8, v_gl9, v_ow, v_ow2, v_iw, v_tb, v_pg, Int.neg_neg, Int.reduceNeg, Int.reduceToNat, forall_const, Int.reduceLT, Int.reduceLE, if_true, if_false, gt_iff_lt, r_270 h, r_275, c1, h0]
    try grind
  | succ n ih =>
    intro r M hn h h0
    have h4 := h.2.2
    have h2 := h.1
    have h3 := h.2.1
    have eb : mj_up M 172 11 1 = m_bad M := rfl
    have b11 : m_bad M 172 11 = 1 := by rw [m_bad_at, if_pos rfl]
    have e1 : mj_up M 172 10 (M 172 10 + 1) = m_p1 M := rfl
    rw [i_274_17, m_rgV, m_rgM]
    by_cases c1 : m_rgt (m_by M) = 0
    · simp (disch := omega) only [i_274_0, i_274_1, i_274_2, i_274_3, i_274_6, i_274_9, i_274_12, i_274_13, i_274_14, i_274_18, i_274_21, i_274_24, i_274_25, i_274_28, i_274_31, i_274_34, i_274_35, i_274_36, i_274_39, i_274_42, i_274_43, i_274_46, i_274_47, i_274_48, i_274_51, i_274_52, i_274_55, i_274_58, i_274_59, i_274_60, i_274_63, i_274_66, i_274_67, i_274_68, i_274_69, i_274_70, i_274_73, i_274_74, i_274_75, i_274_78, i_274_81, i_274_82, g_o172, g_r172_1, g_r172_2, g_r172_4, g_r172_5, g_r172_6, g_r172_7, g_r172_8, g_r172_16, g_r172_18, g_r172_19, g_r172_20, g_r172_21, g_a173, g_t173, g_a174, g_t174, g_a179, g_t179, exists_eq_left', Option.some.injEq, exists_eq_left, ne_eq, List.length_nil, List.length_cons, Option.toList_some, Option.toList_none, List.cons_append, List.nil_append, mj_wt_nil, mj_wt_i, mj_wt_r, mj_wt_l, true_and, and_true, false_and, and_false, true_implies, false_implies, implies_true, not_true_eq_false, not_false_eq_true, and_self, Int.reduceEq, Nat.reduceEqDiff, ↓reduceIte, mj_w_id2, Int.toNat_natCast, v_st_ne, v_rd, v_up, v_up_ne, v_rg, v_rg2, v_th0, v_th1, v_th2, v_th3, v_th4, v_th5, v_th6, v_th7, v_tk0, v_tk1, v_tk2, v_tk3, v_tk4, v_tk5, v_tk6, v_tk7, v_tk8, v_tk9, v_tk10, v_tk11, v_rn0, v_rn1, v_rn2, v_rn3, v_rn4, v_rn5, v_rn6, v_rn7, v_rn8, v_rn9, v_rn10, v_rn11, v_ws0, v_ws1, v_ws2, v_ws3, v_ws4, v_ws5, v_ws6, v_gl0, v_gl1, v_gl2, v_gl3, v_gl4, v_gl5, v_gl6, v_gl7, v_gl8, v_gl9, v_ow, v_ow2, v_iw, v_tb, v_pg, Int.neg_neg, Int.reduceNeg, Int.reduceToNat, forall_const, Int.reduceLT, Int.reduceLE, if_true, if_false, gt_iff_lt, r_270 h, r_275, c1, e1, eb, b11, h0]
      try grind
    · have hl := m_rgt_lt c1
      by_cases c2 : mj_and r (m_rgt (m_by M)) = 0
      · have i1 := ih (mj_or r (m_rgt (m_by M))) (m_p1 M) (by rw [m_p1_at, m_p1_at, if_neg (by omega), if_pos rfl]; omega) (m_p1_tx h hl) (by rw [m_p1_at, if_neg (by omega)]; exact h0)
        clear ih
        simp (disch := omega) only [i_274_0, i_274_1, i_274_2, i_274_3, i_274_6, i_274_9, i_274_12, i_274_13, i_274_14, i_274_18, i_274_21, i_274_24, i_274_25, i_274_28, i_274_31, i_274_34, i_274_35, i_274_36, i_274_39, i_274_42, i_274_43, i_274_46, i_274_47, i_274_48, i_274_51, i_274_52, i_274_55, i_274_58, i_274_59, i_274_60, i_274_63, i_274_66, i_274_67, i_274_68, i_274_69, i_274_70, i_274_73, i_274_74, i_274_75, i_274_78, i_274_81, i_274_82, g_o172, g_r172_1, g_r172_2, g_r172_4, g_r172_5, g_r172_6, g_r172_7, g_r172_8, g_r172_16, g_r172_18, g_r172_19, g_r172_20, g_r172_21, g_a173, g_t173, g_a174, g_t174, g_a179, g_t179, exists_eq_left', Option.some.injEq, exists_eq_left, ne_eq, List.length_nil, List.length_cons, Option.toList_some, Option.toList_none, List.cons_append, List.nil_append, mj_wt_nil, mj_wt_i, mj_wt_r, mj_wt_l, true_and, and_true, false_and, and_false, true_implies, false_implies, implies_true, not_true_eq_false, not_false_eq_true, and_self, Int.reduceEq, Nat.reduceEqDiff, ↓reduceIte, mj_w_id2, Int.toNat_natCast, v_st_ne, v_rd, v_up, v_up_ne, v_rg, v_rg2, v_th0, v_th1, v_th2, v_th3, v_th4, v_th5, v_th6, v_th7, v_tk0, v_tk1, v_tk2, v_tk3, v_tk4, v_tk5, v_tk6, v_tk7, v_tk8, v_tk9, v_tk10, v_tk11, v_rn0, v_rn1, v_rn2, v_rn3, v_rn4, v_rn5, v_rn6, v_rn7, v_rn8, v_rn9, v_rn10, v_rn11, v_ws0, v_ws1, v_ws2, v_ws3, v_ws4, v_ws5, v_ws6, v_gl0, v_gl1, v_gl2, v_gl3, v_gl4, v_gl5, v_gl6, v_gl7, v_gl8, v_gl9, v_ow, v_ow2, v_iw, v_tb, v_pg, Int.neg_neg, Int.reduceNeg, Int.reduceToNat, forall_const, Int.reduceLT, Int.reduceLE, if_true, if_false, gt_iff_lt, r_270 h, r_275, c1, c2, i1, hl, e1, eb, b11, h0]
        try grind
      · have hb := m_bad_tx h
        clear ih
        simp (disch := omega) only [i_274_0, i_274_1, i_274_2, i_274_3, i_274_6, i_274_9, i_274_12, i_274_13, i_274_14, i_274_18, i_274_21, i_274_24, i_274_25, i_274_28, i_274_31, i_274_34, i_274_35, i_274_36, i_274_39, i_274_42, i_274_43, i_274_46, i_274_47, i_274_48, i_274_51, i_274_52, i_274_55, i_274_58, i_274_59, i_274_60, i_274_63, i_274_66, i_274_67, i_274_68, i_274_69, i_274_70, i_274_73, i_274_74, i_274_75, i_274_78, i_274_81, i_274_82, g_o172, g_r172_1, g_r172_2, g_r172_4, g_r172_5, g_r172_6, g_r172_7, g_r172_8, g_r172_16, g_r172_18, g_r172_19, g_r172_20, g_r172_21, g_a173, g_t173, g_a174, g_t174, g_a179, g_t179, exists_eq_left', Option.some.injEq, exists_eq_left, ne_eq, List.length_nil, List.length_cons, Option.toList_some, Option.toList_none, List.cons_append, List.nil_append, mj_wt_nil, mj_wt_i, mj_wt_r, mj_wt_l, true_and, and_true, false_and, and_false, true_implies, false_implies, implies_true, not_true_eq_false, not_false_eq_true, and_self, Int.reduceEq, Nat.reduceEqDiff, ↓reduceIte, mj_w_id2, Int.toNat_natCast, v_st_ne, v_rd, v_up, v_up_ne, v_rg, v_rg2, v_th0, v_th1, v_th2, v_th3, v_th4, v_th5, v_th6, v_th7, v_tk0, v_tk1, v_tk2, v_tk3, v_tk4, v_tk5, v_tk6, v_tk7, v_tk8, v_tk9, v_tk10, v_tk11, v_rn0, v_rn1, v_rn2, v_rn3, v_rn4, v_rn5, v_rn6, v_rn7, v_rn8, v_rn9, v_rn10, v_rn11, v_ws0, v_ws1, v_ws2, v_ws3, v_ws4, v_ws5, v_ws6, v_gl0, v_gl1, v_gl2, v_gl3, v_gl4, v_gl5, v_gl6, v_gl7, v_gl8, v_gl9, v_ow, v_ow2, v_iw, v_tb, v_pg, Int.neg_neg, Int.reduceNeg, Int.reduceToNat, forall_const, Int.reduceLT, Int.reduceLE, if_true, if_false, gt_iff_lt, r_270 h, r_270 hb, r_275, c1, c2, hl, e1, eb, b11, h0]
        rw [i_274_17]
        simp (disch := omega) only [i_274_0, i_274_1, i_274_2, i_274_3, i_274_6, i_274_9, i_274_12, i_274_13, i_274_14, i_274_18, i_274_21, i_274_24, i_274_25, i_274_28, i_274_31, i_274_34, i_274_35, i_274_36, i_274_39, i_274_42, i_274_43, i_274_46, i_274_47, i_274_48, i_274_51, i_274_52, i_274_55, i_274_58, i_274_59, i_274_60, i_274_63, i_274_66, i_274_67, i_274_68, i_274_69, i_274_70, i_274_73, i_274_74, i_274_75, i_274_78, i_274_81, i_274_82, g_o172, g_r172_1, g_r172_2, g_r172_4, g_r172_5, g_r172_6, g_r172_7, g_r172_8, g_r172_16, g_r172_18, g_r172_19, g_r172_20, g_r172_21, g_a173, g_t173, g_a174, g_t174, g_a179, g_t179, exists_eq_left', Option.some.injEq, exists_eq_left, ne_eq, List.length_nil, List.length_cons, Option.toList_some, Option.toList_none, List.cons_append, List.nil_append, mj_wt_nil, mj_wt_i, mj_wt_r, mj_wt_l, true_and, and_true, false_and, and_false, true_implies, false_implies, implies_true, not_true_eq_false, not_false_eq_true, and_self, Int.reduceEq, Nat.reduceEqDiff, ↓reduceIte, mj_w_id2, Int.toNat_natCast, v_st_ne, v_rd, v_up, v_up_ne, v_rg, v_rg2, v_th0, v_th1, v_th2, v_th3, v_th4, v_th5, v_th6, v_th7, v_tk0, v_tk1, v_tk2, v_tk3, v_tk4, v_tk5, v_tk6, v_tk7, v_tk8, v_tk9, v_tk10, v_tk11, v_rn0, v_rn1, v_rn2, v_rn3, v_rn4, v_rn5, v_rn6, v_rn7, v_rn8, v_rn9, v_rn10, v_rn11, v_ws0, v_ws1, v_ws2, v_ws3, v_ws4, v_ws5, v_ws6, v_gl0, v_gl1, v_gl2, v_gl3, v_gl4, v_gl5, v_gl6, v_gl7, v_gl8, v_gl9, v_ow, v_ow2, v_iw, v_tb, v_pg, Int.neg_neg, Int.reduceNeg, Int.reduceToNat, forall_const, Int.reduceLT, Int.reduceLE, if_true, if_false, gt_iff_lt, r_270 h, r_270 hb, r_275, c1, c2, hl, e1, eb, b11, h0]
        try grind
def m_riV (M : mj_M) : Int := if m_rgt (m_by M) = 0 then 0 else m_rgV 160 0 M
def m_riM (M : mj_M) : mj_M := if m_rgt (m_by M) = 0 then m_bad M else m_rgM 160 0 M
theorem m_riM_tx (h : m_tx M) : m_tx (m_riM M) := by
  unfold m_riM
  split
  · exact m_bad_tx h
  · exact m_rgM_tx _ _ _ h
theorem r_274 (h : m_tx M) (h0 : M 172 11 = 0) : mj_Rn (d + 9) 274 0 [.inr (.inl 172), .inr (.inr 0)] [] (SGx x) (v_st V M) Q = Q (some (.inl (m_riV M))) (SGx x) (v_st V (m_riM M)) := by
  have h4 := h.2.2
  have h2 := h.1
  have h3 := h.2.1
  have eb : mj_up M 172 11 1 = m_bad M := rfl
  have b11 : m_bad M 172 11 = 1 := by rw [m_bad_at, if_pos rfl]
  unfold m_riV m_riM
  by_cases c1 : m_rgt (m_by M) = 0
  · simp (disch := omega) only [i_274_0, i_274_1, i_274_2, i_274_3, i_274_6, i_274_9, i_274_12, i_274_13, i_274_14, i_274_18, i_274_21, i_274_24, i_274_25, i_274_28, i_274_31, i_274_34, i_274_35, i_274_36, i_274_39, i_274_42, i_274_43, i_274_46, i_274_47, i_274_48, i_274_51, i_274_52, i_274_55, i_274_58, i_274_59, i_274_60, i_274_63, i_274_66, i_274_67, i_274_68, i_274_69, i_274_70, i_274_73, i_274_74, i_274_75, i_274_78, i_274_81, i_274_82, g_o172, g_r172_1, g_r172_2, g_r172_4, g_r172_5, g_r172_6, g_r172_7, g_r172_8, g_r172_16, g_r172_18, g_r172_19, g_r172_20, g_r172_21, g_a173, g_t173, g_a174, g_t174, g_a179, g_t179, exists_eq_left', Option.some.injEq, exists_eq_left, ne_eq, List.length_nil, List.length_cons, Option.toList_some, Option.toList_none, List.cons_append, List.nil_append, mj_wt_nil, mj_wt_i, mj_wt_r, mj_wt_l, true_and, and_true, false_and, and_false, true_implies, false_implies, implies_true, not_true_eq_false, not_false_eq_true, and_self, Int.reduceEq, Nat.reduceEqDiff, ↓reduceIte, mj_w_id2, Int.toNat_natCast, v_st_ne, v_rd, v_up, v_up_ne, v_rg, v_rg2, v_th0, v_th1, v_th2, v_th3, v_th4, v_th5, v_th6, v_th7, v_tk0, v_tk1, v_tk2, v_tk3, v_tk4, v_tk5, v_tk6, v_tk7, v_tk8, v_tk9, v_tk10, v_tk11, v_rn0, v_rn1, v_rn2, v_rn3, v_rn4, v_rn5, v_rn6, v_rn7, v_rn8, v_rn9, v_rn10, v_rn11, v_ws0, v_ws1, v_ws2, v_ws3, v_ws4, v_ws5, v_ws6, v_gl0, v_gl1, v_gl2, v_gl3, v_gl4, v_gl5, v_gl6, v_gl7, v_gl8, v_gl9, v_ow, v_ow2, v_iw, v_tb, v_pg, Int.neg_neg, Int.reduceNeg, Int.reduceToNat, forall_const, Int.reduceLT, Int.reduceLE, if_true, if_false, gt_iff_lt, r_270 h, r_275, c1, eb, b11, h0]
    rw [i_274_17]
    simp (disch := omega) only [i_274_0, i_274_1, i_274_2, i_274_3, i_274_6, i_274_9, i_274_12, i_274_13, i_274_14, i_274_18, i_274_21, i_274_24, i_274_25, i_274_28, i_274_31, i_274_34, i_274_35, i_274_36, i_274_39, i_274_42, i_274_43, i_274_46, i_274_47, i_274_48, i_274_51, i_274_52, i_274_55, i_274_58, i_274_59, i_274_60, i_274_63, i_274_66, i_274_67, i_274_68, i_274_69, i_274_70, i_274_73, i_274_74, i_274_75, i_274_78, i_274_81, i_274_82, g_o172, g_r172_1, g_r172_2, g_r172_4, g_r172_5, g_r172_6, g_r172_7, g_r172_8, g_r172_16, g_r172_18, g_r172_19, g_r172_20, g_r172_21, g_a173, g_t173, g_a174, g_t174, g_a179, g_t179, exists_eq_left', Option.some.injEq, exists_eq_left, ne_eq, List.length_nil, List.length_cons, Option.toList_some, Option.toList_none, List.cons_append, List.nil_append, mj_wt_nil, mj_wt_i, mj_wt_r, mj_wt_l, true_and, and_true, false_and, and_false, true_implies, false_implies, implies_true, not_true_eq_false, not_false_eq_true, and_self, Int.reduceEq, Nat.reduceEqDiff, ↓reduceIte, mj_w_id2, Int.toNat_natCast, v_st_ne, v_rd, v_up, v_up_ne, v_rg, v_rg2, v_th0, v_th1, v_th2, v_th3, v_th4, v_th5, v_th6, v_th7, v_tk0, v_tk1, v_tk2, v_tk3, v_tk4, v_tk5, v_tk6, v_tk7, v_tk8, v_tk9, v_tk10, v_tk11, v_rn0, v_rn1, v_rn2, v_rn3, v_rn4, v_rn5, v_rn6, v_rn7, v_rn8, v_rn9, v_rn10, v_rn11, v_ws0, v_ws1, v_ws2, v_ws3, v_ws4, v_ws5, v_ws6, v_gl0, v_gl1, v_gl2, v_gl3, v_gl4, v_gl5, v_gl6, v_gl7, v_gl8, v_gl9, v_ow, v_ow2, v_iw, v_tb, v_pg, Int.neg_neg, Int.reduceNeg, Int.reduceToNat, forall_const, Int.reduceLT, Int.reduceLE, if_true, if_false, gt_iff_lt, r_270 h, r_275, c1, eb, b11, h0]
    try grind
  · have hl := l_274 (d := d) (x := x) (V := V) (Q := Q) 160 0 M (by omega) h h0
    simp (disch := omega) only [i_274_0, i_274_1, i_274_2, i_274_3, i_274_6, i_274_9, i_274_12, i_274_13, i_274_14, i_274_18, i_274_21, i_274_24, i_274_25, i_274_28, i_274_31, i_274_34, i_274_35, i_274_36, i_274_39, i_274_42, i_274_43, i_274_46, i_274_47, i_274_48, i_274_51, i_274_52, i_274_55, i_274_58, i_274_59, i_274_60, i_274_63, i_274_66, i_274_67, i_274_68, i_274_69, i_274_70, i_274_73, i_274_74, i_274_75, i_274_78, i_274_81, i_274_82, g_o172, g_r172_1, g_r172_2, g_r172_4, g_r172_5, g_r172_6, g_r172_7, g_r172_8, g_r172_16, g_r172_18, g_r172_19, g_r172_20, g_r172_21, g_a173, g_t173, g_a174, g_t174, g_a179, g_t179, exists_eq_left', Option.some.injEq, exists_eq_left, ne_eq, List.length_nil, List.length_cons, Option.toList_some, Option.toList_none, List.cons_append, List.nil_append, mj_wt_nil, mj_wt_i, mj_wt_r, mj_wt_l, true_and, and_true, false_and, and_false, true_implies, false_implies, implies_true, not_true_eq_false, not_false_eq_true, and_self, Int.reduceEq, Nat.reduceEqDiff, ↓reduceIte, mj_w_id2, Int.toNat_natCast, v_st_ne, v_rd, v_up, v_up_ne, v_rg, v_rg2, v_th0, v_th1, v_th2, v_th3, v_th4, v_th5, v_th6, v_th7, v_tk0, v_tk1, v_tk2, v_tk3, v_tk4, v_tk5, v_tk6, v_tk7, v_tk8, v_tk9, v_tk10, v_tk11, v_rn0, v_rn1, v_rn2, v_rn3, v_rn4, v_rn5, v_rn6, v_rn7, v_rn8, v_rn9, v_rn10, v_rn11, v_ws0, v_ws1, v_ws2, v_ws3, v_ws4, v_ws5, v_ws6, v_gl0, v_gl1, v_gl2, v_gl3, v_gl4, v_gl5, v_gl6, v_gl7, v_gl8, v_gl9, v_ow, v_ow2, v_iw, v_tb, v_pg, Int.neg_neg, Int.reduceNeg, Int.reduceToNat, forall_const, Int.reduceLT, Int.reduceLE, if_true, if_false, gt_iff_lt, r_270 h, r_275, c1, hl, eb, b11, h0]
    try grind
end sp98m
