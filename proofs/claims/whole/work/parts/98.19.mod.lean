section sp98o
variable {x : Nat} {M V : mj_M} {Q : Option mj_V → mj_G → mj_M → Prop} {d : Nat}
/-- the place does not go back -/
def m_pm (M N : mj_M) : Prop := M 172 10 ≤ N 172 10
theorem m_pm_r : m_pm M M := Int.le_refl _
theorem m_pm_t {N P : mj_M} (h : m_pm M N) (g : m_pm N P) : m_pm M P := Int.le_trans h g
theorem m_p1_ps : m_pm M (m_p1 M) := by unfold m_pm; rw [m_p1_at, if_pos rfl]; omega
theorem m_bad_ps : m_pm M (m_bad M) := by unfold m_pm; rw [m_bad_at, if_neg (by omega)]; omega
theorem m_up_ps {k : Nat} {v : Int} (hk : 11 < k) : m_pm M (mj_up M 172 k v) := by unfold m_pm; rw [mj_up_at, if_neg (by omega)]; omega
theorem m_sg_ps {c : Int} : m_pm M (m_sg M c) := by
  unfold m_sg
  split
  · exact m_pm_r
  · split
    · exact m_p1_ps
    · exact m_bad_ps
theorem m_bl_ps : ∀ (n : Nat) (M : mj_M), m_pm M (m_bl n M) := by
  intro n
  induction n with
  | zero => intro M; exact m_pm_r
  | succ n ih => intro M; rw [m_bl]; split; exact m_pm_t m_p1_ps (ih _); exact m_pm_r
theorem m_nuM_ps : m_pm M (m_nuM M) := by
  unfold m_nuM
  split
  · exact m_bad_ps
  · split
    · exact m_p1_ps
    · exact m_pm_t m_p1_ps m_p1_ps
theorem m_rgM_ps : ∀ (n : Nat) (r : Int) (M : mj_M), m_pm M (m_rgM n r M) := by
  intro n
  induction n with
  | zero => intro r M; exact m_pm_r
  | succ n ih => intro r M; rw [m_rgM]; split; exact m_pm_r; split; exact m_bad_ps; exact m_pm_t m_p1_ps (ih _ _)
theorem m_riM_ps : m_pm M (m_riM M) := by
  unfold m_riM
  split
  · exact m_bad_ps
  · exact m_rgM_ps _ _ _
theorem m_b1_ps : m_pm M (m_b1 M) := m_pm_t m_sg_ps (m_bl_ps _ _)
theorem m_nbM_ps : m_pm M (m_nbM M) := by
  unfold m_nbM
  split
  · exact m_pm_t m_b1_ps m_nuM_ps
  · exact m_b1_ps
theorem m_rbM_ps : m_pm M (m_rbM M) := by
  unfold m_rbM
  split
  · exact m_pm_t m_b1_ps m_riM_ps
  · exact m_b1_ps
theorem m_sa_ps : m_pm M (m_sa M) := m_pm_t m_nbM_ps (m_up_ps (by omega))
theorem m_sb_ps : m_pm M (m_sb M) := m_pm_t m_nbM_ps (m_up_ps (by omega))
theorem m_sc_ps : m_pm M (m_sc M) := by
  unfold m_sc
  split
  · exact m_up_ps (by omega)
  · exact m_pm_t (m_up_ps (by omega)) (m_pm_t m_rbM_ps (m_up_ps (by omega)))
theorem m_wd_ps : m_pm M (m_wd M) := by
  unfold m_wd
  split
  · exact m_pm_t (m_up_ps (by omega)) (m_pm_t m_sg_ps (m_pm_t m_sg_ps (m_pm_t m_sg_ps m_sg_ps)))
  · split
    · exact m_pm_t (m_up_ps (by omega)) (m_pm_t m_sg_ps (m_pm_t m_sg_ps (m_pm_t m_sg_ps (m_pm_t m_sg_ps m_sg_ps))))
    · exact m_pm_t (m_up_ps (by omega)) (m_pm_t m_sg_ps (m_pm_t m_sg_ps (m_pm_t m_sg_ps (m_pm_t m_sg_ps m_sg_ps))))
theorem m_stt_ps : m_pm M (m_stt M) := m_pm_t m_wd_ps (m_pm_t m_sa_ps (m_pm_t m_sb_ps m_sc_ps))
/-- all but the numbers of reading stays -/
def m_fs (M N : mj_M) : Prop := (∀ a, a ≠ 172 → N a = M a) ∧ ∀ k : Nat, k < 10 ∨ 15 < k → N 172 k = M 172 k
theorem m_fs_r : m_fs M M := ⟨fun _ _ => rfl, fun _ _ => rfl⟩
theorem m_fs_t {N P : mj_M} (h : m_fs M N) (g : m_fs N P) : m_fs M P := ⟨fun a q => (g.1 a q).trans (h.1 a q), fun k q => (g.2 k q).trans (h.2 k q)⟩
theorem m_fs_f {N : mj_M} (h : m_fr M N) : m_fs M N := ⟨h.1, fun k q => h.2 k (by omega) (by omega)⟩
theorem m_fs_up {k : Nat} {v : Int} (h : 10 ≤ k ∧ k ≤ 15) : m_fs M (mj_up M 172 k v) := ⟨fun a q => mj_up_ne q, fun j q => by rw [mj_up_at, if_neg (by omega)]⟩
theorem m_sa_fs : m_fs M (m_sa M) := m_fs_t (m_fs_f m_nbM_fr) (m_fs_up (by omega))
theorem m_sb_fs : m_fs M (m_sb M) := m_fs_t (m_fs_f m_nbM_fr) (m_fs_up (by omega))
theorem m_sc_fs : m_fs M (m_sc M) := by
  unfold m_sc
  split
  · exact m_fs_up (by omega)
  · exact m_fs_t (m_fs_up (by omega)) (m_fs_t (m_fs_f m_rbM_fr) (m_fs_up (by omega)))
theorem m_sg_fs {c : Int} : m_fs M (m_sg M c) := m_fs_f m_sg_fr
theorem m_wd_fs : m_fs M (m_wd M) := by
  unfold m_wd
  split
  · exact m_fs_t (m_fs_up (by omega)) (m_fs_t m_sg_fs (m_fs_t m_sg_fs (m_fs_t m_sg_fs m_sg_fs)))
  · split
    · exact m_fs_t (m_fs_up (by omega)) (m_fs_t m_sg_fs (m_fs_t m_sg_fs (m_fs_t m_sg_fs (m_fs_t m_sg_fs m_sg_fs))))
    · exact m_fs_t (m_fs_up (by omega)) (m_fs_t m_sg_fs (m_fs_t m_sg_fs (m_fs_t m_sg_fs (m_fs_t m_sg_fs m_sg_fs))))
theorem m_stt_fs : m_fs M (m_stt M) := m_fs_t m_wd_fs (m_fs_t m_sa_fs (m_fs_t m_sb_fs m_sc_fs))
/-- the first reading: how many statements, and the numbers of reading behind it -/
def m_gtV : Nat → Int → mj_M → Int
  | 0, k, _ => k
  | n + 1, k, M => if m_stt M 172 11 = 0 then (if m_stt M 172 10 < m_stt M 172 9 then (if m_sg (m_stt M) 59 172 11 = 0 then m_gtV n (k + 1) (m_sg (m_stt M) 59) else k + 1) else k + 1) else k
def m_gtM : Nat → mj_M → mj_M
  | 0, M => M
  | n + 1, M => if m_stt M 172 11 = 0 then (if m_stt M 172 10 < m_stt M 172 9 then (if m_sg (m_stt M) 59 172 11 = 0 then m_gtM n (m_sg (m_stt M) 59) else m_sg (m_stt M) 59) else m_stt M) else m_stt M
theorem m_sg_ok {c : Int} (h0 : M 172 11 = 0) (h : m_sg M c 172 11 = 0) : m_sg M c = m_p1 M := by
  unfold m_sg at h ⊢
  rw [if_neg (by omega)] at h ⊢
  split
  · rfl
  · rename_i q
    rw [if_neg q, m_bad_at, if_pos rfl] at h
    omega
theorem l_268 (n : Nat) : ∀ (k : Int) (M : mj_M), M 172 9 < M 172 10 + n → m_tx M → 0 ≤ k → k + n < 1000 → mj_Rn (d + 13) 268 14 [.inr (.inl 172), .inl 0, .inl k, .inl 1] [] (SGx x) (v_st V M) Q = Q (some (.inl (m_gtV n k M))) (SGx x) (v_st V (m_gtM n M)) := by
  induction n with
  | zero => intro k M hn h _ _; have := h.1; omega
  | succ n ih =>
    intro k M hn h hk hl
    have ht := m_stt_tx h
    have h4 := ht.2.2
    have hg := m_sg_tx (c := 59) (by omega) ht
    have h5 := hg.2.2
    have k1 : mj_w (k + 1) = k + 1 := mj_w_id2 (by omega) (by omega)
    have ps := m_stt_ps (M := M)
    unfold m_pm at ps
    rw [i_268_14, m_gtV, m_gtM]
    by_cases c1 : m_stt M 172 11 = 0
    · by_cases c2 : m_stt M 172 10 < m_stt M 172 9
      · by_cases c3 : m_sg (m_stt M) 59 172 11 = 0
        · have e := m_sg_ok c1 c3
          have i1 := ih (k + 1) (m_sg (m_stt M) 59) (by
            have f9 : m_stt M 172 9 = M 172 9 := m_stt_fs.2 9 (by omega)
            rw [e, m_p1_at, m_p1_at, if_neg (by omega), if_pos rfl, f9]
            omega) hg (by omega) (by omega)
          clear ih e
          simp (disch := omega) only [i_268_0, i_268_1, i_268_2, i_268_5, i_268_6, i_268_7, i_268_10, i_268_11, i_268_12, i_268_13, i_268_15, i_268_18, i_268_19, i_268_22, i_268_23, i_268_26, i_268_29, i_268_30, i_268_31, i_268_32, i_268_35, i_268_36, i_268_39, i_268_42, i_268_43, i_268_44, i_268_47, i_268_48, i_268_51, i_268_52, i_268_55, i_268_58, i_268_59, i_268_62, i_268_63, i_268_64, i_268_65, i_268_68, i_268_69, i_268_71, i_268_74, i_268_75, i_268_78, i_268_79, i_268_82, i_268_85, i_268_86, i_268_89, i_268_90, i_268_91, i_268_94, i_268_95, g_o172, g_r172_1, g_r172_2, g_r172_4, g_r172_5, g_r172_6, g_r172_7, g_r172_8, g_r172_16, g_r172_18, g_r172_19, g_r172_20, g_r172_21, g_a173, g_t173, g_a174, g_t174, g_a179, g_t179, exists_eq_left', Option.some.injEq, exists_eq_left, ne_eq, List.length_nil, List.length_cons, Option.toList_some, Option.toList_none, List.cons_append, List.nil_append, mj_wt_nil, mj_wt_i, mj_wt_r, mj_wt_l, true_and, and_true, false_and, and_false, true_implies, false_implies, implies_true, not_true_eq_false, not_false_eq_true, and_self, Int.reduceEq, Nat.reduceEqDiff, ↓reduceIte, mj_w_id2, Int.toNat_natCast, v_st_ne, v_rd, v_up, v_up_ne, v_rg, v_rg2, v_th0, v_th1, v_th2, v_th3, v_th4, v_th5, v_th6, v_th7, v_tk0, v_tk1, v_tk2, v_tk3, v_tk4, v_tk5, v_tk6, v_tk7, v_tk8, v_tk9, v_tk10, v_tk11, v_rn0, v_rn1, v_rn2, v_rn3, v_rn4, v_rn5, v_rn6, v_rn7, v_rn8, v_rn9, v_rn10, v_rn11, v_ws0, v_ws1, v_ws2, v_ws3, v_ws4, v_ws5, v_ws6, v_gl0, v_gl1, v_gl2, v_gl3, v_gl4, v_gl5, v_gl6, v_gl7, v_gl8, v_gl9, v_ow, v_ow2, v_iw, v_tb, v_pg, Int.neg_neg, Int.reduceNeg, Int.reduceToNat, forall_const, Int.reduceLT, Int.reduceLE, if_true, if_false, gt_iff_lt, r_269 h, r_271 (show (0 : Int) ≤ 59 by omega) ht, c1, c2, c3, k1, i1]
          try grind
        · clear ih
          simp (disch := omega) only [i_268_0, i_268_1, i_268_2, i_268_5, i_268_6, i_268_7, i_268_10, i_268_11, i_268_12, i_268_13, i_268_15, i_268_18, i_268_19, i_268_22, i_268_23, i_268_26, i_268_29, i_268_30, i_268_31, i_268_32, i_268_35, i_268_36, i_268_39, i_268_42, i_268_43, i_268_44, i_268_47, i_268_48, i_268_51, i_268_52, i_268_55, i_268_58, i_268_59, i_268_62, i_268_63, i_268_64, i_268_65, i_268_68, i_268_69, i_268_71, i_268_74, i_268_75, i_268_78, i_268_79, i_268_82, i_268_85, i_268_86, i_268_89, i_268_90, i_268_91, i_268_94, i_268_95, g_o172, g_r172_1, g_r172_2, g_r172_4, g_r172_5, g_r172_6, g_r172_7, g_r172_8, g_r172_16, g_r172_18, g_r172_19, g_r172_20, g_r172_21, g_a173, g_t173, g_a174, g_t174, g_a179, g_t179, exists_eq_left', Option.some.injEq, exists_eq_left, ne_eq, List.length_nil, List.length_cons, Option.toList_some, Option.toList_none, List.cons_append, List.nil_append, mj_wt_nil, mj_wt_i, mj_wt_r, mj_wt_l, true_and, and_true, false_and, and_false, true_implies, false_implies, implies_true, not_true_eq_false, not_false_eq_true, and_self, Int.reduceEq, Nat.reduceEqDiff, ↓reduceIte, mj_w_id2, Int.toNat_natCast, v_st_ne, v_rd, v_up, v_up_ne, v_rg, v_rg2, v_th0, v_th1, v_th2, v_th3, v_th4, v_th5, v_th6, v_th7, v_tk0, v_tk1, v_tk2, v_tk3, v_tk4, v_tk5, v_tk6, v_tk7, v_tk8, v_tk9, v_tk10, v_tk11, v_rn0, v_rn1, v_rn2, v_rn3, v_rn4, v_rn5, v_rn6, v_rn7, v_rn8, v_rn9, v_rn10, v_rn11, v_ws0, v_ws1, v_ws2, v_ws3, v_ws4, v_ws5, v_ws6, v_gl0, v_gl1, v_gl2, v_gl3, v_gl4, v_gl5, v_gl6, v_gl7, v_gl8, v_gl9, v_ow, v_ow2, v_iw, v_tb, v_pg, Int.neg_neg, Int.reduceNeg, Int.reduceToNat, forall_const, Int.reduceLT, Int.reduceLE, if_true, if_false, gt_iff_lt, r_269 h, r_271 (show (0 : Int) ≤ 59 by omega) ht, c1, c2, c3, k1]
          rw [i_268_14]
          simp (disch := omega) only [i_268_0, i_268_1, i_268_2, i_268_5, i_268_6, i_268_7, i_268_10, i_268_11, i_268_12, i_268_13, i_268_15, i_268_18, i_268_19, i_268_22, i_268_23, i_268_26, i_268_29, i_268_30, i_268_31, i_268_32, i_268_35, i_268_36, i_268_39, i_268_42, i_268_43, i_268_44, i_268_47, i_268_48, i_268_51, i_268_52, i_268_55, i_268_58, i_268_59, i_268_62, i_268_63, i_268_64, i_268_65, i_268_68, i_268_69, i_268_71, i_268_74, i_268_75, i_268_78, i_268_79, i_268_82, i_268_85, i_268_86, i_268_89, i_268_90, i_268_91, i_268_94, i_268_95, g_o172, g_r172_1, g_r172_2, g_r172_4, g_r172_5, g_r172_6, g_r172_7, g_r172_8, g_r172_16, g_r172_18, g_r172_19, g_r172_20, g_r172_21, g_a173, g_t173, g_a174, g_t174, g_a179, g_t179, exists_eq_left', Option.some.injEq, exists_eq_left, ne_eq, List.length_nil, List.length_cons, Option.toList_some, Option.toList_none, List.cons_append, List.nil_append, mj_wt_nil, mj_wt_i, mj_wt_r, mj_wt_l, true_and, and_true, false_and, and_false, true_implies, false_implies, implies_true, not_true_eq_false, not_false_eq_true, and_self, Int.reduceEq, Nat.reduceEqDiff, ↓reduceIte, mj_w_id2, Int.toNat_natCast, v_st_ne, v_rd, v_up, v_up_ne, v_rg, v_rg2, v_th0, v_th1, v_th2, v_th3, v_th4, v_th5, v_th6, v_th7, v_tk0, v_tk1, v_tk2, v_tk3, v_tk4, v_tk5, v_tk6, v_tk7, v_tk8, v_tk9, v_tk10, v_tk11, v_rn0, v_rn1, v_rn2, v_rn3, v_rn4, v_rn5, v_rn6, v_rn7, v_rn8, v_rn9, v_rn10, v_rn11, v_ws0, v_ws1, v_ws2, v_ws3, v_ws4, v_ws5, v_ws6, v_gl0, v_gl1, v_gl2, v_gl3, v_gl4, v_gl5, v_gl6, v_gl7, v_gl8, v_gl9, v_ow, v_ow2, v_iw, v_tb, v_pg, Int.neg_neg, Int.reduceNeg, Int.reduceToNat, forall_const, Int.reduceLT, Int.reduceLE, if_true, if_false, gt_iff_lt, r_269 h, r_271 (show (0 : Int) ≤ 59 by omega) ht, c1, c2, c3, k1]
          try grind
      · clear ih
        simp (disch := omega) only [i_268_0, i_268_1, i_268_2, i_268_5, i_268_6, i_268_7, i_268_10, i_268_11, i_268_12, i_268_13, i_268_15, i_268_18, i_268_19, i_268_22, i_268_23, i_268_26, i_268_29, i_268_30, i_268_31, i_268_32, i_268_35, i_268_36, i_268_39, i_268_42, i_268_43, i_268_44, i_268_47, i_268_48, i_268_51, i_268_52, i_268_55, i_268_58, i_268_59, i_268_62, i_268_63, i_268_64, i_268_65, i_268_68, i_268_69, i_268_71, i_268_74, i_268_75, i_268_78, i_268_79, i_268_82, i_268_85, i_268_86, i_268_89, i_268_90, i_268_91, i_268_94, i_268_95, g_o172, g_r172_1, g_r172_2, g_r172_4, g_r172_5, g_r172_6, g_r172_7, g_r172_8, g_r172_16, g_r172_18, g_r172_19, g_r172_20, g_r172_21, g_a173, g_t173, g_a174, g_t174, g_a179, g_t179, exists_eq_left', Option.some.injEq, exists_eq_left, ne_eq, List.length_nil, List.length_cons, Option.toList_some, Option.toList_none, List.cons_append, List.nil_append, mj_wt_nil, mj_wt_i, mj_wt_r, mj_wt_l, true_and, and_true, false_and, and_false, true_implies, false_implies, implies_true, not_true_eq_false, not_false_eq_true, and_self, Int.reduceEq, Nat.reduceEqDiff, ↓reduceIte, mj_w_id2, Int.toNat_natCast, v_st_ne, v_rd, v_up, v_up_ne, v_rg, v_rg2, v_th0, v_th1, v_th2, v_th3, v_th4, v_th5, v_th6, v_th7, v_tk0, v_tk1, v_tk2, v_tk3, v_tk4, v_tk5, v_tk6, v_tk7, v_tk8, v_tk9, v_tk10, v_tk11, v_rn0, v_rn1, v_rn2, v_rn3, v_rn4, v_rn5, v_rn6, v_rn7, v_rn8, v_rn9, v_rn10, v_rn11, v_ws0, v_ws1, v_ws2, v_ws3, v_ws4, v_ws5, v_ws6, v_gl0, v_gl1, v_gl2, v_gl3, v_gl4, v_gl5, v_gl6, v_gl7, v_gl8, v_gl9, v_ow, v_ow2, v_iw, v_tb, v_pg, Int.neg_neg, Int.reduceNeg, Int.reduceToNat, forall_const, Int.reduceLT, Int.reduceLE, if_true, if_false, gt_iff_lt, r_269 h, r_271 (show (0 : Int) ≤ 59 by omega) ht, c1, c2, k1]
        rw [i_268_14]
        simp (disch := omega) only [i_268_0, i_268_1, i_268_2, i_268_5, i_268_6, i_268_7, i_268_10, i_268_11, i_268_12, i_268_13, i_268_15, i_268_18, i_268_19, i_268_22, i_268_23, i_268_26, i_268_29, i_268_30, i_268_31, i_268_32, i_268_35, i_268_36, i_268_39, i_268_42, i_268_43, i_268_44, i_268_47, i_268_48, i_268_51, i_268_52, i_268_55, i_268_58, i_268_59, i_268_62, i_268_63, i_268_64, i_268_65, i_268_68, i_268_69, i_268_71, i_268_74, i_268_75, i_268_78, i_268_79, i_268_82, i_268_85, i_268_86, i_268_89, i_268_90, i_268_91, i_268_94, i_268_95, g_o172, g_r172_1, g_r172_2, g_r172_4, g_r172_5, g_r172_6, g_r172_7, g_r172_8, g_r172_16, g_r172_18, g_r172_19, g_r172_20, g_r172_21, g_a173, g_t173, g_a174, g_t174, g_a179, g_t179, exists_eq_left', Option.some.injEq, exists_eq_left, ne_eq, List.length_nil, List.length_cons, Option.toList_some, Option.toList_none, List.cons_append, List.nil_append, mj_wt_nil, mj_wt_i, mj_wt_r, mj_wt_l, true_and, and_true, false_and, and_false, true_implies, false_implies, implies_true, not_true_eq_false, not_false_eq_true, and_self, Int.reduceEq, Nat.reduceEqDiff, ↓reduceIte, mj_w_id2, Int.toNat_natCast, v_st_ne, v_rd, v_up, v_up_ne, v_rg, v_rg2, v_th0, v_th1, v_th2, v_th3, v_th4, v_th5, v_th6, v_th7, v_tk0, v_tk1, v_tk2, v_tk3, v_tk4, v_tk5, v_tk6, v_tk7, v_tk8, v_tk9, v_tk10, v_tk11, v_rn0, v_rn1, v_rn2, v_rn3, v_rn4, v_rn5, v_rn6, v_rn7, v_rn8, v_rn9, v_rn10, v_rn11, v_ws0, v_ws1, v_ws2, v_ws3, v_ws4, v_ws5, v_ws6, v_gl0, v_gl1, v_gl2, v_gl3, v_gl4, v_gl5, v_gl6, v_gl7, v_gl8, v_gl9, v_ow, v_ow2, v_iw, v_tb, v_pg, Int.neg_neg, Int.reduceNeg, Int.reduceToNat, forall_const, Int.reduceLT, Int.reduceLE, if_true, if_false, gt_iff_lt, r_269 h, r_271 (show (0 : Int) ≤ 59 by omega) ht, c1, c2, k1]
        try grind
    · clear ih
      simp (disch := omega) only [i_268_0, i_268_1, i_268_2, i_268_5, i_268_6, i_268_7, i_268_10, i_268_11, i_268_12, i_268_13, i_268_15, i_268_18, i_268_19, i_268_22, i_268_23, i_268_26, i_268_29, i_268_30, i_268_31, i_268_32, i_268_35, i_268_36, i_268_39, i_268_42, i_268_43, i_268_44, i_268_47, i_268_48, i_268_51, i_268_52, i_268_55, i_268_58, i_268_59, i_268_62, i_268_63, i_268_64, i_268_65, i_268_68, i_268_69, i_268_71, i_268_74, i_268_75, i_268_78, i_268_79, i_268_82, i_268_85, i_268_86, i_268_89, i_268_90, i_268_91, i_268_94, i_268_95, g_o172, g_r172_1, g_r172_2, g_r172_4, g_r172_5, g_r172_6, g_r172_7, g_r172_8, g_r172_16, g_r172_18, g_r172_19, g_r172_20, g_r172_21, g_a173, g_t173, g_a174, g_t174, g_a179, g_t179, exists_eq_left', Option.some.injEq, exists_eq_left, ne_eq, List.length_nil, List.length_cons, Option.toList_some, Option.toList_none, List.cons_append, List.nil_append, mj_wt_nil, mj_wt_i, mj_wt_r, mj_wt_l, true_and, and_true, false_and, and_false, true_implies, false_implies, implies_true, not_true_eq_false, not_false_eq_true, and_self, Int.reduceEq, Nat.reduceEqDiff, ↓reduceIte, mj_w_id2, Int.toNat_natCast, v_st_ne, v_rd, v_up, v_up_ne, v_rg, v_rg2, v_th0, v_th1, v_th2, v_th3, v_th4, v_th5, v_th6, v_th7, v_tk0, v_tk1, v_tk2, v_tk3, v_tk4, v_tk5, v_tk6, v_tk7, v_tk8, v_tk9, v_tk10, v_tk11, v_rn0, v_rn1, v_rn2, v_rn3, v_rn4, v_rn5, v_rn6, v_rn7, v_rn8, v_rn9, v_rn10, v_rn11, v_ws0, v_ws1, v_ws2, v_ws3, v_ws4, v_ws5, v_ws6, v_gl0, v_gl1, v_gl2, v_gl3, v_gl4, v_gl5, v_gl6, v_gl7, v_gl8, v_gl9, v_ow, v_ow2, v_iw, v_tb, v_pg, Int.neg_neg, Int.reduceNeg, Int.reduceToNat, forall_const, Int.reduceLT, Int.reduceLE, if_true, if_false, gt_iff_lt, r_269 h, r_271 (show (0 : Int) ≤ 59 by omega) ht, c1, k1]
      try grind
def m_t0 (M : mj_M) : mj_M := mj_up (mj_up M 172 10 0) 172 11 0
theorem m_t0_tx (h : 0 ≤ M 172 9 ∧ M 172 9 ≤ 160) : m_tx (m_t0 M) := by
  unfold m_tx m_t0
  have e9 : mj_up (mj_up M 172 10 0) 172 11 0 172 9 = M 172 9 := by rw [mj_up_at, if_neg (by omega), mj_up_at, if_neg (by omega)]
  have e10 : mj_up (mj_up M 172 10 0) 172 11 0 172 10 = 0 := by rw [mj_up_at, if_neg (by omega), mj_up_at, if_pos rfl]
  have e11 : mj_up (mj_up M 172 10 0) 172 11 0 172 11 = 0 := by rw [mj_up_at, if_pos rfl]
  rw [e9, e10, e11]
  omega
theorem r_268f (h : 0 ≤ M 172 9 ∧ M 172 9 ≤ 160) : mj_Rn (d + 13) 268 0 [.inr (.inl 172), .inl 0, .inr (.inr 0), .inr (.inr 0)] [] (SGx x) (v_st V M) Q = Q (some (.inl (m_gtV 161 0 (m_t0 M)))) (SGx x) (v_st V (m_gtM 161 (m_t0 M))) := by
  have h0 := m_t0_tx h
  have e9 : m_t0 M 172 9 = M 172 9 := by unfold m_t0; rw [mj_up_at, if_neg (by omega), mj_up_at, if_neg (by omega)]
  have e10 : m_t0 M 172 10 = 0 := by unfold m_t0; rw [mj_up_at, if_neg (by omega), mj_up_at, if_pos rfl]
  have hl := l_268 (d := d) (x := x) (V := V) (Q := Q) 161 0 (m_t0 M) (by omega) h0 (by omega) (by omega)
  have e : mj_up (mj_up M 172 10 0) 172 11 0 = m_t0 M := rfl
  simp (disch := omega) only [i_268_0, i_268_1, i_268_2, i_268_5, i_268_6, i_268_7, i_268_10, i_268_11, i_268_12, i_268_13, i_268_15, i_268_18, i_268_19, i_268_22, i_268_23, i_268_26, i_268_29, i_268_30, i_268_31, i_268_32, i_268_35, i_268_36, i_268_39, i_268_42, i_268_43, i_268_44, i_268_47, i_268_48, i_268_51, i_268_52, i_268_55, i_268_58, i_268_59, i_268_62, i_268_63, i_268_64, i_268_65, i_268_68, i_268_69, i_268_71, i_268_74, i_268_75, i_268_78, i_268_79, i_268_82, i_268_85, i_268_86, i_268_89, i_268_90, i_268_91, i_268_94, i_268_95, g_o172, g_r172_1, g_r172_2, g_r172_4, g_r172_5, g_r172_6, g_r172_7, g_r172_8, g_r172_16, g_r172_18, g_r172_19, g_r172_20, g_r172_21, g_a173, g_t173, g_a174, g_t174, g_a179, g_t179, exists_eq_left', Option.some.injEq, exists_eq_left, ne_eq, List.length_nil, List.length_cons, Option.toList_some, Option.toList_none, List.cons_append, List.nil_append, mj_wt_nil, mj_wt_i, mj_wt_r, mj_wt_l, true_and, and_true, false_and, and_false, true_implies, false_implies, implies_true, not_true_eq_false, not_false_eq_true, and_self, Int.reduceEq, Nat.reduceEqDiff, ↓reduceIte, mj_w_id2, Int.toNat_natCast, v_st_ne, v_rd, v_up, v_up_ne, v_rg, v_rg2, v_th0, v_th1, v_th2, v_th3, v_th4, v_th5, v_th6, v_th7, v_tk0, v_tk1, v_tk2, v_tk3, v_tk4, v_tk5, v_tk6, v_tk7, v_tk8, v_tk9, v_tk10, v_tk11, v_rn0, v_rn1, v_rn2, v_rn3, v_rn4, v_rn5, v_rn6, v_rn7, v_rn8, v_rn9, v_rn10, v_rn11, v_ws0, v_ws1, v_ws2, v_ws3, v_ws4, v_ws5, v_ws6, v_gl0, v_gl1, v_gl2, v_gl3, v_gl4, v_gl5, v_gl6, v_gl7, v_gl8, v_gl9, v_ow, v_ow2, v_iw, v_tb, v_pg, Int.neg_neg, Int.reduceNeg, Int.reduceToNat, forall_const, Int.reduceLT, Int.reduceLE, if_true, if_false, gt_iff_lt, e, hl]
  try grind
end sp98o
