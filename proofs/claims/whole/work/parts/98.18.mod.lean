section sp98n
variable {x : Nat} {M V : mj_M} {Q : Option mj_V → mj_G → mj_M → Prop} {d : Nat}
/-- reading moves the place and the fault alone -/
def m_fr (M N : mj_M) : Prop := (∀ a, a ≠ 172 → N a = M a) ∧ ∀ k : Nat, k ≠ 10 → k ≠ 11 → N 172 k = M 172 k
theorem m_fr_r : m_fr M M := ⟨fun _ _ => rfl, fun _ _ _ => rfl⟩
theorem m_fr_t {N P : mj_M} (h : m_fr M N) (g : m_fr N P) : m_fr M P := ⟨fun a q => (g.1 a q).trans (h.1 a q), fun k q1 q2 => (g.2 k q1 q2).trans (h.2 k q1 q2)⟩
theorem m_p1_fr : m_fr M (m_p1 M) := ⟨fun a q => mj_up_ne q, fun k q1 q2 => by rw [m_p1_at, if_neg q1]⟩
theorem m_bad_fr : m_fr M (m_bad M) := ⟨fun a q => mj_up_ne q, fun k q1 q2 => by rw [m_bad_at, if_neg q2]⟩
theorem m_sg_fr {c : Int} : m_fr M (m_sg M c) := by
  unfold m_sg
  split
  · exact m_fr_r
  · split
    · exact m_p1_fr
    · exact m_bad_fr
theorem m_bl_fr : ∀ (n : Nat) (M : mj_M), m_fr M (m_bl n M) := by
  intro n
  induction n with
  | zero => intro M; exact m_fr_r
  | succ n ih => intro M; rw [m_bl]; split; exact m_fr_t m_p1_fr (ih _); exact m_fr_r
theorem m_nuM_fr : m_fr M (m_nuM M) := by
  unfold m_nuM
  split
  · exact m_bad_fr
  · split
    · exact m_p1_fr
    · exact m_fr_t m_p1_fr m_p1_fr
theorem m_rgM_fr : ∀ (n : Nat) (r : Int) (M : mj_M), m_fr M (m_rgM n r M) := by
  intro n
  induction n with
  | zero => intro r M; exact m_fr_r
  | succ n ih => intro r M; rw [m_rgM]; split; exact m_fr_r; split; exact m_bad_fr; exact m_fr_t m_p1_fr (ih _ _)
theorem m_riM_fr : m_fr M (m_riM M) := by
  unfold m_riM
  split
  · exact m_bad_fr
  · exact m_rgM_fr _ _ _
theorem m_tx_up {k : Nat} {v : Int} (hk : 11 < k) (h : m_tx M) : m_tx (mj_up M 172 k v) := by
  unfold m_tx at *
  rw [mj_up_at, mj_up_at, mj_up_at, if_neg (by omega), if_neg (by omega), if_neg (by omega)]
  exact h
def m_b1 (M : mj_M) : mj_M := m_bl 160 (m_sg M 32)
theorem m_b1_tx (h : m_tx M) : m_tx (m_b1 M) := m_bl_tx _ _ (m_sg_tx (by omega) h)
theorem m_b1_fr : m_fr M (m_b1 M) := m_fr_t m_sg_fr (m_bl_fr _ _)
def m_nbV (M : mj_M) : Int := if m_b1 M 172 11 = 0 then m_nuV (m_b1 M) else 0
def m_nbM (M : mj_M) : mj_M := if m_b1 M 172 11 = 0 then m_nuM (m_b1 M) else m_b1 M
theorem m_nbM_tx (h : m_tx M) : m_tx (m_nbM M) := by
  unfold m_nbM
  split
  · exact m_nuM_tx (m_b1_tx h)
  · exact m_b1_tx h
theorem m_nbM_fr : m_fr M (m_nbM M) := by
  unfold m_nbM
  split
  · exact m_fr_t m_b1_fr m_nuM_fr
  · exact m_b1_fr
def m_rbV (M : mj_M) : Int := if m_b1 M 172 11 = 0 then m_riV (m_b1 M) else 0
def m_rbM (M : mj_M) : mj_M := if m_b1 M 172 11 = 0 then m_riM (m_b1 M) else m_b1 M
theorem m_rbM_tx (h : m_tx M) : m_tx (m_rbM M) := by
  unfold m_rbM
  split
  · exact m_riM_tx (m_b1_tx h)
  · exact m_b1_tx h
theorem m_rbM_fr : m_fr M (m_rbM M) := by
  unfold m_rbM
  split
  · exact m_fr_t m_b1_fr m_riM_fr
  · exact m_b1_fr
def m_sa (M : mj_M) : mj_M := mj_up (m_nbM M) 172 13 (m_nbV M)
def m_sb (M : mj_M) : mj_M := mj_up (m_nbM M) 172 14 (m_nbV M)
def m_sc (M : mj_M) : mj_M := if M 172 12 = 2 then mj_up M 172 15 0 else mj_up (m_rbM (mj_up M 172 15 0)) 172 15 (m_rbV (mj_up M 172 15 0))
theorem l_269a {v : mj_V} (h : m_tx M) : mj_Rn (d + 12) 269 180 [.inr (.inl 172), v] [] (SGx x) (v_st V M) Q = mj_Rn (d + 12) 269 203 [.inr (.inl 172), v] [] (SGx x) (v_st V (m_sa M)) Q := by
  have hb := m_b1_tx h
  have h4 := hb.2.2
  have eb : m_bl 160 (m_sg M 32) = m_b1 M := rfl
  unfold m_sa m_nbV m_nbM
  by_cases c : m_b1 M 172 11 = 0
  · simp (disch := omega) only [i_269_0, i_269_1, i_269_4, i_269_5, i_269_6, i_269_7, i_269_9, i_269_12, i_269_13, i_269_16, i_269_17, i_269_19, i_269_22, i_269_23, i_269_26, i_269_27, i_269_30, i_269_31, i_269_32, i_269_35, i_269_38, i_269_40, i_269_43, i_269_44, i_269_47, i_269_48, i_269_51, i_269_53, i_269_56, i_269_58, i_269_61, i_269_62, i_269_63, i_269_66, i_269_69, i_269_71, i_269_74, i_269_75, i_269_78, i_269_79, i_269_82, i_269_84, i_269_87, i_269_89, i_269_92, i_269_93, i_269_94, i_269_97, i_269_100, i_269_102, i_269_105, i_269_106, i_269_109, i_269_110, i_269_113, i_269_115, i_269_118, i_269_120, i_269_123, i_269_124, i_269_125, i_269_128, i_269_131, i_269_133, i_269_136, i_269_137, i_269_140, i_269_141, i_269_144, i_269_146, i_269_149, i_269_151, i_269_154, i_269_155, i_269_158, i_269_161, i_269_162, i_269_163, i_269_166, i_269_167, i_269_170, i_269_172, i_269_175, i_269_177, i_269_180, i_269_181, i_269_184, i_269_185, i_269_186, i_269_189, i_269_192, i_269_193, i_269_196, i_269_197, i_269_200, i_269_204, i_269_207, i_269_208, i_269_209, i_269_212, i_269_215, i_269_216, i_269_219, i_269_220, i_269_223, i_269_226, i_269_227, i_269_228, i_269_231, i_269_232, i_269_235, i_269_236, i_269_239, i_269_240, i_269_241, i_269_244, i_269_245, i_269_246, i_269_249, i_269_252, i_269_253, i_269_256, i_269_257, i_269_260, i_269_263, g_o172, g_r172_1, g_r172_2, g_r172_4, g_r172_5, g_r172_6, g_r172_7, g_r172_8, g_r172_16, g_r172_18, g_r172_19, g_r172_20, g_r172_21, g_a173, g_t173, g_a174, g_t174, g_a179, g_t179, exists_eq_left', Option.some.injEq, exists_eq_left, ne_eq, List.length_nil, List.length_cons, Option.toList_some, Option.toList_none, List.cons_append, List.nil_append, mj_wt_nil, mj_wt_i, mj_wt_r, mj_wt_l, true_and, and_true, false_and, and_false, true_implies, false_implies, implies_true, not_true_eq_false, not_false_eq_true, and_self, Int.reduceEq, Nat.reduceEqDiff, ↓reduceIte, mj_w_id2, Int.toNat_natCast, v_st_ne, v_rd, v_up, v_up_ne, v_rg, v_rg2, v_th0, v_th1, v_th2, v_th3, v_th4, v_th5, v_th6, v_th7, v_tk0, v_tk1, v_tk2, v_tk3, v_tk4, v_tk5, v_tk6, v_tk7, v_tk8, v_tk9, v_tk10, v_tk11, v_rn0, v_rn1, v_rn2, v_rn3, v_rn4, v_rn5, v_rn6, v_rn7, v_rn8, v_rn9, v_rn10, v_rn11, v_ws0, v_ws1, v_ws2, v_ws3, v_ws4, v_ws5, v_ws6, v_gl0, v_gl1, v_gl2, v_gl3, v_gl4, v_gl5, v_gl6, v_gl7, v_gl8, v_gl9, v_ow, v_ow2, v_iw, v_tb, v_pg, Int.neg_neg, Int.reduceNeg, Int.reduceToNat, forall_const, Int.reduceLT, Int.reduceLE, if_true, if_false, gt_iff_lt, r_272 h, r_273 hb, eb, c]
    try grind
  · simp (disch := omega) only [i_269_0, i_269_1, i_269_4, i_269_5, i_269_6, i_269_7, i_269_9, i_269_12, i_269_13, i_269_16, i_269_17, i_269_19, i_269_22, i_269_23, i_269_26, i_269_27, i_269_30, i_269_31, i_269_32, i_269_35, i_269_38, i_269_40, i_269_43, i_269_44, i_269_47, i_269_48, i_269_51, i_269_53, i_269_56, i_269_58, i_269_61, i_269_62, i_269_63, i_269_66, i_269_69, i_269_71, i_269_74, i_269_75, i_269_78, i_269_79, i_269_82, i_269_84, i_269_87, i_269_89, i_269_92, i_269_93, i_269_94, i_269_97, i_269_100, i_269_102, i_269_105, i_269_106, i_269_109, i_269_110, i_269_113, i_269_115, i_269_118, i_269_120, i_269_123, i_269_124, i_269_125, i_269_128, i_269_131, i_269_133, i_269_136, i_269_137, i_269_140, i_269_141, i_269_144, i_269_146, i_269_149, i_269_151, i_269_154, i_269_155, i_269_158, i_269_161, i_269_162, i_269_163, i_269_166, i_269_167, i_269_170, i_269_172, i_269_175, i_269_177, i_269_180, i_269_181, i_269_184, i_269_185, i_269_186, i_269_189, i_269_192, i_269_193, i_269_196, i_269_197, i_269_200, i_269_204, i_269_207, i_269_208, i_269_209, i_269_212, i_269_215, i_269_216, i_269_219, i_269_220, i_269_223, i_269_226, i_269_227, i_269_228, i_269_231, i_269_232, i_269_235, i_269_236, i_269_239, i_269_240, i_269_241, i_269_244, i_269_245, i_269_246, i_269_249, i_269_252, i_269_253, i_269_256, i_269_257, i_269_260, i_269_263, g_o172, g_r172_1, g_r172_2, g_r172_4, g_r172_5, g_r172_6, g_r172_7, g_r172_8, g_r172_16, g_r172_18, g_r172_19, g_r172_20, g_r172_21, g_a173, g_t173, g_a174, g_t174, g_a179, g_t179, exists_eq_left', Option.some.injEq, exists_eq_left, ne_eq, List.length_nil, List.length_cons, Option.toList_some, Option.toList_none, List.cons_append, List.nil_append, mj_wt_nil, mj_wt_i, mj_wt_r, mj_wt_l, true_and, and_true, false_and, and_false, true_implies, false_implies, implies_true, not_true_eq_false, not_false_eq_true, and_self, Int.reduceEq, Nat.reduceEqDiff, ↓reduceIte, mj_w_id2, Int.toNat_natCast, v_st_ne, v_rd, v_up, v_up_ne, v_rg, v_rg2, v_th0, v_th1, v_th2, v_th3, v_th4, v_th5, v_th6, v_th7, v_tk0, v_tk1, v_tk2, v_tk3, v_tk4, v_tk5, v_tk6, v_tk7, v_tk8, v_tk9, v_tk10, v_tk11, v_rn0, v_rn1, v_rn2, v_rn3, v_rn4, v_rn5, v_rn6, v_rn7, v_rn8, v_rn9, v_rn10, v_rn11, v_ws0, v_ws1, v_ws2, v_ws3, v_ws4, v_ws5, v_ws6, v_gl0, v_gl1, v_gl2, v_gl3, v_gl4, v_gl5, v_gl6, v_gl7, v_gl8, v_gl9, v_ow, v_ow2, v_iw, v_tb, v_pg, Int.neg_neg, Int.reduceNeg, Int.reduceToNat, forall_const, Int.reduceLT, Int.reduceLE, if_true, if_false, gt_iff_lt, r_272 h, r_273 hb, eb, c]
    try grind
theorem l_269b {v : mj_V} (h : m_tx M) : mj_Rn (d + 12) 269 203 [.inr (.inl 172), v] [] (SGx x) (v_st V M) Q = mj_Rn (d + 12) 269 226 [.inr (.inl 172), v] [] (SGx x) (v_st V (m_sb M)) Q := by
  have hb := m_b1_tx h
  have h4 := hb.2.2
  have eb : m_bl 160 (m_sg M 32) = m_b1 M := rfl
  unfold m_sb m_nbV m_nbM
  by_cases c : m_b1 M 172 11 = 0
  · simp (disch := omega) only [i_269_0, i_269_1, i_269_4, i_269_5, i_269_6, i_269_7, i_269_9, i_269_12, i_269_13, i_269_16, i_269_17, i_269_19, i_269_22, i_269_23, i_269_26, i_269_27, i_269_30, i_269_31, i_269_32, i_269_35, i_269_38, i_269_40, i_269_43, i_269_44, i_269_47, i_269_48, i_269_51, i_269_53, i_269_56, i_269_58, i_269_61, i_269_62, i_269_63, i_269_66, i_269_69, i_269_71, i_269_74, i_269_75, i_269_78, i_269_79, i_269_82, i_269_84, i_269_87, i_269_89, i_269_92, i_269_93, i_269_94, i_269_97, i_269_100, i_269_102, i_269_105, i_269_106, i_269_109, i_269_110, i_269_113, i_269_115, i_269_118, i_269_120, i_269_123, i_269_124, i_269_125, i_269_128, i_269_131, i_269_133, i_269_136, i_269_137, i_269_140, i_269_141, i_269_144, i_269_146, i_269_149, i_269_151, i_269_154, i_269_155, i_269_158, i_269_161, i_269_162, i_269_163, i_269_166, i_269_167, i_269_170, i_269_172, i_269_175, i_269_177, i_269_180, i_269_181, i_269_184, i_269_185, i_269_186, i_269_189, i_269_192, i_269_193, i_269_196, i_269_197, i_269_200, i_269_203, i_269_204, i_269_207, i_269_208, i_269_209, i_269_212, i_269_215, i_269_216, i_269_219, i_269_220, i_269_223, i_269_227, i_269_228, i_269_231, i_269_232, i_269_235, i_269_236, i_269_239, i_269_240, i_269_241, i_269_244, i_269_245, i_269_246, i_269_249, i_269_252, i_269_253, i_269_256, i_269_257, i_269_260, i_269_263, g_o172, g_r172_1, g_r172_2, g_r172_4, g_r172_5, g_r172_6, g_r172_7, g_r172_8, g_r172_16, g_r172_18, g_r172_19, g_r172_20, g_r172_21, g_a173, g_t173, g_a174, g_t174, g_a179, g_t179, exists_eq_left', Option.some.injEq, exists_eq_left, ne_eq, List.length_nil, List.length_cons, Option.toList_some, Option.toList_none, List.cons_append, List.nil_append, mj_wt_nil, mj_wt_i, mj_wt_r, mj_wt_l, true_and, and_true, false_and, and_false, true_implies, false_implies, implies_true, not_true_eq_false, not_false_eq_true, and_self, Int.reduceEq, Nat.reduceEqDiff, ↓reduceIte, mj_w_id2, Int.toNat_natCast, v_st_ne, v_rd, v_up, v_up_ne, v_rg, v_rg2, v_th0, v_th1, v_th2, v_th3, v_th4, v_th5, v_th6, v_th7, v_tk0, v_tk1, v_tk2, v_tk3, v_tk4, v_tk5, v_tk6, v_tk7, v_tk8, v_tk9, v_tk10, v_tk11, v_rn0, v_rn1, v_rn2, v_rn3, v_rn4, v_rn5, v_rn6, v_rn7, v_rn8, v_rn9, v_rn10, v_rn11, v_ws0, v_ws1, v_ws2, v_ws3, v_ws4, v_ws5, v_ws6, v_gl0, v_gl1, v_gl2, v_gl3, v_gl4, v_gl5, v_gl6, v_gl7, v_gl8, v_gl9, v_ow, v_ow2, v_iw, v_tb, v_pg, Int.neg_neg, Int.reduceNeg, Int.reduceToNat, forall_const, Int.reduceLT, Int.reduceLE, if_true, if_false, gt_iff_lt, r_272 h, r_273 hb, eb, c]
    try grind
  · simp (disch := omega) only [i_269_0, i_269_1, i_269_4, i_269_5, i_269_6, i_269_7, i_269_9, i_269_12, i_269_13, i_269_16, i_269_17, i_269_19, i_269_22, i_269_23, i_269_26, i_269_27, i_269_30, i_269_31, i_269_32, i_269_35, i_269_38, i_269_40, i_269_43, i_269_44, i_269_47, i_269_48, i_269_51, i_269_53, i_269_56, i_269_58, i_269_61, i_269_62, i_269_63, i_269_66, i_269_69, i_269_71, i_269_74, i_269_75, i_269_78, i_269_79, i_269_82, i_269_84, i_269_87, i_269_89, i_269_92, i_269_93, i_269_94, i_269_97, i_269_100, i_269_102, i_269_105, i_269_106, i_269_109, i_269_110, i_269_113, i_269_115, i_269_118, i_269_120, i_269_123, i_269_124, i_269_125, i_269_128, i_269_131, i_269_133, i_269_136, i_269_137, i_269_140, i_269_141, i_269_144, i_269_146, i_269_149, i_269_151, i_269_154, i_269_155, i_269_158, i_269_161, i_269_162, i_269_163, i_269_166, i_269_167, i_269_170, i_269_172, i_269_175, i_269_177, i_269_180, i_269_181, i_269_184, i_269_185, i_269_186, i_269_189, i_269_192, i_269_193, i_269_196, i_269_197, i_269_200, i_269_203, i_269_204, i_269_207, i_269_208, i_269_209, i_269_212, i_269_215, i_269_216, i_269_219, i_269_220, i_269_223, i_269_227, i_269_228, i_269_231, i_269_232, i_269_235, i_269_236, i_269_239, i_269_240, i_269_241, i_269_244, i_269_245, i_269_246, i_269_249, i_269_252, i_269_253, i_269_256, i_269_257, i_269_260, i_269_263, g_o172, g_r172_1, g_r172_2, g_r172_4, g_r172_5, g_r172_6, g_r172_7, g_r172_8, g_r172_16, g_r172_18, g_r172_19, g_r172_20, g_r172_21, g_a173, g_t173, g_a174, g_t174, g_a179, g_t179, exists_eq_left', Option.some.injEq, exists_eq_left, ne_eq, List.length_nil, List.length_cons, Option.toList_some, Option.toList_none, List.cons_append, List.nil_append, mj_wt_nil, mj_wt_i, mj_wt_r, mj_wt_l, true_and, and_true, false_and, and_false, true_implies, false_implies, implies_true, not_true_eq_false, not_false_eq_true, and_self, Int.reduceEq, Nat.reduceEqDiff, ↓reduceIte, mj_w_id2, Int.toNat_natCast, v_st_ne, v_rd, v_up, v_up_ne, v_rg, v_rg2, v_th0, v_th1, v_th2, v_th3, v_th4, v_th5, v_th6, v_th7, v_tk0, v_tk1, v_tk2, v_tk3, v_tk4, v_tk5, v_tk6, v_tk7, v_tk8, v_tk9, v_tk10, v_tk11, v_rn0, v_rn1, v_rn2, v_rn3, v_rn4, v_rn5, v_rn6, v_rn7, v_rn8, v_rn9, v_rn10, v_rn11, v_ws0, v_ws1, v_ws2, v_ws3, v_ws4, v_ws5, v_ws6, v_gl0, v_gl1, v_gl2, v_gl3, v_gl4, v_gl5, v_gl6, v_gl7, v_gl8, v_gl9, v_ow, v_ow2, v_iw, v_tb, v_pg, Int.neg_neg, Int.reduceNeg, Int.reduceToNat, forall_const, Int.reduceLT, Int.reduceLE, if_true, if_false, gt_iff_lt, r_272 h, r_273 hb, eb, c]
    try grind
theorem l_269c {v : mj_V} (h : m_tx M) : mj_Rn (d + 12) 269 226 [.inr (.inl 172), v] [] (SGx x) (v_st V M) Q = Q none (SGx x) (v_st V (m_sc M)) := by
  have h0 : m_tx (mj_up M 172 15 0) := m_tx_up (by omega) h
  have hb := m_b1_tx h0
  have h4 := hb.2.2
  have eb : m_bl 160 (m_sg (mj_up M 172 15 0) 32) = m_b1 (mj_up M 172 15 0) := rfl
  have e12 : mj_up M 172 15 0 172 12 = M 172 12 := by rw [mj_up_at, if_neg (by omega)]
  unfold m_sc m_rbV m_rbM
  by_cases c2 : M 172 12 = 2
  · simp (disch := omega) only [i_269_0, i_269_1, i_269_4, i_269_5, i_269_6, i_269_7, i_269_9, i_269_12, i_269_13, i_269_16, i_269_17, i_269_19, i_269_22, i_269_23, i_269_26, i_269_27, i_269_30, i_269_31, i_269_32, i_269_35, i_269_38, i_269_40, i_269_43, i_269_44, i_269_47, i_269_48, i_269_51, i_269_53, i_269_56, i_269_58, i_269_61, i_269_62, i_269_63, i_269_66, i_269_69, i_269_71, i_269_74, i_269_75, i_269_78, i_269_79, i_269_82, i_269_84, i_269_87, i_269_89, i_269_92, i_269_93, i_269_94, i_269_97, i_269_100, i_269_102, i_269_105, i_269_106, i_269_109, i_269_110, i_269_113, i_269_115, i_269_118, i_269_120, i_269_123, i_269_124, i_269_125, i_269_128, i_269_131, i_269_133, i_269_136, i_269_137, i_269_140, i_269_141, i_269_144, i_269_146, i_269_149, i_269_151, i_269_154, i_269_155, i_269_158, i_269_161, i_269_162, i_269_163, i_269_166, i_269_167, i_269_170, i_269_172, i_269_175, i_269_177, i_269_180, i_269_181, i_269_184, i_269_185, i_269_186, i_269_189, i_269_192, i_269_193, i_269_196, i_269_197, i_269_200, i_269_203, i_269_204, i_269_207, i_269_208, i_269_209, i_269_212, i_269_215, i_269_216, i_269_219, i_269_220, i_269_223, i_269_226, i_269_227, i_269_228, i_269_231, i_269_232, i_269_235, i_269_236, i_269_239, i_269_240, i_269_241, i_269_244, i_269_245, i_269_246, i_269_249, i_269_252, i_269_253, i_269_256, i_269_257, i_269_260, i_269_263, g_o172, g_r172_1, g_r172_2, g_r172_4, g_r172_5, g_r172_6, g_r172_7, g_r172_8, g_r172_16, g_r172_18, g_r172_19, g_r172_20, g_r172_21, g_a173, g_t173, g_a174, g_t174, g_a179, g_t179, exists_eq_left', Option.some.injEq, exists_eq_left, ne_eq, List.length_nil, List.length_cons, Option.toList_some, Option.toList_none, List.cons_append, List.nil_append, mj_wt_nil, mj_wt_i, mj_wt_r, mj_wt_l, true_and, and_true, false_and, and_false, true_implies, false_implies, implies_true, not_true_eq_false, not_false_eq_true, and_self, Int.reduceEq, Nat.reduceEqDiff, ↓reduceIte, mj_w_id2, Int.toNat_natCast, v_st_ne, v_rd, v_up, v_up_ne, v_rg, v_rg2, v_th0, v_th1, v_th2, v_th3, v_th4, v_th5, v_th6, v_th7, v_tk0, v_tk1, v_tk2, v_tk3, v_tk4, v_tk5, v_tk6, v_tk7, v_tk8, v_tk9, v_tk10, v_tk11, v_rn0, v_rn1, v_rn2, v_rn3, v_rn4, v_rn5, v_rn6, v_rn7, v_rn8, v_rn9, v_rn10, v_rn11, v_ws0, v_ws1, v_ws2, v_ws3, v_ws4, v_ws5, v_ws6, v_gl0, v_gl1, v_gl2, v_gl3, v_gl4, v_gl5, v_gl6, v_gl7, v_gl8, v_gl9, v_ow, v_ow2, v_iw, v_tb, v_pg, Int.neg_neg, Int.reduceNeg, Int.reduceToNat, forall_const, Int.reduceLT, Int.reduceLE, if_true, if_false, gt_iff_lt, r_272 h0, r_274 hb, eb, c2, e12]
    try grind
  · by_cases c : m_b1 (mj_up M 172 15 0) 172 11 = 0
    · simp (disch := omega) only [i_269_0, i_269_1, i_269_4, i_269_5, i_269_6, i_269_7, i_269_9, i_269_12, i_269_13, i_269_16, i_269_17, i_269_19, i_269_22, i_269_23, i_269_26, i_269_27, i_269_30, i_269_31, i_269_32, i_269_35, i_269_38, i_269_40, i_269_43, i_269_44, i_269_47, i_269_48, i_269_51, i_269_53, i_269_56, i_269_58, i_269_61, i_269_62, i_269_63, i_269_66, i_269_69, i_269_71, i_269_74, i_269_75, i_269_78, i_269_79, i_269_82, i_269_84, i_269_87, i_269_89, i_269_92, i_269_93, i_269_94, i_269_97, i_269_100, i_269_102, i_269_105, i_269_106, i_269_109, i_269_110, i_269_113, i_269_115, i_269_118, i_269_120, i_269_123, i_269_124, i_269_125, i_269_128, i_269_131, i_269_133, i_269_136, i_269_137, i_269_140, i_269_141, i_269_144, i_269_146, i_269_149, i_269_151, i_269_154, i_269_155, i_269_158, i_269_161, i_269_162, i_269_163, i_269_166, i_269_167, i_269_170, i_269_172, i_269_175, i_269_177, i_269_180, i_269_181, i_269_184, i_269_185, i_269_186, i_269_189, i_269_192, i_269_193, i_269_196, i_269_197, i_269_200, i_269_203, i_269_204, i_269_207, i_269_208, i_269_209, i_269_212, i_269_215, i_269_216, i_269_219, i_269_220, i_269_223, i_269_226, i_269_227, i_269_228, i_269_231, i_269_232, i_269_235, i_269_236, i_269_239, i_269_240, i_269_241, i_269_244, i_269_245, i_269_246, i_269_249, i_269_252, i_269_253, i_269_256, i_269_257, i_269_260, i_269_263, g_o172, g_r172_1, g_r172_2, g_r172_4, g_r172_5, g_r172_6, g_r172_7, g_r172_8, g_r172_16, g_r172_18, g_r172_19, g_r172_20, g_r172_21, g_a173, g_t173, g_a174, g_t174, g_a179, g_t179, exists_eq_left', Option.some.injEq, exists_eq_left, ne_eq, List.length_nil, List.length_cons, Option.toList_some, Option.toList_none, List.cons_append, List.nil_append, mj_wt_nil, mj_wt_i, mj_wt_r, mj_wt_l, true_and, and_true, false_and, and_false, true_implies, false_implies, implies_true, not_true_eq_false, not_false_eq_true, and_self, Int.reduceEq, Nat.reduceEqDiff, ↓reduceIte, mj_w_id2, Int.toNat_natCast, v_st_ne, v_rd, v_up, v_up_ne, v_rg, v_rg2, v_th0, v_th1, v_th2, v_th3, v_th4, v_th5, v_th6, v_th7, v_tk0, v_tk1, v_tk2, v_tk3, v_tk4, v_tk5, v_tk6, v_tk7, v_tk8, v_tk9, v_tk10, v_tk11, v_rn0, v_rn1, v_rn2, v_rn3, v_rn4, v_rn5, v_rn6, v_rn7, v_rn8, v_rn9, v_rn10, v_rn11, v_ws0, v_ws1, v_ws2, v_ws3, v_ws4, v_ws5, v_ws6, v_gl0, v_gl1, v_gl2, v_gl3, v_gl4, v_gl5, v_gl6, v_gl7, v_gl8, v_gl9, v_ow, v_ow2, v_iw, v_tb, v_pg, Int.neg_neg, Int.reduceNeg, Int.reduceToNat, forall_const, Int.reduceLT, Int.reduceLE, if_true, if_false, gt_iff_lt, r_272 h0, r_274 hb, eb, c, c2, e12]
      try grind
    · simp (disch := omega) only [i_269_0, i_269_1, i_269_4, i_269_5, i_269_6, i_269_7, i_269_9, i_269_12, i_269_13, i_269_16, i_269_17, i_269_19, i_269_22, i_269_23, i_269_26, i_269_27, i_269_30, i_269_31, i_269_32, i_269_35, i_269_38, i_269_40, i_269_43, i_269_44, i_269_47, i_269_48, i_269_51, i_269_53, i_269_56, i_269_58, i_269_61, i_269_62, i_269_63, i_269_66, i_269_69, i_269_71, i_269_74, i_269_75, i_269_78, i_269_79, i_269_82, i_269_84, i_269_87, i_269_89, i_269_92, i_269_93, i_269_94, i_269_97, i_269_100, i_269_102, i_269_105, i_269_106, i_269_109, i_269_110, i_269_113, i_269_115, i_269_118, i_269_120, i_269_123, i_269_124, i_269_125, i_269_128, i_269_131, i_269_133, i_269_136, i_269_137, i_269_140, i_269_141, i_269_144, i_269_146, i_269_149, i_269_151, i_269_154, i_269_155, i_269_158, i_269_161, i_269_162, i_269_163, i_269_166, i_269_167, i_269_170, i_269_172, i_269_175, i_269_177, i_269_180, i_269_181, i_269_184, i_269_185, i_269_186, i_269_189, i_269_192, i_269_193, i_269_196, i_269_197, i_269_200, i_269_203, i_269_204, i_269_207, i_269_208, i_269_209, i_269_212, i_269_215, i_269_216, i_269_219, i_269_220, i_269_223, i_269_226, i_269_227, i_269_228, i_269_231, i_269_232, i_269_235, i_269_236, i_269_239, i_269_240, i_269_241, i_269_244, i_269_245, i_269_246, i_269_249, i_269_252, i_269_253, i_269_256, i_269_257, i_269_260, i_269_263, g_o172, g_r172_1, g_r172_2, g_r172_4, g_r172_5, g_r172_6, g_r172_7, g_r172_8, g_r172_16, g_r172_18, g_r172_19, g_r172_20, g_r172_21, g_a173, g_t173, g_a174, g_t174, g_a179, g_t179, exists_eq_left', Option.some.injEq, exists_eq_left, ne_eq, List.length_nil, List.length_cons, Option.toList_some, Option.toList_none, List.cons_append, List.nil_append, mj_wt_nil, mj_wt_i, mj_wt_r, mj_wt_l, true_and, and_true, false_and, and_false, true_implies, false_implies, implies_true, not_true_eq_false, not_false_eq_true, and_self, Int.reduceEq, Nat.reduceEqDiff, ↓reduceIte, mj_w_id2, Int.toNat_natCast, v_st_ne, v_rd, v_up, v_up_ne, v_rg, v_rg2, v_th0, v_th1, v_th2, v_th3, v_th4, v_th5, v_th6, v_th7, v_tk0, v_tk1, v_tk2, v_tk3, v_tk4, v_tk5, v_tk6, v_tk7, v_tk8, v_tk9, v_tk10, v_tk11, v_rn0, v_rn1, v_rn2, v_rn3, v_rn4, v_rn5, v_rn6, v_rn7, v_rn8, v_rn9, v_rn10, v_rn11, v_ws0, v_ws1, v_ws2, v_ws3, v_ws4, v_ws5, v_ws6, v_gl0, v_gl1, v_gl2, v_gl3, v_gl4, v_gl5, v_gl6, v_gl7, v_gl8, v_gl9, v_ow, v_ow2, v_iw, v_tb, v_pg, Int.neg_neg, Int.reduceNeg, Int.reduceToNat, forall_const, Int.reduceLT, Int.reduceLE, if_true, if_false, gt_iff_lt, r_272 h0, r_274 hb, eb, c, c2, e12]
      try grind
def m_k (M : mj_M) : Int := if m_by M = 103 then 0 else if m_by M = 110 then 1 else 2
def m_w0 (M : mj_M) : mj_M := mj_up M 172 12 (m_k M)
def m_wd (M : mj_M) : mj_M := if m_by M = 103 then (m_sg (m_sg (m_sg (m_sg (mj_up M 172 12 0) 103) 101) 116) 115) else if m_by M = 110 then (m_sg (m_sg (m_sg (m_sg (m_sg (mj_up M 172 12 1) 110) 101) 118) 101) 114) else (m_sg (m_sg (m_sg (m_sg (m_sg (mj_up M 172 12 2) 97) 112) 97) 114) 116)
theorem l_269w0 (h : m_tx M) (c1 : m_by M = 103) : mj_Rn (d + 12) 269 0 [.inr (.inl 172), .inr (.inr 0)] [] (SGx x) (v_st V M) Q = mj_Rn (d + 12) 269 180 [.inr (.inl 172), .inl (m_by M)] [] (SGx x) (v_st V (m_sg (m_sg (m_sg (m_sg (mj_up M 172 12 0) 103) 101) 116) 115)) Q := by
  have t0 : m_tx (mj_up M 172 12 0) := m_tx_up (by omega) h
  have k0 : (mj_up M 172 12 0) 172 12 = 0 := by rw [mj_up_at, if_pos rfl]
  have t1 : m_tx (m_sg (mj_up M 172 12 0) 103) := m_sg_tx (by omega) t0
  have k1 : (m_sg (mj_up M 172 12 0) 103) 172 12 = 0 := ((m_sg_fr (c := 103)).2 12 (by omega) (by omega)).trans k0
  have t2 : m_tx (m_sg (m_sg (mj_up M 172 12 0) 103) 101) := m_sg_tx (by omega) t1
  have k2 : (m_sg (m_sg (mj_up M 172 12 0) 103) 101) 172 12 = 0 := ((m_sg_fr (c := 101)).2 12 (by omega) (by omega)).trans k1
  have t3 : m_tx (m_sg (m_sg (m_sg (mj_up M 172 12 0) 103) 101) 116) := m_sg_tx (by omega) t2
  have k3 : (m_sg (m_sg (m_sg (mj_up M 172 12 0) 103) 101) 116) 172 12 = 0 := ((m_sg_fr (c := 116)).2 12 (by omega) (by omega)).trans k2
  have t4 : m_tx (m_sg (m_sg (m_sg (m_sg (mj_up M 172 12 0) 103) 101) 116) 115) := m_sg_tx (by omega) t3
  have k4 : (m_sg (m_sg (m_sg (m_sg (mj_up M 172 12 0) 103) 101) 116) 115) 172 12 = 0 := ((m_sg_fr (c := 115)).2 12 (by omega) (by omega)).trans k3
  simp (disch := omega) only [i_269_0, i_269_1, i_269_4, i_269_5, i_269_6, i_269_7, i_269_9, i_269_12, i_269_13, i_269_16, i_269_17, i_269_19, i_269_22, i_269_23, i_269_26, i_269_27, i_269_30, i_269_31, i_269_32, i_269_35, i_269_38, i_269_40, i_269_43, i_269_44, i_269_47, i_269_48, i_269_51, i_269_53, i_269_56, i_269_58, i_269_61, i_269_62, i_269_63, i_269_66, i_269_69, i_269_71, i_269_74, i_269_75, i_269_78, i_269_79, i_269_82, i_269_84, i_269_87, i_269_89, i_269_92, i_269_93, i_269_94, i_269_97, i_269_100, i_269_102, i_269_105, i_269_106, i_269_109, i_269_110, i_269_113, i_269_115, i_269_118, i_269_120, i_269_123, i_269_124, i_269_125, i_269_128, i_269_131, i_269_133, i_269_136, i_269_137, i_269_140, i_269_141, i_269_144, i_269_146, i_269_149, i_269_151, i_269_154, i_269_155, i_269_158, i_269_161, i_269_162, i_269_163, i_269_166, i_269_167, i_269_170, i_269_172, i_269_175, i_269_177, i_269_181, i_269_184, i_269_185, i_269_186, i_269_189, i_269_192, i_269_193, i_269_196, i_269_197, i_269_200, i_269_203, i_269_204, i_269_207, i_269_208, i_269_209, i_269_212, i_269_215, i_269_216, i_269_219, i_269_220, i_269_223, i_269_226, i_269_227, i_269_228, i_269_231, i_269_232, i_269_235, i_269_236, i_269_239, i_269_240, i_269_241, i_269_244, i_269_245, i_269_246, i_269_249, i_269_252, i_269_253, i_269_256, i_269_257, i_269_260, i_269_263, g_o172, g_r172_1, g_r172_2, g_r172_4, g_r172_5, g_r172_6, g_r172_7, g_r172_8, g_r172_16, g_r172_18, g_r172_19, g_r172_20, g_r172_21, g_a173, g_t173, g_a174, g_t174, g_a179, g_t179, exists_eq_left', Option.some.injEq, exists_eq_left, ne_eq, List.length_nil, List.length_cons, Option.toList_some, Option.toList_none, List.cons_append, List.nil_append, mj_wt_nil, mj_wt_i, mj_wt_r, mj_wt_l, true_and, and_true, false_and, and_false, true_implies, false_implies, implies_true, not_true_eq_false, not_false_eq_true, and_self, Int.reduceEq, Nat.reduceEqDiff, ↓reduceIte, mj_w_id2, Int.toNat_natCast, v_st_ne, v_rd, v_up, v_up_ne, v_rg, v_rg2, v_th0, v_th1, v_th2, v_th3, v_th4, v_th5, v_th6, v_th7, v_tk0, v_tk1, v_tk2, v_tk3, v_tk4, v_tk5, v_tk6, v_tk7, v_tk8, v_tk9, v_tk10, v_tk11, v_rn0, v_rn1, v_rn2, v_rn3, v_rn4, v_rn5, v_rn6, v_rn7, v_rn8, v_rn9, v_rn10, v_rn11, v_ws0, v_ws1, v_ws2, v_ws3, v_ws4, v_ws5, v_ws6, v_gl0, v_gl1, v_gl2, v_gl3, v_gl4, v_gl5, v_gl6, v_gl7, v_gl8, v_gl9, v_ow, v_ow2, v_iw, v_tb, v_pg, Int.neg_neg, Int.reduceNeg, Int.reduceToNat, forall_const, Int.reduceLT, Int.reduceLE, if_true, if_false, gt_iff_lt, r_270 h, c1, r_271 (show (0 : Int) ≤ 103 by omega) t0, k0, r_271 (show (0 : Int) ≤ 101 by omega) t1, k1, r_271 (show (0 : Int) ≤ 116 by omega) t2, k2, r_271 (show (0 : Int) ≤ 115 by omega) t3, k3, k4]
  try grind
theorem l_269w1 (h : m_tx M) (c1 : ¬ m_by M = 103) (c2 : m_by M = 110) : mj_Rn (d + 12) 269 0 [.inr (.inl 172), .inr (.inr 0)] [] (SGx x) (v_st V M) Q = mj_Rn (d + 12) 269 180 [.inr (.inl 172), .inl (m_by M)] [] (SGx x) (v_st V (m_sg (m_sg (m_sg (m_sg (m_sg (mj_up M 172 12 1) 110) 101) 118) 101) 114)) Q := by
  have t0 : m_tx (mj_up M 172 12 1) := m_tx_up (by omega) h
  have k0 : (mj_up M 172 12 1) 172 12 = 1 := by rw [mj_up_at, if_pos rfl]
  have t1 : m_tx (m_sg (mj_up M 172 12 1) 110) := m_sg_tx (by omega) t0
  have k1 : (m_sg (mj_up M 172 12 1) 110) 172 12 = 1 := ((m_sg_fr (c := 110)).2 12 (by omega) (by omega)).trans k0
  have t2 : m_tx (m_sg (m_sg (mj_up M 172 12 1) 110) 101) := m_sg_tx (by omega) t1
  have k2 : (m_sg (m_sg (mj_up M 172 12 1) 110) 101) 172 12 = 1 := ((m_sg_fr (c := 101)).2 12 (by omega) (by omega)).trans k1
  have t3 : m_tx (m_sg (m_sg (m_sg (mj_up M 172 12 1) 110) 101) 118) := m_sg_tx (by omega) t2
  have k3 : (m_sg (m_sg (m_sg (mj_up M 172 12 1) 110) 101) 118) 172 12 = 1 := ((m_sg_fr (c := 118)).2 12 (by omega) (by omega)).trans k2
  have t4 : m_tx (m_sg (m_sg (m_sg (m_sg (mj_up M 172 12 1) 110) 101) 118) 101) := m_sg_tx (by omega) t3
  have k4 : (m_sg (m_sg (m_sg (m_sg (mj_up M 172 12 1) 110) 101) 118) 101) 172 12 = 1 := ((m_sg_fr (c := 101)).2 12 (by omega) (by omega)).trans k3
  have t5 : m_tx (m_sg (m_sg (m_sg (m_sg (m_sg (mj_up M 172 12 1) 110) 101) 118) 101) 114) := m_sg_tx (by omega) t4
  have k5 : (m_sg (m_sg (m_sg (m_sg (m_sg (mj_up M 172 12 1) 110) 101) 118) 101) 114) 172 12 = 1 := ((m_sg_fr (c := 114)).2 12 (by omega) (by omega)).trans k4
  simp (disch := omega) only [i_269_0, i_269_1, i_269_4, i_269_5, i_269_6, i_269_7, i_269_9, i_269_12, i_269_13, i_269_16, i_269_17, i_269_19, i_269_22, i_269_23, i_269_26, i_269_27, i_269_30, i_269_31, i_269_32, i_269_35, i_269_38, i_269_40, i_269_43, i_269_44, i_269_47, i_269_48, i_269_51, i_269_53, i_269_56, i_269_58, i_269_61, i_269_62, i_269_63, i_269_66, i_269_69, i_269_71, i_269_74, i_269_75, i_269_78, i_269_79, i_269_82, i_269_84, i_269_87, i_269_89, i_269_92, i_269_93, i_269_94, i_269_97, i_269_100, i_269_102, i_269_105, i_269_106, i_269_109, i_269_110, i_269_113, i_269_115, i_269_118, i_269_120, i_269_123, i_269_124, i_269_125, i_269_128, i_269_131, i_269_133, i_269_136, i_269_137, i_269_140, i_269_141, i_269_144, i_269_146, i_269_149, i_269_151, i_269_154, i_269_155, i_269_158, i_269_161, i_269_162, i_269_163, i_269_166, i_269_167, i_269_170, i_269_172, i_269_175, i_269_177, i_269_181, i_269_184, i_269_185, i_269_186, i_269_189, i_269_192, i_269_193, i_269_196, i_269_197, i_269_200, i_269_203, i_269_204, i_269_207, i_269_208, i_269_209, i_269_212, i_269_215, i_269_216, i_269_219, i_269_220, i_269_223, i_269_226, i_269_227, i_269_228, i_269_231, i_269_232, i_269_235, i_269_236, i_269_239, i_269_240, i_269_241, i_269_244, i_269_245, i_269_246, i_269_249, i_269_252, i_269_253, i_269_256, i_269_257, i_269_260, i_269_263, g_o172, g_r172_1, g_r172_2, g_r172_4, g_r172_5, g_r172_6, g_r172_7, g_r172_8, g_r172_16, g_r172_18, g_r172_19, g_r172_20, g_r172_21, g_a173, g_t173, g_a174, g_t174, g_a179, g_t179, exists_eq_left', Option.some.injEq, exists_eq_left, ne_eq, List.length_nil, List.length_cons, Option.toList_some, Option.toList_none, List.cons_append, List.nil_append, mj_wt_nil, mj_wt_i, mj_wt_r, mj_wt_l, true_and, and_true, false_and, and_false, true_implies, false_implies, implies_true, not_true_eq_false, not_false_eq_true, and_self, Int.reduceEq, Nat.reduceEqDiff, ↓reduceIte, mj_w_id2, Int.toNat_natCast, v_st_ne, v_rd, v_up, v_up_ne, v_rg, v_rg2, v_th0, v_th1, v_th2, v_th3, v_th4, v_th5, v_th6, v_th7, v_tk0, v_tk1, v_tk2, v_tk3, v_tk4, v_tk5, v_tk6, v_tk7, v_tk8, v_tk9, v_tk10, v_tk11, v_rn0, v_rn1, v_rn2, v_rn3, v_rn4, v_rn5, v_rn6, v_rn7, v_rn8, v_rn9, v_rn10, v_rn11, v_ws0, v_ws1, v_ws2, v_ws3, v_ws4, v_ws5, v_ws6, v_gl0, v_gl1, v_gl2, v_gl3, v_gl4, v_gl5, v_gl6, v_gl7, v_gl8, v_gl9, v_ow, v_ow2, v_iw, v_tb, v_pg, Int.neg_neg, Int.reduceNeg, Int.reduceToNat, forall_const, Int.reduceLT, Int.reduceLE, if_true, if_false, gt_iff_lt, r_270 h, c1, c2, r_271 (show (0 : Int) ≤ 110 by omega) t0, k0, r_271 (show (0 : Int) ≤ 101 by omega) t1, k1, r_271 (show (0 : Int) ≤ 118 by omega) t2, k2, r_271 (show (0 : Int) ≤ 101 by omega) t3, k3, r_271 (show (0 : Int) ≤ 114 by omega) t4, k4, k5]
  try grind
theorem l_269w2 (h : m_tx M) (c1 : ¬ m_by M = 103) (c2 : ¬ m_by M = 110) : mj_Rn (d + 12) 269 0 [.inr (.inl 172), .inr (.inr 0)] [] (SGx x) (v_st V M) Q = mj_Rn (d + 12) 269 180 [.inr (.inl 172), .inl (m_by M)] [] (SGx x) (v_st V (m_sg (m_sg (m_sg (m_sg (m_sg (mj_up M 172 12 2) 97) 112) 97) 114) 116)) Q := by
  have t0 : m_tx (mj_up M 172 12 2) := m_tx_up (by omega) h
  have k0 : (mj_up M 172 12 2) 172 12 = 2 := by rw [mj_up_at, if_pos rfl]
  have t1 : m_tx (m_sg (mj_up M 172 12 2) 97) := m_sg_tx (by omega) t0
  have k1 : (m_sg (mj_up M 172 12 2) 97) 172 12 = 2 := ((m_sg_fr (c := 97)).2 12 (by omega) (by omega)).trans k0
  have t2 : m_tx (m_sg (m_sg (mj_up M 172 12 2) 97) 112) := m_sg_tx (by omega) t1
  have k2 : (m_sg (m_sg (mj_up M 172 12 2) 97) 112) 172 12 = 2 := ((m_sg_fr (c := 112)).2 12 (by omega) (by omega)).trans k1
  have t3 : m_tx (m_sg (m_sg (m_sg (mj_up M 172 12 2) 97) 112) 97) := m_sg_tx (by omega) t2
  have k3 : (m_sg (m_sg (m_sg (mj_up M 172 12 2) 97) 112) 97) 172 12 = 2 := ((m_sg_fr (c := 97)).2 12 (by omega) (by omega)).trans k2
  have t4 : m_tx (m_sg (m_sg (m_sg (m_sg (mj_up M 172 12 2) 97) 112) 97) 114) := m_sg_tx (by omega) t3
  have k4 : (m_sg (m_sg (m_sg (m_sg (mj_up M 172 12 2) 97) 112) 97) 114) 172 12 = 2 := ((m_sg_fr (c := 114)).2 12 (by omega) (by omega)).trans k3
  have t5 : m_tx (m_sg (m_sg (m_sg (m_sg (m_sg (mj_up M 172 12 2) 97) 112) 97) 114) 116) := m_sg_tx (by omega) t4
  have k5 : (m_sg (m_sg (m_sg (m_sg (m_sg (mj_up M 172 12 2) 97) 112) 97) 114) 116) 172 12 = 2 := ((m_sg_fr (c := 116)).2 12 (by omega) (by omega)).trans k4
  simp (disch := omega) only [i_269_0, i_269_1, i_269_4, i_269_5, i_269_6, i_269_7, i_269_9, i_269_12, i_269_13, i_269_16, i_269_17, i_269_19, i_269_22, i_269_23, i_269_26, i_269_27, i_269_30, i_269_31, i_269_32, i_269_35, i_269_38, i_269_40, i_269_43, i_269_44, i_269_47, i_269_48, i_269_51, i_269_53, i_269_56, i_269_58, i_269_61, i_269_62, i_269_63, i_269_66, i_269_69, i_269_71, i_269_74, i_269_75, i_269_78, i_269_79, i_269_82, i_269_84, i_269_87, i_269_89, i_269_92, i_269_93, i_269_94, i_269_97, i_269_100, i_269_102, i_269_105, i_269_106, i_269_109, i_269_110, i_269_113, i_269_115, i_269_118, i_269_120, i_269_123, i_269_124, i_269_125, i_269_128, i_269_131, i_269_133, i_269_136, i_269_137, i_269_140, i_269_141, i_269_144, i_269_146, i_269_149, i_269_151, i_269_154, i_269_155, i_269_158, i_269_161, i_269_162, i_269_163, i_269_166, i_269_167, i_269_170, i_269_172, i_269_175, i_269_177, i_269_181, i_269_184, i_269_185, i_269_186, i_269_189, i_269_192, i_269_193, i_269_196, i_269_197, i_269_200, i_269_203, i_269_204, i_269_207, i_269_208, i_269_209, i_269_212, i_269_215, i_269_216, i_269_219, i_269_220, i_269_223, i_269_226, i_269_227, i_269_228, i_269_231, i_269_232, i_269_235, i_269_236, i_269_239, i_269_240, i_269_241, i_269_244, i_269_245, i_269_246, i_269_249, i_269_252, i_269_253, i_269_256, i_269_257, i_269_260, i_269_263, g_o172, g_r172_1, g_r172_2, g_r172_4, g_r172_5, g_r172_6, g_r172_7, g_r172_8, g_r172_16, g_r172_18, g_r172_19, g_r172_20, g_r172_21, g_a173, g_t173, g_a174, g_t174, g_a179, g_t179, exists_eq_left', Option.some.injEq, exists_eq_left, ne_eq, List.length_nil, List.length_cons, Option.toList_some, Option.toList_none, List.cons_append, List.nil_append, mj_wt_nil, mj_wt_i, mj_wt_r, mj_wt_l, true_and, and_true, false_and, and_false, true_implies, false_implies, implies_true, not_true_eq_false, not_false_eq_true, and_self, Int.reduceEq, Nat.reduceEqDiff, ↓reduceIte, mj_w_id2, Int.toNat_natCast, v_st_ne, v_rd, v_up, v_up_ne, v_rg, v_rg2, v_th0, v_th1, v_th2, v_th3, v_th4, v_th5, v_th6, v_th7, v_tk0, v_tk1, v_tk2, v_tk3, v_tk4, v_tk5, v_tk6, v_tk7, v_tk8, v_tk9, v_tk10, v_tk11, v_rn0, v_rn1, v_rn2, v_rn3, v_rn4, v_rn5, v_rn6, v_rn7, v_rn8, v_rn9, v_rn10, v_rn11, v_ws0, v_ws1, v_ws2, v_ws3, v_ws4, v_ws5, v_ws6, v_gl0, v_gl1, v_gl2, v_gl3, v_gl4, v_gl5, v_gl6, v_gl7, v_gl8, v_gl9, v_ow, v_ow2, v_iw, v_tb, v_pg, Int.neg_neg, Int.reduceNeg, Int.reduceToNat, forall_const, Int.reduceLT, Int.reduceLE, if_true, if_false, gt_iff_lt, r_270 h, c1, c2, r_271 (show (0 : Int) ≤ 97 by omega) t0, k0, r_271 (show (0 : Int) ≤ 112 by omega) t1, k1, r_271 (show (0 : Int) ≤ 97 by omega) t2, k2, r_271 (show (0 : Int) ≤ 114 by omega) t3, k3, r_271 (show (0 : Int) ≤ 116 by omega) t4, k4, k5]
  try grind
theorem m_wd_tx (h : m_tx M) : m_tx (m_wd M) := by
  unfold m_wd
  split
  · exact m_sg_tx (by omega) (m_sg_tx (by omega) (m_sg_tx (by omega) (m_sg_tx (by omega) (m_tx_up (by omega) h))))
  · split
    · exact m_sg_tx (by omega) (m_sg_tx (by omega) (m_sg_tx (by omega) (m_sg_tx (by omega) (m_sg_tx (by omega) (m_tx_up (by omega) h)))))
    · exact m_sg_tx (by omega) (m_sg_tx (by omega) (m_sg_tx (by omega) (m_sg_tx (by omega) (m_sg_tx (by omega) (m_tx_up (by omega) h)))))
def m_stt (M : mj_M) : mj_M := m_sc (m_sb (m_sa (m_wd M)))
theorem m_sa_tx (h : m_tx M) : m_tx (m_sa M) := m_tx_up (by omega) (m_nbM_tx h)
theorem m_sb_tx (h : m_tx M) : m_tx (m_sb M) := m_tx_up (by omega) (m_nbM_tx h)
theorem m_sc_tx (h : m_tx M) : m_tx (m_sc M) := by
  unfold m_sc
  split
  · exact m_tx_up (by omega) h
  · exact m_tx_up (by omega) (m_rbM_tx (m_tx_up (by omega) h))
theorem m_stt_tx (h : m_tx M) : m_tx (m_stt M) := m_sc_tx (m_sb_tx (m_sa_tx (m_wd_tx h)))
theorem r_269 (h : m_tx M) : mj_Rn (d + 12) 269 0 [.inr (.inl 172), .inr (.inr 0)] [] (SGx x) (v_st V M) Q = Q none (SGx x) (v_st V (m_stt M)) := by
  have hw := m_wd_tx h
  have ha := m_sa_tx hw
  have hb := m_sb_tx ha
  unfold m_stt
  have key := (l_269a (d := d) (x := x) (V := V) (Q := Q) (v := .inl (m_by M)) hw).trans ((l_269b ha).trans (l_269c hb))
  rw [← key]
  clear key hw ha hb
  unfold m_wd
  by_cases c1 : m_by M = 103
  · rw [if_pos c1]; exact l_269w0 h c1
  · rw [if_neg c1]
    by_cases c2 : m_by M = 110
    · rw [if_pos c2]; exact l_269w1 h c1 c2
    · rw [if_neg c2]; exact l_269w2 h c1 c2
end sp98n
