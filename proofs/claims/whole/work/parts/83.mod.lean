section sp83
variable {x : Nat} {M V : mj_M} {Q : Option mj_V → mj_G → mj_M → Prop} {d : Nat}
def m_rd (V : mj_M) (r : Int) : mj_M :=
  let A := mj_up (mj_up (mj_up V 24 r.toNat 0) 28 r.toNat (-1)) 29 r.toNat (-1)
  mj_up A 25 r.toNat (mj_w (A 25 r.toNat + 1))
theorem m_rd_w {r : Int} (w : q_wr V) : q_wr (m_rd V r) := by
  unfold m_rd
  exact q_wr_up (q_wr_up (q_wr_up (q_wr_up w (by simp [q_okv])) (by simp [q_okv])) (by simp [q_okv])) (by simp [q_okv])
theorem r_203 {r : Int} (h : 0 ≤ r ∧ r < 8) : mj_Rn d 203 0 [.inr (.inl 172), .inl r, .inr (.inr 0)] [] (SGx x) (v_st V M) Q = Q none (SGx x) (v_st (m_rd V r) M) := by
  unfold m_rd
  simp (disch := omega) only [i_203_0, i_203_3, i_203_6, i_203_7, i_203_8, i_203_9, i_203_10, i_203_11, i_203_14, i_203_15, i_203_16, i_203_17, i_203_18, i_203_19, i_203_20, i_203_23, i_203_24, i_203_25, i_203_26, i_203_27, i_203_28, i_203_29, i_203_32, i_203_33, i_203_35, i_203_36, i_203_37, i_203_38, i_203_39, i_203_42, i_203_43, i_203_44, i_203_45, i_203_46, i_203_47, i_203_48, i_203_49, i_203_50, g_o172, g_r172_1, g_r172_2, g_r172_4, g_r172_5, g_r172_6, g_r172_7, g_r172_8, g_r172_16, g_r172_18, g_r172_19, g_r172_20, g_r172_21, g_a173, g_t173, exists_eq_left', Option.some.injEq, exists_eq_left, ne_eq, List.length_nil, List.length_cons, Option.toList_some, Option.toList_none, List.cons_append, List.nil_append, mj_wt_nil, mj_wt_i, mj_wt_r, mj_wt_l, true_and, and_true, false_and, and_false, true_implies, false_implies, implies_true, not_true_eq_false, not_false_eq_true, and_self, Int.reduceEq, Nat.reduceEqDiff, ↓reduceIte, mj_w_id2, Int.toNat_natCast, v_st_ne, v_rd, v_up, v_up_ne, v_rg, v_rg2, v_th0, v_th1, v_th2, v_th3, v_th4, v_th5, v_th6, v_th7, v_tk0, v_tk1, v_tk2, v_tk3, v_tk4, v_tk5, v_tk6, v_tk7, v_tk8, v_tk9, v_tk10, v_tk11, v_rn0, v_rn1, v_rn2, v_rn3, v_rn4, v_rn5, v_rn6, v_rn7, v_rn8, v_rn9, v_rn10, v_rn11, v_ws0, v_ws1, v_ws2, v_ws3, v_ws4, v_ws5, v_ws6, v_gl0, v_gl1, v_gl2, v_gl3, v_gl4, v_gl5, v_gl6, v_gl7, v_gl8, v_gl9, v_ow, v_ow2, v_iw, v_tb, v_pg]
  try grind [mj_w]
def m_enA (V : mj_M) (r s : Int) : mj_M := mj_up (mj_up V 24 r.toNat s) 28 r.toNat (-1)
def m_enB (A : mj_M) (r : Int) : mj_M := if A 30 r.toNat = -1 then A else m_rd (mj_up (mj_up A 30 r.toNat (-1)) 26 (A 30 r.toNat).toNat (-1)) (A 30 r.toNat)
def m_enC (B : mj_M) (r : Int) : mj_M := if B 29 r.toNat = -1 then B else mj_up (mj_up B 29 r.toNat (-1)) 30 (B 29 r.toNat).toNat (-1)
def m_en (V : mj_M) (r s : Int) : mj_M := m_enC (m_enB (m_enA V r s) r) r
theorem m_enA_w {r s : Int} (w : q_wr V) : q_wr (m_enA V r s) := q_wr_up (q_wr_up w (by simp [q_okv])) (by simp [q_okv])
theorem m_enB_w {r : Int} (w : q_wr V) : q_wr (m_enB V r) := by
  unfold m_enB
  split
  · exact w
  · exact m_rd_w (q_wr_up (q_wr_up w (by simp [q_okv])) (by simp [q_okv]))
theorem m_en_w {r s : Int} (w : q_wr V) : q_wr (m_en V r s) := by
  have h := m_enB_w (r := r) (m_enA_w (r := r) (s := s) w)
  unfold m_en m_enC
  split
  · exact h
  · exact q_wr_up (q_wr_up h (by simp [q_okv])) (by simp [q_okv])
theorem r_202 {r s : Int} (w : q_wr V) (h : 0 ≤ r ∧ r < 8) : mj_Rn (d + 1) 202 0 [.inr (.inl 172), .inl r, .inl s, .inr (.inr 0), .inr (.inr 0), .inr (.inr 0)] [] (SGx x) (v_st V M) Q = Q none (SGx x) (v_st (m_en V r s) M) := by
  have wA := m_enA_w (r := r) (s := s) w
  have wB := m_enB_w (r := r) wA
  have a30 := q_w30 (i := r.toNat) wA (by omega)
  have b29 := q_w29 (i := r.toNat) wB (by omega)
  have fA : mj_up (mj_up V 24 r.toNat s) 28 r.toNat (-1) = m_enA V r s := rfl
  unfold m_en
  generalize hA : m_enA V r s = A at *
  by_cases c1 : A 30 r.toNat = -1
  · have fB : m_enB A r = A := by unfold m_enB; rw [if_pos c1]
    rw [fB] at b29 ⊢
    unfold m_enC
    by_cases c2 : A 29 r.toNat = -1
    · simp (disch := omega) only [i_202_0, i_202_3, i_202_6, i_202_7, i_202_8, i_202_9, i_202_10, i_202_11, i_202_14, i_202_15, i_202_16, i_202_17, i_202_18, i_202_19, i_202_20, i_202_23, i_202_24, i_202_25, i_202_26, i_202_27, i_202_28, i_202_29, i_202_32, i_202_33, i_202_35, i_202_36, i_202_37, i_202_39, i_202_41, i_202_42, i_202_45, i_202_46, i_202_49, i_202_50, i_202_52, i_202_53, i_202_54, i_202_55, i_202_56, i_202_59, i_202_62, i_202_65, i_202_67, i_202_68, i_202_69, i_202_70, i_202_71, i_202_72, i_202_73, i_202_74, i_202_76, i_202_79, i_202_80, i_202_83, i_202_84, i_202_86, i_202_87, i_202_88, i_202_90, i_202_92, i_202_93, i_202_96, i_202_97, i_202_100, i_202_101, i_202_103, i_202_104, i_202_105, i_202_106, i_202_107, i_202_110, i_202_113, i_202_116, i_202_118, i_202_119, i_202_120, i_202_122, i_202_123, i_202_124, i_202_125, g_o172, g_r172_1, g_r172_2, g_r172_4, g_r172_5, g_r172_6, g_r172_7, g_r172_8, g_r172_16, g_r172_18, g_r172_19, g_r172_20, g_r172_21, g_a173, g_t173, exists_eq_left', Option.some.injEq, exists_eq_left, ne_eq, List.length_nil, List.length_cons, Option.toList_some, Option.toList_none, List.cons_append, List.nil_append, mj_wt_nil, mj_wt_i, mj_wt_r, mj_wt_l, true_and, and_true, false_and, and_false, true_implies, false_implies, implies_true, not_true_eq_false, not_false_eq_true, and_self, Int.reduceEq, Nat.reduceEqDiff, ↓reduceIte, mj_w_id2, Int.toNat_natCast, v_st_ne, v_rd, v_up, v_up_ne, v_rg, v_rg2, v_th0, v_th1, v_th2, v_th3, v_th4, v_th5, v_th6, v_th7, v_tk0, v_tk1, v_tk2, v_tk3, v_tk4, v_tk5, v_tk6, v_tk7, v_tk8, v_tk9, v_tk10, v_tk11, v_rn0, v_rn1, v_rn2, v_rn3, v_rn4, v_rn5, v_rn6, v_rn7, v_rn8, v_rn9, v_rn10, v_rn11, v_ws0, v_ws1, v_ws2, v_ws3, v_ws4, v_ws5, v_ws6, v_gl0, v_gl1, v_gl2, v_gl3, v_gl4, v_gl5, v_gl6, v_gl7, v_gl8, v_gl9, v_ow, v_ow2, v_iw, v_tb, v_pg, fA, fB, c1, c2, if_true, if_false]
      try grind
    · have h2 : 0 ≤ A 29 r.toNat ∧ A 29 r.toNat < 8 := by omega
      simp (disch := omega) only [i_202_0, i_202_3, i_202_6, i_202_7, i_202_8, i_202_9, i_202_10, i_202_11, i_202_14, i_202_15, i_202_16, i_202_17, i_202_18, i_202_19, i_202_20, i_202_23, i_202_24, i_202_25, i_202_26, i_202_27, i_202_28, i_202_29, i_202_32, i_202_33, i_202_35, i_202_36, i_202_37, i_202_39, i_202_41, i_202_42, i_202_45, i_202_46, i_202_49, i_202_50, i_202_52, i_202_53, i_202_54, i_202_55, i_202_56, i_202_59, i_202_62, i_202_65, i_202_67, i_202_68, i_202_69, i_202_70, i_202_71, i_202_72, i_202_73, i_202_74, i_202_76, i_202_79, i_202_80, i_202_83, i_202_84, i_202_86, i_202_87, i_202_88, i_202_90, i_202_92, i_202_93, i_202_96, i_202_97, i_202_100, i_202_101, i_202_103, i_202_104, i_202_105, i_202_106, i_202_107, i_202_110, i_202_113, i_202_116, i_202_118, i_202_119, i_202_120, i_202_122, i_202_123, i_202_124, i_202_125, g_o172, g_r172_1, g_r172_2, g_r172_4, g_r172_5, g_r172_6, g_r172_7, g_r172_8, g_r172_16, g_r172_18, g_r172_19, g_r172_20, g_r172_21, g_a173, g_t173, exists_eq_left', Option.some.injEq, exists_eq_left, ne_eq, List.length_nil, List.length_cons, Option.toList_some, Option.toList_none, List.cons_append, List.nil_append, mj_wt_nil, mj_wt_i, mj_wt_r, mj_wt_l, true_and, and_true, false_and, and_false, true_implies, false_implies, implies_true, not_true_eq_false, not_false_eq_true, and_self, Int.reduceEq, Nat.reduceEqDiff, ↓reduceIte, mj_w_id2, Int.toNat_natCast, v_st_ne, v_rd, v_up, v_up_ne, v_rg, v_rg2, v_th0, v_th1, v_th2, v_th3, v_th4, v_th5, v_th6, v_th7, v_tk0, v_tk1, v_tk2, v_tk3, v_tk4, v_tk5, v_tk6, v_tk7, v_tk8, v_tk9, v_tk10, v_tk11, v_rn0, v_rn1, v_rn2, v_rn3, v_rn4, v_rn5, v_rn6, v_rn7, v_rn8, v_rn9, v_rn10, v_rn11, v_ws0, v_ws1, v_ws2, v_ws3, v_ws4, v_ws5, v_ws6, v_gl0, v_gl1, v_gl2, v_gl3, v_gl4, v_gl5, v_gl6, v_gl7, v_gl8, v_gl9, v_ow, v_ow2, v_iw, v_tb, v_pg, fA, fB, c1, c2, if_true, if_false]
      try grind
  · have h1 : 0 ≤ A 30 r.toNat ∧ A 30 r.toNat < 8 := by omega
    have fB : m_rd (mj_up (mj_up A 30 r.toNat (-1)) 26 (A 30 r.toNat).toNat (-1)) (A 30 r.toNat) = m_enB A r := by unfold m_enB; rw [if_neg c1]
    unfold m_enC
    generalize hB : m_enB A r = B at *
    by_cases c2 : B 29 r.toNat = -1
    · simp (disch := omega) only [i_202_0, i_202_3, i_202_6, i_202_7, i_202_8, i_202_9, i_202_10, i_202_11, i_202_14, i_202_15, i_202_16, i_202_17, i_202_18, i_202_19, i_202_20, i_202_23, i_202_24, i_202_25, i_202_26, i_202_27, i_202_28, i_202_29, i_202_32, i_202_33, i_202_35, i_202_36, i_202_37, i_202_39, i_202_41, i_202_42, i_202_45, i_202_46, i_202_49, i_202_50, i_202_52, i_202_53, i_202_54, i_202_55, i_202_56, i_202_59, i_202_62, i_202_65, i_202_67, i_202_68, i_202_69, i_202_70, i_202_71, i_202_72, i_202_73, i_202_74, i_202_76, i_202_79, i_202_80, i_202_83, i_202_84, i_202_86, i_202_87, i_202_88, i_202_90, i_202_92, i_202_93, i_202_96, i_202_97, i_202_100, i_202_101, i_202_103, i_202_104, i_202_105, i_202_106, i_202_107, i_202_110, i_202_113, i_202_116, i_202_118, i_202_119, i_202_120, i_202_122, i_202_123, i_202_124, i_202_125, g_o172, g_r172_1, g_r172_2, g_r172_4, g_r172_5, g_r172_6, g_r172_7, g_r172_8, g_r172_16, g_r172_18, g_r172_19, g_r172_20, g_r172_21, g_a173, g_t173, exists_eq_left', Option.some.injEq, exists_eq_left, ne_eq, List.length_nil, List.length_cons, Option.toList_some, Option.toList_none, List.cons_append, List.nil_append, mj_wt_nil, mj_wt_i, mj_wt_r, mj_wt_l, true_and, and_true, false_and, and_false, true_implies, false_implies, implies_true, not_true_eq_false, not_false_eq_true, and_self, Int.reduceEq, Nat.reduceEqDiff, ↓reduceIte, mj_w_id2, Int.toNat_natCast, v_st_ne, v_rd, v_up, v_up_ne, v_rg, v_rg2, v_th0, v_th1, v_th2, v_th3, v_th4, v_th5, v_th6, v_th7, v_tk0, v_tk1, v_tk2, v_tk3, v_tk4, v_tk5, v_tk6, v_tk7, v_tk8, v_tk9, v_tk10, v_tk11, v_rn0, v_rn1, v_rn2, v_rn3, v_rn4, v_rn5, v_rn6, v_rn7, v_rn8, v_rn9, v_rn10, v_rn11, v_ws0, v_ws1, v_ws2, v_ws3, v_ws4, v_ws5, v_ws6, v_gl0, v_gl1, v_gl2, v_gl3, v_gl4, v_gl5, v_gl6, v_gl7, v_gl8, v_gl9, v_ow, v_ow2, v_iw, v_tb, v_pg, fA, fB, c1, c2, r_203 h1, if_true, if_false]
      try grind
    · have h2 : 0 ≤ B 29 r.toNat ∧ B 29 r.toNat < 8 := by omega
      simp (disch := omega) only [i_202_0, i_202_3, i_202_6, i_202_7, i_202_8, i_202_9, i_202_10, i_202_11, i_202_14, i_202_15, i_202_16, i_202_17, i_202_18, i_202_19, i_202_20, i_202_23, i_202_24, i_202_25, i_202_26, i_202_27, i_202_28, i_202_29, i_202_32, i_202_33, i_202_35, i_202_36, i_202_37, i_202_39, i_202_41, i_202_42, i_202_45, i_202_46, i_202_49, i_202_50, i_202_52, i_202_53, i_202_54, i_202_55, i_202_56, i_202_59, i_202_62, i_202_65, i_202_67, i_202_68, i_202_69, i_202_70, i_202_71, i_202_72, i_202_73, i_202_74, i_202_76, i_202_79, i_202_80, i_202_83, i_202_84, i_202_86, i_202_87, i_202_88, i_202_90, i_202_92, i_202_93, i_202_96, i_202_97, i_202_100, i_202_101, i_202_103, i_202_104, i_202_105, i_202_106, i_202_107, i_202_110, i_202_113, i_202_116, i_202_118, i_202_119, i_202_120, i_202_122, i_202_123, i_202_124, i_202_125, g_o172, g_r172_1, g_r172_2, g_r172_4, g_r172_5, g_r172_6, g_r172_7, g_r172_8, g_r172_16, g_r172_18, g_r172_19, g_r172_20, g_r172_21, g_a173, g_t173, exists_eq_left', Option.some.injEq, exists_eq_left, ne_eq, List.length_nil, List.length_cons, Option.toList_some, Option.toList_none, List.cons_append, List.nil_append, mj_wt_nil, mj_wt_i, mj_wt_r, mj_wt_l, true_and, and_true, false_and, and_false, true_implies, false_implies, implies_true, not_true_eq_false, not_false_eq_true, and_self, Int.reduceEq, Nat.reduceEqDiff, ↓reduceIte, mj_w_id2, Int.toNat_natCast, v_st_ne, v_rd, v_up, v_up_ne, v_rg, v_rg2, v_th0, v_th1, v_th2, v_th3, v_th4, v_th5, v_th6, v_th7, v_tk0, v_tk1, v_tk2, v_tk3, v_tk4, v_tk5, v_tk6, v_tk7, v_tk8, v_tk9, v_tk10, v_tk11, v_rn0, v_rn1, v_rn2, v_rn3, v_rn4, v_rn5, v_rn6, v_rn7, v_rn8, v_rn9, v_rn10, v_rn11, v_ws0, v_ws1, v_ws2, v_ws3, v_ws4, v_ws5, v_ws6, v_gl0, v_gl1, v_gl2, v_gl3, v_gl4, v_gl5, v_gl6, v_gl7, v_gl8, v_gl9, v_ow, v_ow2, v_iw, v_tb, v_pg, fA, fB, c1, c2, r_203 h1, if_true, if_false]
      try grind
def f_m198 (t : Int) (y : Nat) (V : mj_M) : mj_M := if V 210 y = 1 ∧ V 15 y = t then mj_up V 15 y (-1) else V
def m_go1 (V : mj_M) (t : Int) : mj_M :=
  let B := mj_up (mj_up V 212 t.toNat 0) 42 (10 * mj_up V 212 t.toNat 0 8 t.toNat + mj_up V 212 t.toNat 0 9 t.toNat).toNat (-1)
  if B 7 t.toNat = -1 then mj_up B 1 8 (mj_w (B 1 8 + B 6 t.toNat)) else mj_up B 6 (B 7 t.toNat).toNat (mj_w (B 6 (B 7 t.toNat).toNat + B 6 t.toNat))
def m_go2 (V : mj_M) (t : Int) : mj_M := q_for (f_m198 t) 40 0 (m_go1 V t)
theorem f_m198_w {t : Int} {y : Nat} (w : q_wr V) : q_wr (f_m198 t y V) := by
  unfold f_m198; split
  · exact q_wr_up w (by simp [q_okv])
  · exact w
theorem m_go1_w {t : Int} (w : q_wr V) : q_wr (m_go1 V t) := by
  unfold m_go1
  simp only []
  split
  · exact q_wr_up (q_wr_up (q_wr_up w (by simp [q_okv])) (by simp [q_okv])) (by simp [q_okv])
  · exact q_wr_up (q_wr_up (q_wr_up w (by simp [q_okv])) (by simp [q_okv])) (by simp [q_okv])
theorem m_go2_w {t : Int} (w : q_wr V) : q_wr (m_go2 V t) := q_for_inv (N := 40) (P := fun _ V => q_wr V) (fun y V _ h => f_m198_w h) 40 0 _ rfl (m_go1_w w)
theorem l_198c {t u : Int} : ∀ (n y : Nat) (V : mj_M), y + n = 40 → True → mj_Rn (d + 1) 198 139 [.inr (.inl 172), .inl t, .inl u, .inl (y : Int)] [] (SGx x) (v_st V M) Q = Q none (SGx x) (v_st (q_for (f_m198 t) n y V) M) := by
  refine q_for_rule (N := 40) (F := f_m198 t) (P := fun y V => True) (H := fun y V => mj_Rn (d + 1) 198 139 [.inr (.inl 172), .inl t, .inl u, .inl (y : Int)] [] (SGx x) (v_st V M) Q) (E := fun V => Q none (SGx x) (v_st V M)) ?_ ?_
  · intro y V hy hP
    refine ⟨trivial, ?_⟩
    have h1t : ((y + 1 : Nat) : Int) = (y : Int) + 1 := by push_cast; rfl
    simp only [h1t]
    rw [i_198_139]
    by_cases c1 : V 210 y = 1
    · by_cases c2 : V 15 y = t
      · unfold f_m198
        simp (disch := omega) only [i_198_0, i_198_1, i_198_3, i_198_5, i_198_8, i_198_9, i_198_10, i_198_11, i_198_14, i_198_15, i_198_18, i_198_19, i_198_20, i_198_21, i_198_24, i_198_25, i_198_28, i_198_29, i_198_30, i_198_33, i_198_36, i_198_40, i_198_43, i_198_46, i_198_48, i_198_49, i_198_50, i_198_51, i_198_52, i_198_53, i_198_54, i_198_55, i_198_56, i_198_59, i_198_62, i_198_64, i_198_65, i_198_66, i_198_68, i_198_71, i_198_72, i_198_73, i_198_74, i_198_75, i_198_77, i_198_80, i_198_81, i_198_82, i_198_83, i_198_84, i_198_85, i_198_86, i_198_89, i_198_90, i_198_91, i_198_92, i_198_95, i_198_96, i_198_99, i_198_100, i_198_101, i_198_102, i_198_103, i_198_104, i_198_105, i_198_108, i_198_109, i_198_110, i_198_113, i_198_114, i_198_117, i_198_120, i_198_122, i_198_123, i_198_124, i_198_125, i_198_126, i_198_127, i_198_128, i_198_129, i_198_130, i_198_131, i_198_132, i_198_135, i_198_136, i_198_137, i_198_138, i_198_140, i_198_142, i_198_145, i_198_146, i_198_147, i_198_148, i_198_151, i_198_152, i_198_155, i_198_156, i_198_157, i_198_158, i_198_161, i_198_162, i_198_165, i_198_166, i_198_169, i_198_171, i_198_173, i_198_174, i_198_175, i_198_176, i_198_177, i_198_178, i_198_179, i_198_180, i_198_183, i_198_186, g_o172, g_r172_1, g_r172_2, g_r172_4, g_r172_5, g_r172_6, g_r172_7, g_r172_8, g_r172_16, g_r172_18, g_r172_19, g_r172_20, g_r172_21, g_a173, g_t173, exists_eq_left', Option.some.injEq, exists_eq_left, ne_eq, List.length_nil, List.length_cons, Option.toList_some, Option.toList_none, List.cons_append, List.nil_append, mj_wt_nil, mj_wt_i, mj_wt_r, mj_wt_l, true_and, and_true, false_and, and_false, true_implies, false_implies, implies_true, not_true_eq_false, not_false_eq_true, and_self, Int.reduceEq, Nat.reduceEqDiff, ↓reduceIte, mj_w_id2, Int.toNat_natCast, v_st_ne, v_rd, v_up, v_up_ne, v_rg, v_rg2, v_th0, v_th1, v_th2, v_th3, v_th4, v_th5, v_th6, v_th7, v_tk0, v_tk1, v_tk2, v_tk3, v_tk4, v_tk5, v_tk6, v_tk7, v_tk8, v_tk9, v_tk10, v_tk11, v_rn0, v_rn1, v_rn2, v_rn3, v_rn4, v_rn5, v_rn6, v_rn7, v_rn8, v_rn9, v_rn10, v_rn11, v_ws0, v_ws1, v_ws2, v_ws3, v_ws4, v_ws5, v_ws6, v_gl0, v_gl1, v_gl2, v_gl3, v_gl4, v_gl5, v_gl6, v_gl7, v_gl8, v_gl9, v_ow, v_ow2, v_iw, v_tb, v_pg, r_173, c1, c2]
        try grind [mj_w]
      · unfold f_m198
        simp (disch := omega) only [i_198_0, i_198_1, i_198_3, i_198_5, i_198_8, i_198_9, i_198_10, i_198_11, i_198_14, i_198_15, i_198_18, i_198_19, i_198_20, i_198_21, i_198_24, i_198_25, i_198_28, i_198_29, i_198_30, i_198_33, i_198_36, i_198_40, i_198_43, i_198_46, i_198_48, i_198_49, i_198_50, i_198_51, i_198_52, i_198_53, i_198_54, i_198_55, i_198_56, i_198_59, i_198_62, i_198_64, i_198_65, i_198_66, i_198_68, i_198_71, i_198_72, i_198_73, i_198_74, i_198_75, i_198_77, i_198_80, i_198_81, i_198_82, i_198_83, i_198_84, i_198_85, i_198_86, i_198_89, i_198_90, i_198_91, i_198_92, i_198_95, i_198_96, i_198_99, i_198_100, i_198_101, i_198_102, i_198_103, i_198_104, i_198_105, i_198_108, i_198_109, i_198_110, i_198_113, i_198_114, i_198_117, i_198_120, i_198_122, i_198_123, i_198_124, i_198_125, i_198_126, i_198_127, i_198_128, i_198_129, i_198_130, i_198_131, i_198_132, i_198_135, i_198_136, i_198_137, i_198_138, i_198_140, i_198_142, i_198_145, i_198_146, i_198_147, i_198_148, i_198_151, i_198_152, i_198_155, i_198_156, i_198_157, i_198_158, i_198_161, i_198_162, i_198_165, i_198_166, i_198_169, i_198_171, i_198_173, i_198_174, i_198_175, i_198_176, i_198_177, i_198_178, i_198_179, i_198_180, i_198_183, i_198_186, g_o172, g_r172_1, g_r172_2, g_r172_4, g_r172_5, g_r172_6, g_r172_7, g_r172_8, g_r172_16, g_r172_18, g_r172_19, g_r172_20, g_r172_21, g_a173, g_t173, exists_eq_left', Option.some.injEq, exists_eq_left, ne_eq, List.length_nil, List.length_cons, Option.toList_some, Option.toList_none, List.cons_append, List.nil_append, mj_wt_nil, mj_wt_i, mj_wt_r, mj_wt_l, true_and, and_true, false_and, and_false, true_implies, false_implies, implies_true, not_true_eq_false, not_false_eq_true, and_self, Int.reduceEq, Nat.reduceEqDiff, ↓reduceIte, mj_w_id2, Int.toNat_natCast, v_st_ne, v_rd, v_up, v_up_ne, v_rg, v_rg2, v_th0, v_th1, v_th2, v_th3, v_th4, v_th5, v_th6, v_th7, v_tk0, v_tk1, v_tk2, v_tk3, v_tk4, v_tk5, v_tk6, v_tk7, v_tk8, v_tk9, v_tk10, v_tk11, v_rn0, v_rn1, v_rn2, v_rn3, v_rn4, v_rn5, v_rn6, v_rn7, v_rn8, v_rn9, v_rn10, v_rn11, v_ws0, v_ws1, v_ws2, v_ws3, v_ws4, v_ws5, v_ws6, v_gl0, v_gl1, v_gl2, v_gl3, v_gl4, v_gl5, v_gl6, v_gl7, v_gl8, v_gl9, v_ow, v_ow2, v_iw, v_tb, v_pg, r_173, c1, c2]
        try grind [mj_w]
    · unfold f_m198
      simp (disch := omega) only [i_198_0, i_198_1, i_198_3, i_198_5, i_198_8, i_198_9, i_198_10, i_198_11, i_198_14, i_198_15, i_198_18, i_198_19, i_198_20, i_198_21, i_198_24, i_198_25, i_198_28, i_198_29, i_198_30, i_198_33, i_198_36, i_198_40, i_198_43, i_198_46, i_198_48, i_198_49, i_198_50, i_198_51, i_198_52, i_198_53, i_198_54, i_198_55, i_198_56, i_198_59, i_198_62, i_198_64, i_198_65, i_198_66, i_198_68, i_198_71, i_198_72, i_198_73, i_198_74, i_198_75, i_198_77, i_198_80, i_198_81, i_198_82, i_198_83, i_198_84, i_198_85, i_198_86, i_198_89, i_198_90, i_198_91, i_198_92, i_198_95, i_198_96, i_198_99, i_198_100, i_198_101, i_198_102, i_198_103, i_198_104, i_198_105, i_198_108, i_198_109, i_198_110, i_198_113, i_198_114, i_198_117, i_198_120, i_198_122, i_198_123, i_198_124, i_198_125, i_198_126, i_198_127, i_198_128, i_198_129, i_198_130, i_198_131, i_198_132, i_198_135, i_198_136, i_198_137, i_198_138, i_198_140, i_198_142, i_198_145, i_198_146, i_198_147, i_198_148, i_198_151, i_198_152, i_198_155, i_198_156, i_198_157, i_198_158, i_198_161, i_198_162, i_198_165, i_198_166, i_198_169, i_198_171, i_198_173, i_198_174, i_198_175, i_198_176, i_198_177, i_198_178, i_198_179, i_198_180, i_198_183, i_198_186, g_o172, g_r172_1, g_r172_2, g_r172_4, g_r172_5, g_r172_6, g_r172_7, g_r172_8, g_r172_16, g_r172_18, g_r172_19, g_r172_20, g_r172_21, g_a173, g_t173, exists_eq_left', Option.some.injEq, exists_eq_left, ne_eq, List.length_nil, List.length_cons, Option.toList_some, Option.toList_none, List.cons_append, List.nil_append, mj_wt_nil, mj_wt_i, mj_wt_r, mj_wt_l, true_and, and_true, false_and, and_false, true_implies, false_implies, implies_true, not_true_eq_false, not_false_eq_true, and_self, Int.reduceEq, Nat.reduceEqDiff, ↓reduceIte, mj_w_id2, Int.toNat_natCast, v_st_ne, v_rd, v_up, v_up_ne, v_rg, v_rg2, v_th0, v_th1, v_th2, v_th3, v_th4, v_th5, v_th6, v_th7, v_tk0, v_tk1, v_tk2, v_tk3, v_tk4, v_tk5, v_tk6, v_tk7, v_tk8, v_tk9, v_tk10, v_tk11, v_rn0, v_rn1, v_rn2, v_rn3, v_rn4, v_rn5, v_rn6, v_rn7, v_rn8, v_rn9, v_rn10, v_rn11, v_ws0, v_ws1, v_ws2, v_ws3, v_ws4, v_ws5, v_ws6, v_gl0, v_gl1, v_gl2, v_gl3, v_gl4, v_gl5, v_gl6, v_gl7, v_gl8, v_gl9, v_ow, v_ow2, v_iw, v_tb, v_pg, r_173, c1]
      try grind [mj_w]
  · intro V hP
    rw [i_198_139]
    simp (disch := omega) only [i_198_0, i_198_1, i_198_3, i_198_5, i_198_8, i_198_9, i_198_10, i_198_11, i_198_14, i_198_15, i_198_18, i_198_19, i_198_20, i_198_21, i_198_24, i_198_25, i_198_28, i_198_29, i_198_30, i_198_33, i_198_36, i_198_40, i_198_43, i_198_46, i_198_48, i_198_49, i_198_50, i_198_51, i_198_52, i_198_53, i_198_54, i_198_55, i_198_56, i_198_59, i_198_62, i_198_64, i_198_65, i_198_66, i_198_68, i_198_71, i_198_72, i_198_73, i_198_74, i_198_75, i_198_77, i_198_80, i_198_81, i_198_82, i_198_83, i_198_84, i_198_85, i_198_86, i_198_89, i_198_90, i_198_91, i_198_92, i_198_95, i_198_96, i_198_99, i_198_100, i_198_101, i_198_102, i_198_103, i_198_104, i_198_105, i_198_108, i_198_109, i_198_110, i_198_113, i_198_114, i_198_117, i_198_120, i_198_122, i_198_123, i_198_124, i_198_125, i_198_126, i_198_127, i_198_128, i_198_129, i_198_130, i_198_131, i_198_132, i_198_135, i_198_136, i_198_137, i_198_138, i_198_140, i_198_142, i_198_145, i_198_146, i_198_147, i_198_148, i_198_151, i_198_152, i_198_155, i_198_156, i_198_157, i_198_158, i_198_161, i_198_162, i_198_165, i_198_166, i_198_169, i_198_171, i_198_173, i_198_174, i_198_175, i_198_176, i_198_177, i_198_178, i_198_179, i_198_180, i_198_183, i_198_186, g_o172, g_r172_1, g_r172_2, g_r172_4, g_r172_5, g_r172_6, g_r172_7, g_r172_8, g_r172_16, g_r172_18, g_r172_19, g_r172_20, g_r172_21, g_a173, g_t173, exists_eq_left', Option.some.injEq, exists_eq_left, ne_eq, List.length_nil, List.length_cons, Option.toList_some, Option.toList_none, List.cons_append, List.nil_append, mj_wt_nil, mj_wt_i, mj_wt_r, mj_wt_l, true_and, and_true, false_and, and_false, true_implies, false_implies, implies_true, not_true_eq_false, not_false_eq_true, and_self, Int.reduceEq, Nat.reduceEqDiff, ↓reduceIte, mj_w_id2, Int.toNat_natCast, v_st_ne, v_rd, v_up, v_up_ne, v_rg, v_rg2, v_th0, v_th1, v_th2, v_th3, v_th4, v_th5, v_th6, v_th7, v_tk0, v_tk1, v_tk2, v_tk3, v_tk4, v_tk5, v_tk6, v_tk7, v_tk8, v_tk9, v_tk10, v_tk11, v_rn0, v_rn1, v_rn2, v_rn3, v_rn4, v_rn5, v_rn6, v_rn7, v_rn8, v_rn9, v_rn10, v_rn11, v_ws0, v_ws1, v_ws2, v_ws3, v_ws4, v_ws5, v_ws6, v_gl0, v_gl1, v_gl2, v_gl3, v_gl4, v_gl5, v_gl6, v_gl7, v_gl8, v_gl9, v_ow, v_ow2, v_iw, v_tb, v_pg, r_173]
    try grind [mj_w]
theorem l_198b {t u : Int} {v : mj_V} (w : q_wr V) (ht : 0 ≤ t ∧ t < 120) : mj_Rn (d + 1) 198 39 [.inr (.inl 172), .inl t, .inl u, v] [] (SGx x) (v_st V M) Q = Q none (SGx x) (v_st (m_go2 V t) M) := by
  have wA : q_wr (mj_up V 212 t.toNat 0) := q_wr_up w (by simp [q_okv])
  have h8 := q_w8 (i := t.toNat) wA (by omega)
  have h9 := q_w9 (i := t.toNat) wA (by omega)
  have wB : q_wr (mj_up (mj_up V 212 t.toNat 0) 42 (10 * mj_up V 212 t.toNat 0 8 t.toNat + mj_up V 212 t.toNat 0 9 t.toNat).toNat (-1)) := q_wr_up wA (by simp [q_okv])
  have h7 := q_w7 (i := t.toNat) wB (by omega)
  unfold m_go2 m_go1
  simp only []
  generalize hA : mj_up V 212 t.toNat 0 = A at *
  generalize hB : mj_up A 42 (10 * A 8 t.toNat + A 9 t.toNat).toNat (-1) = B at *
  by_cases c1 : B 7 t.toNat = -1
  · have h := l_198c (d := d) (x := x) (M := M) (Q := Q) (t := t) (u := -1) 40 0 (mj_up B 1 8 (mj_w (B 1 8 + B 6 t.toNat))) rfl trivial
    push_cast at h
    simp (disch := omega) only [i_198_0, i_198_1, i_198_3, i_198_5, i_198_8, i_198_9, i_198_10, i_198_11, i_198_14, i_198_15, i_198_18, i_198_19, i_198_20, i_198_21, i_198_24, i_198_25, i_198_28, i_198_29, i_198_30, i_198_33, i_198_36, i_198_39, i_198_40, i_198_43, i_198_46, i_198_48, i_198_49, i_198_50, i_198_51, i_198_52, i_198_53, i_198_54, i_198_55, i_198_56, i_198_59, i_198_62, i_198_64, i_198_65, i_198_66, i_198_68, i_198_71, i_198_72, i_198_73, i_198_74, i_198_75, i_198_77, i_198_80, i_198_81, i_198_82, i_198_83, i_198_84, i_198_85, i_198_86, i_198_89, i_198_90, i_198_91, i_198_92, i_198_95, i_198_96, i_198_99, i_198_100, i_198_101, i_198_102, i_198_103, i_198_104, i_198_105, i_198_108, i_198_109, i_198_110, i_198_113, i_198_114, i_198_117, i_198_120, i_198_122, i_198_123, i_198_124, i_198_125, i_198_126, i_198_127, i_198_128, i_198_129, i_198_130, i_198_131, i_198_132, i_198_135, i_198_136, i_198_137, i_198_138, i_198_140, i_198_142, i_198_145, i_198_146, i_198_147, i_198_148, i_198_151, i_198_152, i_198_155, i_198_156, i_198_157, i_198_158, i_198_161, i_198_162, i_198_165, i_198_166, i_198_169, i_198_171, i_198_173, i_198_174, i_198_175, i_198_176, i_198_177, i_198_178, i_198_179, i_198_180, i_198_183, i_198_186, g_o172, g_r172_1, g_r172_2, g_r172_4, g_r172_5, g_r172_6, g_r172_7, g_r172_8, g_r172_16, g_r172_18, g_r172_19, g_r172_20, g_r172_21, g_a173, g_t173, exists_eq_left', Option.some.injEq, exists_eq_left, ne_eq, List.length_nil, List.length_cons, Option.toList_some, Option.toList_none, List.cons_append, List.nil_append, mj_wt_nil, mj_wt_i, mj_wt_r, mj_wt_l, true_and, and_true, false_and, and_false, true_implies, false_implies, implies_true, not_true_eq_false, not_false_eq_true, and_self, Int.reduceEq, Nat.reduceEqDiff, ↓reduceIte, mj_w_id2, Int.toNat_natCast, v_st_ne, v_rd, v_up, v_up_ne, v_rg, v_rg2, v_th0, v_th1, v_th2, v_th3, v_th4, v_th5, v_th6, v_th7, v_tk0, v_tk1, v_tk2, v_tk3, v_tk4, v_tk5, v_tk6, v_tk7, v_tk8, v_tk9, v_tk10, v_tk11, v_rn0, v_rn1, v_rn2, v_rn3, v_rn4, v_rn5, v_rn6, v_rn7, v_rn8, v_rn9, v_rn10, v_rn11, v_ws0, v_ws1, v_ws2, v_ws3, v_ws4, v_ws5, v_ws6, v_gl0, v_gl1, v_gl2, v_gl3, v_gl4, v_gl5, v_gl6, v_gl7, v_gl8, v_gl9, v_ow, v_ow2, v_iw, v_tb, v_pg, r_176, hA, hB, c1, h, if_true, if_false]
    try grind
  · have h71 : 0 ≤ B 7 t.toNat ∧ B 7 t.toNat < 120 := by omega
    have h := l_198c (d := d) (x := x) (M := M) (Q := Q) (t := t) (u := B 7 t.toNat) 40 0 (mj_up B 6 (B 7 t.toNat).toNat (mj_w (B 6 (B 7 t.toNat).toNat + B 6 t.toNat))) rfl trivial
    push_cast at h
    simp (disch := omega) only [i_198_0, i_198_1, i_198_3, i_198_5, i_198_8, i_198_9, i_198_10, i_198_11, i_198_14, i_198_15, i_198_18, i_198_19, i_198_20, i_198_21, i_198_24, i_198_25, i_198_28, i_198_29, i_198_30, i_198_33, i_198_36, i_198_39, i_198_40, i_198_43, i_198_46, i_198_48, i_198_49, i_198_50, i_198_51, i_198_52, i_198_53, i_198_54, i_198_55, i_198_56, i_198_59, i_198_62, i_198_64, i_198_65, i_198_66, i_198_68, i_198_71, i_198_72, i_198_73, i_198_74, i_198_75, i_198_77, i_198_80, i_198_81, i_198_82, i_198_83, i_198_84, i_198_85, i_198_86, i_198_89, i_198_90, i_198_91, i_198_92, i_198_95, i_198_96, i_198_99, i_198_100, i_198_101, i_198_102, i_198_103, i_198_104, i_198_105, i_198_108, i_198_109, i_198_110, i_198_113, i_198_114, i_198_117, i_198_120, i_198_122, i_198_123, i_198_124, i_198_125, i_198_126, i_198_127, i_198_128, i_198_129, i_198_130, i_198_131, i_198_132, i_198_135, i_198_136, i_198_137, i_198_138, i_198_140, i_198_142, i_198_145, i_198_146, i_198_147, i_198_148, i_198_151, i_198_152, i_198_155, i_198_156, i_198_157, i_198_158, i_198_161, i_198_162, i_198_165, i_198_166, i_198_169, i_198_171, i_198_173, i_198_174, i_198_175, i_198_176, i_198_177, i_198_178, i_198_179, i_198_180, i_198_183, i_198_186, g_o172, g_r172_1, g_r172_2, g_r172_4, g_r172_5, g_r172_6, g_r172_7, g_r172_8, g_r172_16, g_r172_18, g_r172_19, g_r172_20, g_r172_21, g_a173, g_t173, exists_eq_left', Option.some.injEq, exists_eq_left, ne_eq, List.length_nil, List.length_cons, Option.toList_some, Option.toList_none, List.cons_append, List.nil_append, mj_wt_nil, mj_wt_i, mj_wt_r, mj_wt_l, true_and, and_true, false_and, and_false, true_implies, false_implies, implies_true, not_true_eq_false, not_false_eq_true, and_self, Int.reduceEq, Nat.reduceEqDiff, ↓reduceIte, mj_w_id2, Int.toNat_natCast, v_st_ne, v_rd, v_up, v_up_ne, v_rg, v_rg2, v_th0, v_th1, v_th2, v_th3, v_th4, v_th5, v_th6, v_th7, v_tk0, v_tk1, v_tk2, v_tk3, v_tk4, v_tk5, v_tk6, v_tk7, v_tk8, v_tk9, v_tk10, v_tk11, v_rn0, v_rn1, v_rn2, v_rn3, v_rn4, v_rn5, v_rn6, v_rn7, v_rn8, v_rn9, v_rn10, v_rn11, v_ws0, v_ws1, v_ws2, v_ws3, v_ws4, v_ws5, v_ws6, v_gl0, v_gl1, v_gl2, v_gl3, v_gl4, v_gl5, v_gl6, v_gl7, v_gl8, v_gl9, v_ow, v_ow2, v_iw, v_tb, v_pg, r_176, hA, hB, c1, h, if_true, if_false]
    try grind
def m_goes : Nat → Int → mj_M → mj_M
  | 0, _, V => V
  | n + 1, t, V => m_go2 (q_for (fun k V => if V 212 k = 1 ∧ V 7 k = t then m_goes n (k : Int) V else V) 120 0 V) t
/-- lenders go up -/
def m_acy (ρ : Nat → Nat) (V : mj_M) : Prop := ∀ k : Nat, k < 120 → V 212 k ≠ 0 → V 7 k ≠ -1 → ρ k < ρ (V 7 k).toNat
/-- what goes of tokens: nothing comes -/
def m_less (V A : mj_M) : Prop := A 7 = V 7 ∧ ∀ k, A 212 k ≠ 0 → V 212 k ≠ 0
theorem m_less_r : m_less V V := ⟨rfl, fun _ h => h⟩
theorem m_less_t {A B : mj_M} (h : m_less V A) (k : m_less A B) : m_less V B := ⟨by rw [k.1, h.1], fun i hi => h.2 i (k.2 i hi)⟩
theorem m_acy_less {ρ : Nat → Nat} {A : mj_M} (h : m_acy ρ V) (k : m_less V A) : m_acy ρ A := by
  intro i hi h1 h2
  rw [k.1] at h2 ⊢
  exact h i hi (k.2 i h1) h2
theorem m_less_up {A : mj_M} {a i : Nat} {v : Int} (h : m_less V A) (h1 : a ≠ 7) (h2 : a ≠ 212 ∨ v = 0) : m_less V (mj_up A a i v) := by
  refine m_less_t h ⟨by rw [mj_up_ne (by omega)], ?_⟩
  intro k hk
  unfold mj_up at hk
  split at hk
  · rename_i h3
    subst h3
    split at hk
    · omega
    · exact hk
  · exact hk
theorem m_go2_less {t : Int} : m_less V (m_go2 V t) := by
  unfold m_go2
  have h1 : m_less V (m_go1 V t) := by
    unfold m_go1
    simp only []
    split
    · exact m_less_up (m_less_up (m_less_up m_less_r (by omega) (by omega)) (by omega) (by omega)) (by omega) (by omega)
    · exact m_less_up (m_less_up (m_less_up m_less_r (by omega) (by omega)) (by omega) (by omega)) (by omega) (by omega)
  refine q_for_inv (N := 40) (P := fun _ A => m_less V A) (fun y A _ h => ?_) 40 0 _ rfl h1
  unfold f_m198
  split
  · exact m_less_up h (by omega) (by omega)
  · exact h
theorem m_goes_less : ∀ (n : Nat) (t : Int) (V : mj_M), m_less V (m_goes n t V) := by
  intro n
  induction n with
  | zero => intro t V; exact m_less_r
  | succ n ih =>
    intro t V
    unfold m_goes
    refine m_less_t ?_ m_go2_less
    refine q_for_inv (N := 120) (P := fun _ A => m_less V A) (fun k A _ h => ?_) 120 0 V rfl m_less_r
    split
    · exact m_less_t h (ih _ _)
    · exact h
theorem m_goes_w : ∀ (n : Nat) (t : Int) (V : mj_M), q_wr V → q_wr (m_goes n t V) := by
  intro n
  induction n with
  | zero => intro t V w; exact w
  | succ n ih =>
    intro t V w
    unfold m_goes
    refine m_go2_w ?_
    refine q_for_inv (N := 120) (P := fun _ A => q_wr A) (fun k A _ h => ?_) 120 0 V rfl w
    split
    · exact ih _ _ h
    · exact h
theorem r_198 {ρ : Nat → Nat} (n : Nat) : ∀ (t : Int) (V : mj_M) (d : Nat) (Q : Option mj_V → mj_G → mj_M → Prop), q_wr V → m_acy ρ V → (0 ≤ t ∧ t < 120) → ρ t.toNat < n → mj_Rn (d + n + 1) 198 0 [.inr (.inl 172), .inl t, .inr (.inr 0), .inr (.inr 0)] [] (SGx x) (v_st V M) Q = Q none (SGx x) (v_st (m_goes n t V) M) := by
  induction n with
  | zero => intro t V d Q w ha ht hr; omega
  | succ n ih =>
    intro t V d Q w ha ht hr
    have loop : ∀ (m k : Nat) (V : mj_M), k + m = 120 → (q_wr V ∧ m_acy ρ V) → mj_Rn (d + (n + 1) + 1) 198 2 [.inr (.inl 172), .inl t, .inl (k : Int), .inr (.inr 0)] [] (SGx x) (v_st V M) Q = mj_Rn (d + (n + 1) + 1) 198 39 [.inr (.inl 172), .inl t, .inl 120, .inr (.inr 0)] [] (SGx x) (v_st (q_for (fun k V => if V 212 k = 1 ∧ V 7 k = t then m_goes n (k : Int) V else V) m k V) M) Q := by
      refine q_for_rule (N := 120) (F := fun k V => if V 212 k = 1 ∧ V 7 k = t then m_goes n (k : Int) V else V) (P := fun k V => q_wr V ∧ m_acy ρ V) (H := fun k V => mj_Rn (d + (n + 1) + 1) 198 2 [.inr (.inl 172), .inl t, .inl (k : Int), .inr (.inr 0)] [] (SGx x) (v_st V M) Q) (E := fun V => mj_Rn (d + (n + 1) + 1) 198 39 [.inr (.inl 172), .inl t, .inl 120, .inr (.inr 0)] [] (SGx x) (v_st V M) Q) ?_ ?_
      · intro k V hk hP
        obtain ⟨w, ha⟩ := hP
        have h1t : ((k + 1 : Nat) : Int) = (k : Int) + 1 := by push_cast; rfl
        simp only [h1t]
        by_cases c1 : V 212 k = 1
        · by_cases c2 : V 7 k = t
          · have hk2 := ha k hk (by omega) (by omega)
            rw [c2] at hk2
            rw [if_pos ⟨c1, c2⟩]
            have hr2 : ∀ Q, mj_Rn (d + (n + 1)) 198 0 [.inr (.inl 172), .inl (k : Int), .inr (.inr 0), .inr (.inr 0)] [] (SGx x) (v_st V M) Q = Q none (SGx x) (v_st (m_goes n (k : Int) V) M) := fun Q => ih (k : Int) V d Q w ha (by omega) (by simp only [Int.toNat_natCast]; omega)
            refine ⟨⟨m_goes_w _ _ _ w, m_acy_less ha (m_goes_less _ _ _)⟩, ?_⟩
            rw [i_198_2]
            simp (disch := omega) only [i_198_3, i_198_5, i_198_8, i_198_9, i_198_10, i_198_11, i_198_14, i_198_15, i_198_18, i_198_19, i_198_20, i_198_21, i_198_24, i_198_25, i_198_28, i_198_29, i_198_30, i_198_33, i_198_36, i_198_40, i_198_43, i_198_46, i_198_48, i_198_49, i_198_50, i_198_51, i_198_52, i_198_53, i_198_54, i_198_55, i_198_56, i_198_59, i_198_62, i_198_64, i_198_65, i_198_66, i_198_68, i_198_71, i_198_72, i_198_73, i_198_74, i_198_75, i_198_77, i_198_80, i_198_81, i_198_82, i_198_83, i_198_84, i_198_85, i_198_86, i_198_89, i_198_90, i_198_91, i_198_92, i_198_95, i_198_96, i_198_99, i_198_100, i_198_101, i_198_102, i_198_103, i_198_104, i_198_105, i_198_108, i_198_109, i_198_110, i_198_113, i_198_114, i_198_117, i_198_120, i_198_122, i_198_123, i_198_124, i_198_125, i_198_126, i_198_127, i_198_128, i_198_129, i_198_130, i_198_131, i_198_132, i_198_135, i_198_136, i_198_137, i_198_138, i_198_140, i_198_142, i_198_145, i_198_146, i_198_147, i_198_148, i_198_151, i_198_152, i_198_155, i_198_156, i_198_157, i_198_158, i_198_161, i_198_162, i_198_165, i_198_166, i_198_169, i_198_171, i_198_173, i_198_174, i_198_175, i_198_176, i_198_177, i_198_178, i_198_179, i_198_180, i_198_183, i_198_186, g_o172, g_r172_1, g_r172_2, g_r172_4, g_r172_5, g_r172_6, g_r172_7, g_r172_8, g_r172_16, g_r172_18, g_r172_19, g_r172_20, g_r172_21, g_a173, g_t173, exists_eq_left', Option.some.injEq, exists_eq_left, ne_eq, List.length_nil, List.length_cons, Option.toList_some, Option.toList_none, List.cons_append, List.nil_append, mj_wt_nil, mj_wt_i, mj_wt_r, mj_wt_l, true_and, and_true, false_and, and_false, true_implies, false_implies, implies_true, not_true_eq_false, not_false_eq_true, and_self, Int.reduceEq, Nat.reduceEqDiff, ↓reduceIte, mj_w_id2, Int.toNat_natCast, v_st_ne, v_rd, v_up, v_up_ne, v_rg, v_rg2, v_th0, v_th1, v_th2, v_th3, v_th4, v_th5, v_th6, v_th7, v_tk0, v_tk1, v_tk2, v_tk3, v_tk4, v_tk5, v_tk6, v_tk7, v_tk8, v_tk9, v_tk10, v_tk11, v_rn0, v_rn1, v_rn2, v_rn3, v_rn4, v_rn5, v_rn6, v_rn7, v_rn8, v_rn9, v_rn10, v_rn11, v_ws0, v_ws1, v_ws2, v_ws3, v_ws4, v_ws5, v_ws6, v_gl0, v_gl1, v_gl2, v_gl3, v_gl4, v_gl5, v_gl6, v_gl7, v_gl8, v_gl9, v_ow, v_ow2, v_iw, v_tb, v_pg, r_176, hr2, c1, c2, if_true, if_false]
            try grind [mj_w]
          · rw [if_neg (by omega)]
            refine ⟨⟨w, ha⟩, ?_⟩
            rw [i_198_2]
            simp (disch := omega) only [i_198_3, i_198_5, i_198_8, i_198_9, i_198_10, i_198_11, i_198_14, i_198_15, i_198_18, i_198_19, i_198_20, i_198_21, i_198_24, i_198_25, i_198_28, i_198_29, i_198_30, i_198_33, i_198_36, i_198_40, i_198_43, i_198_46, i_198_48, i_198_49, i_198_50, i_198_51, i_198_52, i_198_53, i_198_54, i_198_55, i_198_56, i_198_59, i_198_62, i_198_64, i_198_65, i_198_66, i_198_68, i_198_71, i_198_72, i_198_73, i_198_74, i_198_75, i_198_77, i_198_80, i_198_81, i_198_82, i_198_83, i_198_84, i_198_85, i_198_86, i_198_89, i_198_90, i_198_91, i_198_92, i_198_95, i_198_96, i_198_99, i_198_100, i_198_101, i_198_102, i_198_103, i_198_104, i_198_105, i_198_108, i_198_109, i_198_110, i_198_113, i_198_114, i_198_117, i_198_120, i_198_122, i_198_123, i_198_124, i_198_125, i_198_126, i_198_127, i_198_128, i_198_129, i_198_130, i_198_131, i_198_132, i_198_135, i_198_136, i_198_137, i_198_138, i_198_140, i_198_142, i_198_145, i_198_146, i_198_147, i_198_148, i_198_151, i_198_152, i_198_155, i_198_156, i_198_157, i_198_158, i_198_161, i_198_162, i_198_165, i_198_166, i_198_169, i_198_171, i_198_173, i_198_174, i_198_175, i_198_176, i_198_177, i_198_178, i_198_179, i_198_180, i_198_183, i_198_186, g_o172, g_r172_1, g_r172_2, g_r172_4, g_r172_5, g_r172_6, g_r172_7, g_r172_8, g_r172_16, g_r172_18, g_r172_19, g_r172_20, g_r172_21, g_a173, g_t173, exists_eq_left', Option.some.injEq, exists_eq_left, ne_eq, List.length_nil, List.length_cons, Option.toList_some, Option.toList_none, List.cons_append, List.nil_append, mj_wt_nil, mj_wt_i, mj_wt_r, mj_wt_l, true_and, and_true, false_and, and_false, true_implies, false_implies, implies_true, not_true_eq_false, not_false_eq_true, and_self, Int.reduceEq, Nat.reduceEqDiff, ↓reduceIte, mj_w_id2, Int.toNat_natCast, v_st_ne, v_rd, v_up, v_up_ne, v_rg, v_rg2, v_th0, v_th1, v_th2, v_th3, v_th4, v_th5, v_th6, v_th7, v_tk0, v_tk1, v_tk2, v_tk3, v_tk4, v_tk5, v_tk6, v_tk7, v_tk8, v_tk9, v_tk10, v_tk11, v_rn0, v_rn1, v_rn2, v_rn3, v_rn4, v_rn5, v_rn6, v_rn7, v_rn8, v_rn9, v_rn10, v_rn11, v_ws0, v_ws1, v_ws2, v_ws3, v_ws4, v_ws5, v_ws6, v_gl0, v_gl1, v_gl2, v_gl3, v_gl4, v_gl5, v_gl6, v_gl7, v_gl8, v_gl9, v_ow, v_ow2, v_iw, v_tb, v_pg, r_176, c1, c2, if_true, if_false]
            try grind [mj_w]
        · rw [if_neg (by omega)]
          refine ⟨⟨w, ha⟩, ?_⟩
          rw [i_198_2]
          simp (disch := omega) only [i_198_3, i_198_5, i_198_8, i_198_9, i_198_10, i_198_11, i_198_14, i_198_15, i_198_18, i_198_19, i_198_20, i_198_21, i_198_24, i_198_25, i_198_28, i_198_29, i_198_30, i_198_33, i_198_36, i_198_40, i_198_43, i_198_46, i_198_48, i_198_49, i_198_50, i_198_51, i_198_52, i_198_53, i_198_54, i_198_55, i_198_56, i_198_59, i_198_62, i_198_64, i_198_65, i_198_66, i_198_68, i_198_71, i_198_72, i_198_73, i_198_74, i_198_75, i_198_77, i_198_80, i_198_81, i_198_82, i_198_83, i_198_84, i_198_85, i_198_86, i_198_89, i_198_90, i_198_91, i_198_92, i_198_95, i_198_96, i_198_99, i_198_100, i_198_101, i_198_102, i_198_103, i_198_104, i_198_105, i_198_108, i_198_109, i_198_110, i_198_113, i_198_114, i_198_117, i_198_120, i_198_122, i_198_123, i_198_124, i_198_125, i_198_126, i_198_127, i_198_128, i_198_129, i_198_130, i_198_131, i_198_132, i_198_135, i_198_136, i_198_137, i_198_138, i_198_140, i_198_142, i_198_145, i_198_146, i_198_147, i_198_148, i_198_151, i_198_152, i_198_155, i_198_156, i_198_157, i_198_158, i_198_161, i_198_162, i_198_165, i_198_166, i_198_169, i_198_171, i_198_173, i_198_174, i_198_175, i_198_176, i_198_177, i_198_178, i_198_179, i_198_180, i_198_183, i_198_186, g_o172, g_r172_1, g_r172_2, g_r172_4, g_r172_5, g_r172_6, g_r172_7, g_r172_8, g_r172_16, g_r172_18, g_r172_19, g_r172_20, g_r172_21, g_a173, g_t173, exists_eq_left', Option.some.injEq, exists_eq_left, ne_eq, List.length_nil, List.length_cons, Option.toList_some, Option.toList_none, List.cons_append, List.nil_append, mj_wt_nil, mj_wt_i, mj_wt_r, mj_wt_l, true_and, and_true, false_and, and_false, true_implies, false_implies, implies_true, not_true_eq_false, not_false_eq_true, and_self, Int.reduceEq, Nat.reduceEqDiff, ↓reduceIte, mj_w_id2, Int.toNat_natCast, v_st_ne, v_rd, v_up, v_up_ne, v_rg, v_rg2, v_th0, v_th1, v_th2, v_th3, v_th4, v_th5, v_th6, v_th7, v_tk0, v_tk1, v_tk2, v_tk3, v_tk4, v_tk5, v_tk6, v_tk7, v_tk8, v_tk9, v_tk10, v_tk11, v_rn0, v_rn1, v_rn2, v_rn3, v_rn4, v_rn5, v_rn6, v_rn7, v_rn8, v_rn9, v_rn10, v_rn11, v_ws0, v_ws1, v_ws2, v_ws3, v_ws4, v_ws5, v_ws6, v_gl0, v_gl1, v_gl2, v_gl3, v_gl4, v_gl5, v_gl6, v_gl7, v_gl8, v_gl9, v_ow, v_ow2, v_iw, v_tb, v_pg, r_176, c1, if_true, if_false]
          try grind [mj_w]
      · intro V hP
        rw [i_198_2]
        simp (disch := omega) only [i_198_3, i_198_5, i_198_8, i_198_9, i_198_10, i_198_11, i_198_14, i_198_15, i_198_18, i_198_19, i_198_20, i_198_21, i_198_24, i_198_25, i_198_28, i_198_29, i_198_30, i_198_33, i_198_36, i_198_40, i_198_43, i_198_46, i_198_48, i_198_49, i_198_50, i_198_51, i_198_52, i_198_53, i_198_54, i_198_55, i_198_56, i_198_59, i_198_62, i_198_64, i_198_65, i_198_66, i_198_68, i_198_71, i_198_72, i_198_73, i_198_74, i_198_75, i_198_77, i_198_80, i_198_81, i_198_82, i_198_83, i_198_84, i_198_85, i_198_86, i_198_89, i_198_90, i_198_91, i_198_92, i_198_95, i_198_96, i_198_99, i_198_100, i_198_101, i_198_102, i_198_103, i_198_104, i_198_105, i_198_108, i_198_109, i_198_110, i_198_113, i_198_114, i_198_117, i_198_120, i_198_122, i_198_123, i_198_124, i_198_125, i_198_126, i_198_127, i_198_128, i_198_129, i_198_130, i_198_131, i_198_132, i_198_135, i_198_136, i_198_137, i_198_138, i_198_140, i_198_142, i_198_145, i_198_146, i_198_147, i_198_148, i_198_151, i_198_152, i_198_155, i_198_156, i_198_157, i_198_158, i_198_161, i_198_162, i_198_165, i_198_166, i_198_169, i_198_171, i_198_173, i_198_174, i_198_175, i_198_176, i_198_177, i_198_178, i_198_179, i_198_180, i_198_183, i_198_186, g_o172, g_r172_1, g_r172_2, g_r172_4, g_r172_5, g_r172_6, g_r172_7, g_r172_8, g_r172_16, g_r172_18, g_r172_19, g_r172_20, g_r172_21, g_a173, g_t173, exists_eq_left', Option.some.injEq, exists_eq_left, ne_eq, List.length_nil, List.length_cons, Option.toList_some, Option.toList_none, List.cons_append, List.nil_append, mj_wt_nil, mj_wt_i, mj_wt_r, mj_wt_l, true_and, and_true, false_and, and_false, true_implies, false_implies, implies_true, not_true_eq_false, not_false_eq_true, and_self, Int.reduceEq, Nat.reduceEqDiff, ↓reduceIte, mj_w_id2, Int.toNat_natCast, v_st_ne, v_rd, v_up, v_up_ne, v_rg, v_rg2, v_th0, v_th1, v_th2, v_th3, v_th4, v_th5, v_th6, v_th7, v_tk0, v_tk1, v_tk2, v_tk3, v_tk4, v_tk5, v_tk6, v_tk7, v_tk8, v_tk9, v_tk10, v_tk11, v_rn0, v_rn1, v_rn2, v_rn3, v_rn4, v_rn5, v_rn6, v_rn7, v_rn8, v_rn9, v_rn10, v_rn11, v_ws0, v_ws1, v_ws2, v_ws3, v_ws4, v_ws5, v_ws6, v_gl0, v_gl1, v_gl2, v_gl3, v_gl4, v_gl5, v_gl6, v_gl7, v_gl8, v_gl9, v_ow, v_ow2, v_iw, v_tb, v_pg, r_176, if_true, if_false]
        try grind [mj_w]
    have h1 := loop 120 0 V rfl ⟨w, ha⟩
    have w2 : q_wr (q_for (fun k V => if V 212 k = 1 ∧ V 7 k = t then m_goes n (k : Int) V else V) 120 0 V) := by
      refine q_for_inv (N := 120) (P := fun _ A => q_wr A) (fun k A _ h => ?_) 120 0 V rfl w
      split
      · exact m_goes_w _ _ _ h
      · exact h
    have h2 := l_198b (d := d + n + 1) (x := x) (M := M) (Q := Q) (t := t) (u := 120) (v := .inr (.inr 0)) w2 ht
    rw [m_goes, ← h2, i_198_0, i_198_1]
    exact h1
end sp83
