section sp94
variable {x : Nat} {M V : mj_M} {Q : Option mj_V → mj_G → mj_M → Prop} {d : Nat}
/-- what a tick wants of a state, behind what goes in pieces -/
def m_hy (V : mj_M) : Prop := m_ok V ∧ m_tt V ∧ q_few V 99999999 ∧ m_sok V ∧ (∀ r : Nat, (r : Int) < V 22 13 → V 30 r ≠ -1 → V 28 (V 30 r).toNat ≠ -1) ∧ (∀ r : Nat, (r : Int) < V 22 13 → V 29 r ≠ -1 → V 29 r < V 22 13)
def m_tkB (A : mj_M) (r : Int) : mj_M := mj_up A 1 10 r
def m_tkC (B : mj_M) (r : Int) : mj_M := if m_doY B r = 1 then m_fa (m_doM B r) r else if m_doY B r = 0 then mj_up (m_doM B r) 25 r.toNat (mj_w (m_doM B r 25 r.toNat + 1)) else m_doM B r
def m_tkR (V : mj_M) (rl : Int) : Int := m_chS (m_pc V) rl
def m_tkM (V : mj_M) (rl : Int) : mj_M := let A := if m_tkR V rl = -1 then m_pc V else m_tkC (m_tkB (m_pc V) (m_tkR V rl)) (m_tkR V rl)
  mj_up A 1 7 (mj_w (A 1 7 + 1))
def m_tkN (M V : mj_M) (rl : Int) : mj_M := if m_tkR V rl = -1 then M else m_doN M (m_tkB (m_pc V) (m_tkR V rl)) (m_tkR V rl)
theorem m_tkB_hy {r : Int} (h : m_hy V) (hr : 0 ≤ r ∧ r < 8) : m_hy (m_tkB V r) := by
  obtain ⟨h1, h2, h3, h4, h5, h6⟩ := h
  have o : ∀ a : Nat, a ≠ 1 → m_tkB V r a = V a := fun a ha => mj_up_ne ha
  refine ⟨m_ok_same h1 (q_wr_up h1.1 (by simp [q_okv]; omega)) (o 7 (by omega)) (o 212 (by omega)), ?_, ?_, ?_, ?_, ?_⟩
  · intro i hi; rw [o 42 (by omega), o 212 (by omega)]; exact h2 i hi
  · unfold q_few; rw [o 17 (by omega)]; exact h3
  · obtain ⟨σ, k1, k2⟩ := h4
    exact ⟨σ, k1, by rw [o 24 (by omega), o 29 (by omega)]; exact k2⟩
  · rw [o 30 (by omega), o 28 (by omega), o 22 (by omega)]; exact h5
  · rw [o 29 (by omega), o 22 (by omega)]; exact h6
theorem m_tkC_ok {r : Int} (h : m_hy V) (hr : 0 ≤ r ∧ r < 8) : m_ok (m_tkC V r) := by
  have h2 := m_doM_ok h.1 h.2.1 h.2.2.1 hr
  unfold m_tkC
  split
  · exact m_fa_ok h2
  · split
    · exact m_ok_same h2 (q_wr_up h2.1 (by simp [q_okv])) (mj_up_ne (by omega)) (mj_up_ne (by omega))
    · exact h2
theorem m_sv_rt (w : q_wr V) (h6 : ∀ r : Nat, (r : Int) < V 22 13 → V 29 r ≠ -1 → V 29 r < V 22 13) : ∀ (n : Nat) (r : Int), 0 ≤ r ∧ r < V 22 13 → m_sv V n r < V 22 13 := by
  have hs := q_w22_13 w
  intro n
  induction n with
  | zero => intro r hr; exact hr.2
  | succ n ih =>
    intro r hr
    have h29 := q_w29 (i := r.toNat) w (by omega)
    have g := h6 r.toNat (by omega)
    unfold m_sv
    split
    · rename_i q
      exact ih _ ⟨by omega, g q.2⟩
    · exact hr.2
theorem m_chS_rt {rl : Int} (w : q_wr V) (h6 : ∀ r : Nat, (r : Int) < V 22 13 → V 29 r ≠ -1 → V 29 r < V 22 13) : m_chS V rl = -1 ∨ m_chS V rl < V 22 13 := by
  unfold m_chS
  split
  · rcases q_chF_in w with q | q
    · exact Or.inl q
    · exact Or.inr q.2.1
  · unfold m_chR
    split
    · exact Or.inl rfl
    · split
      · exact Or.inl rfl
      · rename_i h1 h2
        have h3 : 0 ≤ V 43 (V 1 7 % V 1 6).toNat ∧ V 43 (V 1 7 % V 1 6).toNat < V 22 13 := by
          unfold m_rt at h2
          split at h2
          · omega
          · exact absurd rfl h2
        split
        · exact Or.inr (m_sv_rt w h6 8 _ h3)
        · exact Or.inl rfl
theorem r_218 {rl : Int} (h : m_ok V) (hy : m_hy (m_pc V)) : mj_Rn (d + 128) 218 0 [.inr (.inl 172), .inl rl, .inr (.inr 0), .inr (.inr 0)] [] (SGx x) (v_st V M) Q = Q (some (.inl (m_tkR V rl))) (SGx x) (v_st (m_tkM V rl) (m_tkN M V rl)) := by
  have wA := hy.1.1
  have hin := m_chS_in (rl := rl) wA
  have hin6 := m_chS_rt (rl := rl) wA hy.2.2.2.2.2
  have e1 : m_chS (m_pc V) rl = m_tkR V rl := rfl
  have hk := hy.2.2.2.1
  unfold m_tkM m_tkN
  rw [e1] at hin hin6
  generalize hA : m_pc V = A at *
  generalize hR : m_tkR V rl = r at *
  by_cases c1 : r = -1
  · simp (disch := omega) only [i_218_0, i_218_1, i_218_4, i_218_5, i_218_6, i_218_9, i_218_10, i_218_11, i_218_12, i_218_15, i_218_16, i_218_19, i_218_20, i_218_21, i_218_22, i_218_23, i_218_24, i_218_27, i_218_28, i_218_29, i_218_30, i_218_33, i_218_34, i_218_35, i_218_38, i_218_39, i_218_42, i_218_43, i_218_46, i_218_49, i_218_52, i_218_53, i_218_54, i_218_55, i_218_56, i_218_57, i_218_58, i_218_59, i_218_60, i_218_61, i_218_62, i_218_63, i_218_66, i_218_67, i_218_68, i_218_69, i_218_70, i_218_71, i_218_72, i_218_73, g_o172, g_r172_1, g_r172_2, g_r172_4, g_r172_5, g_r172_6, g_r172_7, g_r172_8, g_r172_16, g_r172_18, g_r172_19, g_r172_20, g_r172_21, g_a173, g_t173, exists_eq_left', Option.some.injEq, exists_eq_left, ne_eq, List.length_nil, List.length_cons, Option.toList_some, Option.toList_none, List.cons_append, List.nil_append, mj_wt_nil, mj_wt_i, mj_wt_r, mj_wt_l, true_and, and_true, false_and, and_false, true_implies, false_implies, implies_true, not_true_eq_false, not_false_eq_true, and_self, Int.reduceEq, Nat.reduceEqDiff, ↓reduceIte, mj_w_id2, Int.toNat_natCast, v_st_ne, v_rd, v_up, v_up_ne, v_rg, v_rg2, v_th0, v_th1, v_th2, v_th3, v_th4, v_th5, v_th6, v_th7, v_tk0, v_tk1, v_tk2, v_tk3, v_tk4, v_tk5, v_tk6, v_tk7, v_tk8, v_tk9, v_tk10, v_tk11, v_rn0, v_rn1, v_rn2, v_rn3, v_rn4, v_rn5, v_rn6, v_rn7, v_rn8, v_rn9, v_rn10, v_rn11, v_ws0, v_ws1, v_ws2, v_ws3, v_ws4, v_ws5, v_ws6, v_gl0, v_gl1, v_gl2, v_gl3, v_gl4, v_gl5, v_gl6, v_gl7, v_gl8, v_gl9, v_ow, v_ow2, v_iw, v_tb, v_pg, r_219 h, hA, r_220 wA hk, e1, c1, if_true, if_false]
    try grind
  · have hr : 0 ≤ r ∧ r < 8 := by omega
    have hB := m_tkB_hy hy hr
    have e2 : mj_up A 1 10 r = m_tkB A r := rfl
    have hg := hB.2.2.2.2.1 r.toNat (by rw [show m_tkB A r 22 = A 22 from mj_up_ne (by omega)]; omega)
    have h222 : ∀ (d : Nat) (M : mj_M) (Q : Option mj_V → mj_G → mj_M → Prop), mj_Rn (d + 127) 222 0 [.inr (.inl 172), .inl r, .inr (.inr 0), .inr (.inr 0), .inr (.inr 0), .inr (.inr 0), .inr (.inr 0), .inr (.inr 0), .inr (.inr 0), .inr (.inr 0)] [] (SGx x) (v_st (m_tkB A r) M) Q = Q (some (.inl (m_doY (m_tkB A r) r))) (SGx x) (v_st (m_doM (m_tkB A r) r) (m_doN M (m_tkB A r) r)) := fun d M Q => r_222 hB.1 hB.2.1 hB.2.2.1 hr hg
    have wD := (m_doM_ok hB.1 hB.2.1 hB.2.2.1 hr).1
    unfold m_tkC
    generalize hB2 : m_tkB A r = B at *
    by_cases c2 : m_doY B r = 1
    · simp (disch := omega) only [i_218_0, i_218_1, i_218_4, i_218_5, i_218_6, i_218_9, i_218_10, i_218_11, i_218_12, i_218_15, i_218_16, i_218_19, i_218_20, i_218_21, i_218_22, i_218_23, i_218_24, i_218_27, i_218_28, i_218_29, i_218_30, i_218_33, i_218_34, i_218_35, i_218_38, i_218_39, i_218_42, i_218_43, i_218_46, i_218_49, i_218_52, i_218_53, i_218_54, i_218_55, i_218_56, i_218_57, i_218_58, i_218_59, i_218_60, i_218_61, i_218_62, i_218_63, i_218_66, i_218_67, i_218_68, i_218_69, i_218_70, i_218_71, i_218_72, i_218_73, g_o172, g_r172_1, g_r172_2, g_r172_4, g_r172_5, g_r172_6, g_r172_7, g_r172_8, g_r172_16, g_r172_18, g_r172_19, g_r172_20, g_r172_21, g_a173, g_t173, exists_eq_left', Option.some.injEq, exists_eq_left, ne_eq, List.length_nil, List.length_cons, Option.toList_some, Option.toList_none, List.cons_append, List.nil_append, mj_wt_nil, mj_wt_i, mj_wt_r, mj_wt_l, true_and, and_true, false_and, and_false, true_implies, false_implies, implies_true, not_true_eq_false, not_false_eq_true, and_self, Int.reduceEq, Nat.reduceEqDiff, ↓reduceIte, mj_w_id2, Int.toNat_natCast, v_st_ne, v_rd, v_up, v_up_ne, v_rg, v_rg2, v_th0, v_th1, v_th2, v_th3, v_th4, v_th5, v_th6, v_th7, v_tk0, v_tk1, v_tk2, v_tk3, v_tk4, v_tk5, v_tk6, v_tk7, v_tk8, v_tk9, v_tk10, v_tk11, v_rn0, v_rn1, v_rn2, v_rn3, v_rn4, v_rn5, v_rn6, v_rn7, v_rn8, v_rn9, v_rn10, v_rn11, v_ws0, v_ws1, v_ws2, v_ws3, v_ws4, v_ws5, v_ws6, v_gl0, v_gl1, v_gl2, v_gl3, v_gl4, v_gl5, v_gl6, v_gl7, v_gl8, v_gl9, v_ow, v_ow2, v_iw, v_tb, v_pg, r_219 h, hA, r_220 wA hk, e1, c1, e2, h222, c2, r_230 wD hr, if_true, if_false]
      try grind
    · by_cases c3 : m_doY B r = 0
      · simp (disch := omega) only [i_218_0, i_218_1, i_218_4, i_218_5, i_218_6, i_218_9, i_218_10, i_218_11, i_218_12, i_218_15, i_218_16, i_218_19, i_218_20, i_218_21, i_218_22, i_218_23, i_218_24, i_218_27, i_218_28, i_218_29, i_218_30, i_218_33, i_218_34, i_218_35, i_218_38, i_218_39, i_218_42, i_218_43, i_218_46, i_218_49, i_218_52, i_218_53, i_218_54, i_218_55, i_218_56, i_218_57, i_218_58, i_218_59, i_218_60, i_218_61, i_218_62, i_218_63, i_218_66, i_218_67, i_218_68, i_218_69, i_218_70, i_218_71, i_218_72, i_218_73, g_o172, g_r172_1, g_r172_2, g_r172_4, g_r172_5, g_r172_6, g_r172_7, g_r172_8, g_r172_16, g_r172_18, g_r172_19, g_r172_20, g_r172_21, g_a173, g_t173, exists_eq_left', Option.some.injEq, exists_eq_left, ne_eq, List.length_nil, List.length_cons, Option.toList_some, Option.toList_none, List.cons_append, List.nil_append, mj_wt_nil, mj_wt_i, mj_wt_r, mj_wt_l, true_and, and_true, false_and, and_false, true_implies, false_implies, implies_true, not_true_eq_false, not_false_eq_true, and_self, Int.reduceEq, Nat.reduceEqDiff, ↓reduceIte, mj_w_id2, Int.toNat_natCast, v_st_ne, v_rd, v_up, v_up_ne, v_rg, v_rg2, v_th0, v_th1, v_th2, v_th3, v_th4, v_th5, v_th6, v_th7, v_tk0, v_tk1, v_tk2, v_tk3, v_tk4, v_tk5, v_tk6, v_tk7, v_tk8, v_tk9, v_tk10, v_tk11, v_rn0, v_rn1, v_rn2, v_rn3, v_rn4, v_rn5, v_rn6, v_rn7, v_rn8, v_rn9, v_rn10, v_rn11, v_ws0, v_ws1, v_ws2, v_ws3, v_ws4, v_ws5, v_ws6, v_gl0, v_gl1, v_gl2, v_gl3, v_gl4, v_gl5, v_gl6, v_gl7, v_gl8, v_gl9, v_ow, v_ow2, v_iw, v_tb, v_pg, r_219 h, hA, r_220 wA hk, e1, c1, e2, h222, c2, c3, r_230 wD hr, if_true, if_false]
        try grind
      · simp (disch := omega) only [i_218_0, i_218_1, i_218_4, i_218_5, i_218_6, i_218_9, i_218_10, i_218_11, i_218_12, i_218_15, i_218_16, i_218_19, i_218_20, i_218_21, i_218_22, i_218_23, i_218_24, i_218_27, i_218_28, i_218_29, i_218_30, i_218_33, i_218_34, i_218_35, i_218_38, i_218_39, i_218_42, i_218_43, i_218_46, i_218_49, i_218_52, i_218_53, i_218_54, i_218_55, i_218_56, i_218_57, i_218_58, i_218_59, i_218_60, i_218_61, i_218_62, i_218_63, i_218_66, i_218_67, i_218_68, i_218_69, i_218_70, i_218_71, i_218_72, i_218_73, g_o172, g_r172_1, g_r172_2, g_r172_4, g_r172_5, g_r172_6, g_r172_7, g_r172_8, g_r172_16, g_r172_18, g_r172_19, g_r172_20, g_r172_21, g_a173, g_t173, exists_eq_left', Option.some.injEq, exists_eq_left, ne_eq, List.length_nil, List.length_cons, Option.toList_some, Option.toList_none, List.cons_append, List.nil_append, mj_wt_nil, mj_wt_i, mj_wt_r, mj_wt_l, true_and, and_true, false_and, and_false, true_implies, false_implies, implies_true, not_true_eq_false, not_false_eq_true, and_self, Int.reduceEq, Nat.reduceEqDiff, ↓reduceIte, mj_w_id2, Int.toNat_natCast, v_st_ne, v_rd, v_up, v_up_ne, v_rg, v_rg2, v_th0, v_th1, v_th2, v_th3, v_th4, v_th5, v_th6, v_th7, v_tk0, v_tk1, v_tk2, v_tk3, v_tk4, v_tk5, v_tk6, v_tk7, v_tk8, v_tk9, v_tk10, v_tk11, v_rn0, v_rn1, v_rn2, v_rn3, v_rn4, v_rn5, v_rn6, v_rn7, v_rn8, v_rn9, v_rn10, v_rn11, v_ws0, v_ws1, v_ws2, v_ws3, v_ws4, v_ws5, v_ws6, v_gl0, v_gl1, v_gl2, v_gl3, v_gl4, v_gl5, v_gl6, v_gl7, v_gl8, v_gl9, v_ow, v_ow2, v_iw, v_tb, v_pg, r_219 h, hA, r_220 wA hk, e1, c1, e2, h222, c2, c3, r_230 wD hr, if_true, if_false]
        try grind
end sp94
