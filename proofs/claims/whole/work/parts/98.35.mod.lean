section sp98t
variable {x : Nat} {M V : mj_M} {Q : Option mj_V → mj_G → mj_M → Prop} {d : Nat}
/-- the text's fault alone -/
theorem r_267f (h : 0 ≤ M 172 9 ∧ M 172 9 ≤ 160) (c1 : ¬ m_x1 M 172 11 = 0) : mj_Rn (d + 20) 267 0 [.inr (.inl 172), .inr (.inr 0), .inr (.inr 0)] [] (SGx x) (v_st V M) Q = Q (some (.inl (-10 - m_x1 M 172 10))) (SGx x) (v_st V (m_x1 M)) := by
  have t1 : m_tx (m_x1 M) := m_gtM_tx _ _ (m_t0_tx h)
  have h4 := t1.2.2
  have h2 := t1.1
  have h3 := t1.2.1
  have hf := r_268f (d := d + 6) (x := x) (V := V) (M := M) (Q := fun r G' M' => mj_Rn (d + 20) 267 5 [.inr (.inl 172), .inr (.inr 0), .inr (.inr 0)] (r.toList ++ []) G' M' Q) h
  have f1 : m_gtM 161 (m_t0 M) = m_x1 M := rfl
  rw [f1] at hf
  simp (disch := omega) only [i_267_0, i_267_1, i_267_2, i_267_5, i_267_6, i_267_7, i_267_10, i_267_13, i_267_15, i_267_16, i_267_19, i_267_20, i_267_21, i_267_22, i_267_25, i_267_26, i_267_27, i_267_30, i_267_31, i_267_32, i_267_33, i_267_36, i_267_37, i_267_40, i_267_41, i_267_43, i_267_46, i_267_47, i_267_48, i_267_49, i_267_52, i_267_53, g_o172, g_r172_1, g_r172_2, g_r172_4, g_r172_5, g_r172_6, g_r172_7, g_r172_8, g_r172_16, g_r172_18, g_r172_19, g_r172_20, g_r172_21, g_a173, g_t173, g_a174, g_t174, g_a175, g_t175, g_a179, g_t179, exists_eq_left', Option.some.injEq, exists_eq_left, ne_eq, List.length_nil, List.length_cons, Option.toList_some, Option.toList_none, List.cons_append, List.nil_append, mj_wt_nil, mj_wt_i, mj_wt_r, mj_wt_l, true_and, and_true, false_and, and_false, true_implies, false_implies, implies_true, not_true_eq_false, not_false_eq_true, and_self, Int.reduceEq, Nat.reduceEqDiff, ↓reduceIte, mj_w_id2, Int.toNat_natCast, v_st_ne, v_rd, v_up, v_up_ne, v_rg, v_rg2, v_th0, v_th1, v_th2, v_th3, v_th4, v_th5, v_th6, v_th7, v_tk0, v_tk1, v_tk2, v_tk3, v_tk4, v_tk5, v_tk6, v_tk7, v_tk8, v_tk9, v_tk10, v_tk11, v_rn0, v_rn1, v_rn2, v_rn3, v_rn4, v_rn5, v_rn6, v_rn7, v_rn8, v_rn9, v_rn10, v_rn11, v_ws0, v_ws1, v_ws2, v_ws3, v_ws4, v_ws5, v_ws6, v_gl0, v_gl1, v_gl2, v_gl3, v_gl4, v_gl5, v_gl6, v_gl7, v_gl8, v_gl9, v_ow, v_ow2, v_iw, v_tb, v_pg, Int.neg_neg, Int.reduceNeg, Int.reduceToNat, forall_const, Int.reduceLT, Int.reduceLE, if_true, if_false, gt_iff_lt, r_179_2, r_179_3, r_179_4, r_179_5, r_179_6, r_179_7, r_179_8, r_213_2, r_213_3, r_213_4, r_213_5, r_213_6, r_213_7, r_213_8, r_268f h, f1, c1]
  try grind
end sp98t
