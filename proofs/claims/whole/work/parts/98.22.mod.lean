section sp98r
variable {x : Nat} {M V : mj_M} {Q : Option mj_V → mj_G → mj_M → Prop} {d : Nat}
theorem m_gtM_tx : ∀ (n : Nat) (M : mj_M), m_tx M → m_tx (m_gtM n M) := by
  intro n
  induction n with
  | zero => intro M h; exact h
  | succ n ih =>
    intro M h
    have ht := m_stt_tx h
    have hg := m_sg_tx (c := 59) (by omega) ht
    rw [m_gtM]
    split
    · split
      · split
        · exact ih _ hg
        · exact hg
      · exact ht
    · exact ht
theorem m_gtM_fs : ∀ (n : Nat) (M : mj_M), m_fs M (m_gtM n M) := by
  intro n
  induction n with
  | zero => intro M; exact m_fs_r
  | succ n ih =>
    intro M
    rw [m_gtM]
    split
    · split
      · split
        · exact m_fs_t (m_fs_t m_stt_fs m_sg_fs) (ih _)
        · exact m_fs_t m_stt_fs m_sg_fs
      · exact m_stt_fs
    · exact m_stt_fs
theorem m_gdM_fs : ∀ (n : Nat) (V M : mj_M), m_fs M (m_gdM n V M) := by
  intro n
  induction n with
  | zero => intro V M; exact m_fs_r
  | succ n ih =>
    intro V M
    rw [m_gdM]
    split
    · split
      · exact m_stt_fs
      · split
        · split
          · exact m_fs_t (m_fs_t m_stt_fs m_sg_fs) (ih _ _)
          · exact m_fs_t m_stt_fs m_sg_fs
        · exact m_stt_fs
    · exact m_stt_fs
theorem m_t0_fs : m_fs M (m_t0 M) := m_fs_t (m_fs_up (by omega)) (m_fs_up (by omega))
/-- what is read first -/
def m_x1 (M : mj_M) : mj_M := m_gtM 161 (m_t0 M)
/-- where the second reading begins -/
def m_x2 (V M : mj_M) : mj_M := m_t0 (m_kp V (m_x1 M))
def m_x3 (V M : mj_M) : mj_M := m_gdM 161 V (m_x2 V M)
theorem r_267 {P : mj_M → mj_M → Prop} (h : 0 ≤ M 172 9 ∧ M 172 9 ≤ 160) (hw : ∀ V M, P V M → q_wr V) (hP : ∀ V M, P V M → m_tx M → m_stt M 172 11 = 0 → m_idR V (m_stt M) = 1 → m_stt M 172 10 < m_stt M 172 9 → m_sg (m_stt M) 59 172 11 = 0 → P (m_idV V (m_stt M)) (m_sg (m_stt M) 59)) (hPV : P V (m_x2 V M)) :
    mj_Rn (d + 20) 267 0 [.inr (.inl 172), .inr (.inr 0), .inr (.inr 0)] [] (SGx x) (v_st V M) Q = (if m_x1 M 172 11 ≠ 0 then Q (some (.inl (-10 - m_x1 M 172 10))) (SGx x) (v_st V (m_x1 M)) else if m_gdR 161 0 V (m_x2 V M) = -1 then Q (some (.inl (-7))) (SGx x) (v_st (m_rs (m_x3 V M) (m_gdV 161 V (m_x2 V M))) (q_rm (m_x3 V M) 7)) else Q (some (.inl (m_gdR 161 0 V (m_x2 V M)))) (SGx x) (v_st (m_gdV 161 V (m_x2 V M)) (mj_up (m_x3 V M) 172 9 0))) := by
  have t1 : m_tx (m_x1 M) := m_gtM_tx _ _ (m_t0_tx h)
  have h4 := t1.2.2
  have h2 := t1.1
  have h3 := t1.2.1
  have l9 : 0 ≤ m_kp V (m_x1 M) 172 9 ∧ m_kp V (m_x1 M) 172 9 ≤ 160 := by rw [m_kp_o (by omega)]; omega
  have ht := r_268t (d := d + 6) (x := x) (Q := fun r G' M' => mj_Rn (d + 20) 267 30 [.inr (.inl 172), .inl (m_gtV 161 0 (m_t0 M)), .inr (.inr 0)] (r.toList ++ []) G' M' Q) hw hP l9 hPV
  have hf := r_268f (d := d + 6) (x := x) (V := V) (M := M) (Q := fun r G' M' => mj_Rn (d + 20) 267 5 [.inr (.inl 172), .inr (.inr 0), .inr (.inr 0)] (r.toList ++ []) G' M' Q) h
  have f1 : m_gtM 161 (m_t0 M) = m_x1 M := rfl
  have f2 : m_t0 (m_kp V (m_x1 M)) = m_x2 V M := rfl
  have f3 : m_gdM 161 V (m_x2 V M) = m_x3 V M := rfl
  rw [f1] at hf
  rw [f2, f3] at ht
  by_cases c1 : m_x1 M 172 11 = 0
  · by_cases c2 : m_gdR 161 0 V (m_x2 V M) = -1
    · simp (disch := omega) only [i_267_0, i_267_1, i_267_2, i_267_5, i_267_6, i_267_7, i_267_10, i_267_13, i_267_15, i_267_16, i_267_19, i_267_20, i_267_21, i_267_22, i_267_25, i_267_26, i_267_27, i_267_30, i_267_31, i_267_32, i_267_33, i_267_36, i_267_37, i_267_40, i_267_41, i_267_43, i_267_46, i_267_47, i_267_48, i_267_49, i_267_52, i_267_53, g_o172, g_r172_1, g_r172_2, g_r172_4, g_r172_5, g_r172_6, g_r172_7, g_r172_8, g_r172_16, g_r172_18, g_r172_19, g_r172_20, g_r172_21, g_a173, g_t173, g_a174, g_t174, g_a175, g_t175, g_a179, g_t179, exists_eq_left', Option.some.injEq, exists_eq_left, ne_eq, List.length_nil, List.length_cons, Option.toList_some, Option.toList_none, List.cons_append, List.nil_append, mj_wt_nil, mj_wt_i, mj_wt_r, mj_wt_l, true_and, and_true, false_and, and_false, true_implies, false_implies, implies_true, not_true_eq_false, not_false_eq_true, and_self, Int.reduceEq, Nat.reduceEqDiff, ↓reduceIte, mj_w_id2, Int.toNat_natCast, v_st_ne, v_rd, v_up, v_up_ne, v_rg, v_rg2, v_th0, v_th1, v_th2, v_th3, v_th4, v_th5, v_th6, v_th7, v_tk0, v_tk1, v_tk2, v_tk3, v_tk4, v_tk5, v_tk6, v_tk7, v_tk8, v_tk9, v_tk10, v_tk11, v_rn0, v_rn1, v_rn2, v_rn3, v_rn4, v_rn5, v_rn6, v_rn7, v_rn8, v_rn9, v_rn10, v_rn11, v_ws0, v_ws1, v_ws2, v_ws3, v_ws4, v_ws5, v_ws6, v_gl0, v_gl1, v_gl2, v_gl3, v_gl4, v_gl5, v_gl6, v_gl7, v_gl8, v_gl9, v_ow, v_ow2, v_iw, v_tb, v_pg, Int.neg_neg, Int.reduceNeg, Int.reduceToNat, forall_const, Int.reduceLE, if_true, if_false, gt_iff_lt, r_179_2, r_179_3, r_179_4, r_179_5, r_179_6, r_179_7, r_179_8, r_213_2, r_213_3, r_213_4, r_213_5, r_213_6, r_213_7, r_213_8, r_268f h, r_268t hw hP l9 hPV, r_251, r_254, f1, f2, f3, c1, c2]
      try grind
    · simp (disch := omega) only [i_267_0, i_267_1, i_267_2, i_267_5, i_267_6, i_267_7, i_267_10, i_267_13, i_267_15, i_267_16, i_267_19, i_267_20, i_267_21, i_267_22, i_267_25, i_267_26, i_267_27, i_267_30, i_267_31, i_267_32, i_267_33, i_267_36, i_267_37, i_267_40, i_267_41, i_267_43, i_267_46, i_267_47, i_267_48, i_267_49, i_267_52, i_267_53, g_o172, g_r172_1, g_r172_2, g_r172_4, g_r172_5, g_r172_6, g_r172_7, g_r172_8, g_r172_16, g_r172_18, g_r172_19, g_r172_20, g_r172_21, g_a173, g_t173, g_a174, g_t174, g_a175, g_t175, g_a179, g_t179, exists_eq_left', Option.some.injEq, exists_eq_left, ne_eq, List.length_nil, List.length_cons, Option.toList_some, Option.toList_none, List.cons_append, List.nil_append, mj_wt_nil, mj_wt_i, mj_wt_r, mj_wt_l, true_and, and_true, false_and, and_false, true_implies, false_implies, implies_true, not_true_eq_false, not_false_eq_true, and_self, Int.reduceEq, Nat.reduceEqDiff, ↓reduceIte, mj_w_id2, Int.toNat_natCast, v_st_ne, v_rd, v_up, v_up_ne, v_rg, v_rg2, v_th0, v_th1, v_th2, v_th3, v_th4, v_th5, v_th6, v_th7, v_tk0, v_tk1, v_tk2, v_tk3, v_tk4, v_tk5, v_tk6, v_tk7, v_tk8, v_tk9, v_tk10, v_tk11, v_rn0, v_rn1, v_rn2, v_rn3, v_rn4, v_rn5, v_rn6, v_rn7, v_rn8, v_rn9, v_rn10, v_rn11, v_ws0, v_ws1, v_ws2, v_ws3, v_ws4, v_ws5, v_ws6, v_gl0, v_gl1, v_gl2, v_gl3, v_gl4, v_gl5, v_gl6, v_gl7, v_gl8, v_gl9, v_ow, v_ow2, v_iw, v_tb, v_pg, Int.neg_neg, Int.reduceNeg, Int.reduceToNat, forall_const, Int.reduceLE, if_true, if_false, gt_iff_lt, r_179_2, r_179_3, r_179_4, r_179_5, r_179_6, r_179_7, r_179_8, r_213_2, r_213_3, r_213_4, r_213_5, r_213_6, r_213_7, r_213_8, r_268f h, r_268t hw hP l9 hPV, r_251, r_254, f1, f2, f3, c1, c2]
      try grind
  · simp (disch := omega) only [i_267_0, i_267_1, i_267_2, i_267_5, i_267_6, i_267_7, i_267_10, i_267_13, i_267_15, i_267_16, i_267_19, i_267_20, i_267_21, i_267_22, i_267_25, i_267_26, i_267_27, i_267_30, i_267_31, i_267_32, i_267_33, i_267_36, i_267_37, i_267_40, i_267_41, i_267_43, i_267_46, i_267_47, i_267_48, i_267_49, i_267_52, i_267_53, g_o172, g_r172_1, g_r172_2, g_r172_4, g_r172_5, g_r172_6, g_r172_7, g_r172_8, g_r172_16, g_r172_18, g_r172_19, g_r172_20, g_r172_21, g_a173, g_t173, g_a174, g_t174, g_a175, g_t175, g_a179, g_t179, exists_eq_left', Option.some.injEq, exists_eq_left, ne_eq, List.length_nil, List.length_cons, Option.toList_some, Option.toList_none, List.cons_append, List.nil_append, mj_wt_nil, mj_wt_i, mj_wt_r, mj_wt_l, true_and, and_true, false_and, and_false, true_implies, false_implies, implies_true, not_true_eq_false, not_false_eq_true, and_self, Int.reduceEq, Nat.reduceEqDiff, ↓reduceIte, mj_w_id2, Int.toNat_natCast, v_st_ne, v_rd, v_up, v_up_ne, v_rg, v_rg2, v_th0, v_th1, v_th2, v_th3, v_th4, v_th5, v_th6, v_th7, v_tk0, v_tk1, v_tk2, v_tk3, v_tk4, v_tk5, v_tk6, v_tk7, v_tk8, v_tk9, v_tk10, v_tk11, v_rn0, v_rn1, v_rn2, v_rn3, v_rn4, v_rn5, v_rn6, v_rn7, v_rn8, v_rn9, v_rn10, v_rn11, v_ws0, v_ws1, v_ws2, v_ws3, v_ws4, v_ws5, v_ws6, v_gl0, v_gl1, v_gl2, v_gl3, v_gl4, v_gl5, v_gl6, v_gl7, v_gl8, v_gl9, v_ow, v_ow2, v_iw, v_tb, v_pg, Int.neg_neg, Int.reduceNeg, Int.reduceToNat, forall_const, Int.reduceLE, if_true, if_false, gt_iff_lt, r_179_2, r_179_3, r_179_4, r_179_5, r_179_6, r_179_7, r_179_8, r_213_2, r_213_3, r_213_4, r_213_5, r_213_6, r_213_7, r_213_8, r_268f h, r_268t hw hP l9 hPV, r_251, r_254, f1, f2, f3, c1]
    try grind
end sp98r
