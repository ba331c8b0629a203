section op02
variable {A B C M N V W M' V' : mj_M} {x : Nat} {n m : Int}
theorem q_act_e {k : Int} : (q_act k = 0 ∧ k ≠ 20) ↔ ¬ ((6 ≤ k ∧ k ≤ 14) ∨ (18 ≤ k ∧ k ≤ 20)) := by
  unfold q_act
  by_cases c : (6 ≤ k ∧ k ≤ 14) ∨ k = 18 ∨ k = 19
  · rw [if_pos c]; omega
  · rw [if_neg c]; omega
/-- behind something done by hand -/
theorem z_I_af (h : z_I n M V) (ha : z_af 8 M V A V') (hc : q_ch M A) (hK : q_cK M A) (hB : m_B m V') (hO : q_o m A) : z_I m (q_sweep A) V' := by
  obtain ⟨W, h1, h2, h3, h4, -, -, -, -⟩ := ha
  refine ⟨by rw [h1]; exact z_fin8 h2 h3 h4, ?_, hB, q_o_z hO q_sweep_z⟩
  rw [q_ch_1 (q_ch_t hc q_sweep_c) (by omega)]
  exact q_sweep_K.1 _ (hK.1 _ h.2.1)

theorem z_o_act (h : z_JJ n M V) (hn : 0 ≤ n ∧ n < 90000000) {y what a bc : Int} : z_op n x 18 180 [.inr (.inl 0), .inl y, .inl what, .inl a, .inl bc] [.inr (.inl 172), .inl y, .inl what, .inl a, .inl bc] M V := by
  have hRl := h.1.1
  have w := hRl.1.1.1
  have hok := hRl.1.2.2.2.2.2.2.1
  have eb := z_bx_e hRl (y := y)
  by_cases c1 : q_of M y 1 = 0
  · have c1V : m_bx V y = 0 := eb.trans c1
    exact z_op_re (k := 3) (v := -3) h (by omega) (fun d Q => (e_18 (d := d + 191) w).trans (by rw [if_pos c1])) (fun M d Q => (r_180 (d := d + 70) hok (z_JJ_tt h)).trans (by rw [if_pos c1V]))
  have hb := q_of_1.mp (show q_of M y 1 = 1 by have := q_of_01 (M := M) (t := y) (v := 1); omega)
  have c1V : ¬ m_bx V y = 0 := by rw [eb]; exact c1
  by_cases c2 : q_act what = 0 ∧ what ≠ 20
  · have c2V := q_act_e.mp c2
    exact z_op_re (k := 5) (v := -5) h (by omega) (fun d Q => (e_18 (d := d + 191) w).trans (by rw [if_neg c1, if_pos c2])) (fun M d Q => (r_180 (d := d + 70) hok (z_JJ_tt h)).trans (by rw [if_neg c1V, if_pos c2V]))
  have c2V : ¬ ¬ ((6 ≤ what ∧ what ≤ 14) ∨ (18 ≤ what ∧ what ≤ 20)) := fun q => c2 (q_act_e.mpr q)
  by_cases c3 : bc < 0
  · exact z_op_re (k := 7) (v := -7) h (by omega) (fun d Q => (e_18 (d := d + 191) w).trans (by rw [if_neg c1, if_neg c2, if_pos c3])) (fun M d Q => (r_180 (d := d + 70) hok (z_JJ_tt h)).trans (by rw [if_neg c1V, if_neg c2V, if_pos c3]))
  have hB := h.1.2.2.1
  obtain ⟨z1, z2, z3⟩ := z_acts (what := what) (a := a) (b := (mj_w (mj_w (bc.tdiv 1000) - 1))) (c := (mj_w (bc.tmod 1000 - 1))) hRl ⟨hb.1, hb.2.1⟩ hb.2.2 ⟨by have := hB.2.2; omega, by have := hB.2.2; omega⟩
  by_cases c4 : q_prf M y what a (mj_w (mj_w (bc.tdiv 1000) - 1)) (mj_w (bc.tmod 1000 - 1)) = 0
  · obtain ⟨z4, z5⟩ := z3 (by omega)
    have c4V := z1.symm.trans c4
    exact z_op_re (k := 7) (v := -7) h (by omega) (fun d Q => (e_18 (d := d + 191) w).trans (by rw [if_neg c1, if_neg c2, if_neg c3, if_pos c4])) (fun M d Q => (r_180 (d := d + 70) hok (z_JJ_tt h)).trans (by rw [if_neg c1V, if_neg c2V, if_neg c3, if_pos c4V, z5]))
  · have c4V : ¬ m_ac V y what a (mj_w (mj_w (bc.tdiv 1000) - 1)) (mj_w (bc.tmod 1000 - 1)) = 0 := by rw [← z1]; exact c4
    have z4 := z2 (by have := q_prf_01 (M := M) (bx := y) (k := what) (a := a) (b := (mj_w (mj_w (bc.tdiv 1000) - 1))) (c := (mj_w (bc.tmod 1000 - 1))); omega)
    obtain ⟨o1, o2⟩ := q_ch_out (q_ch_t (q_prfM_c (M := M) (box := y) (what := what) (a := a) (b := (mj_w (mj_w (bc.tdiv 1000) - 1))) (c := (mj_w (bc.tmod 1000 - 1)))) q_sweep_c)
    refine z_op_ch (v := 1) (M' := q_sweep (q_prfM M y what a (mj_w (mj_w (bc.tdiv 1000) - 1)) (mj_w (bc.tmod 1000 - 1)))) (V' := m_acM V y what a (mj_w (mj_w (bc.tdiv 1000) - 1)) (mj_w (bc.tmod 1000 - 1))) h (fun M => M) (fun _ _ _ _ => rfl) (fun a q => o1 a (by omega)) o2 m_acM_R ?_ (fun d Q => (e_18 (d := d + 191) w).trans (by rw [if_neg c1, if_neg c2, if_neg c3, if_neg c4])) (fun d Q => (r_180 (d := d + 70) hok (z_JJ_tt h)).trans (by rw [if_neg c1V, if_neg c2V, if_neg c3, if_neg c4V]))
    exact z_I_af h.1 z4 q_prfM_c q_prfM_K (m_B_m (m_acM_B hB ⟨hn.1, by omega⟩) (by omega)) (q_o_m (q_o_prf h.1.2.2.2 hn.1) (by omega))

theorem z_o_load (h : z_JJ n M V) {y s : Int} : z_op n x 59 212 [.inr (.inl 0), .inl y, .inl s] [.inr (.inl 172), .inl y, .inl s] M V := by
  have hRl := h.1.1
  have w := hRl.1.1.1
  have hok := hRl.1.2.2.2.2.2.2.1
  have eb := z_bx_e hRl (y := y)
  by_cases c0 : q_of M y 1 = 0
  · have c1 : q_pl M y s = -1 := z_pl_n c0
    have c0V : m_bx V y = 0 := eb.trans c0
    exact z_op_re (k := 3) (v := 0) h (by omega) (fun d Q => (e_59 (d := d + 191) w).trans (by rw [if_pos c1])) (fun M d Q => (r_212 (d := d + 70) hok).trans (by rw [if_pos c0V]))
  have hb1 : q_of M y 1 = 1 := by have := q_of_01 (M := M) (t := y) (v := 1); omega
  have hb := q_of_1.mp hb1
  have c0V : ¬ m_bx V y = 0 := by rw [eb]; exact c0
  have ep := z_pl_e (s := s) hb1
  by_cases c2 : 0 ≤ s ∧ s ≤ 9
  rotate_left
  · rw [if_neg c2] at ep
    exact z_op_re (k := 3) (v := 0) h (by omega) (fun d Q => (e_59 (d := d + 191) w).trans (by rw [if_pos ep])) (fun M d Q => (r_212 (d := d + 70) hok).trans (by rw [if_neg c0V, if_pos c2]))
  rw [if_pos c2] at ep
  have c1 : ¬ q_pl M y s = -1 := by omega
  have c2n : ¬ ¬ (0 ≤ s ∧ s ≤ 9) := fun q => q c2
  obtain ⟨z1, z2, z3⟩ := z_load (y := y) (a := s) hRl ⟨hb.1, hb.2.1⟩ hb.2.2
  by_cases c4 : q_ro M y s = 0
  · obtain ⟨z4, z5⟩ := z3 (by omega)
    have c4V := z1.symm.trans c4
    have nN : ∀ M, m_ldN M V y s = M := fun M => (m_ldM_no c4V).2
    exact z_op_re (k := 7) (v := 0) h (by omega) (fun d Q => (e_59 (d := d + 191) w).trans (by rw [if_neg c1, if_pos c4])) (fun M d Q => (r_212 (d := d + 70) hok).trans (by rw [if_neg c0V, if_neg c2n, if_pos c4V, z5, nN]))
  · have g1 : q_ro M y s = 1 := by have := q_ro_01 (M := M) (b := y) (s := s); omega
    have c4V : ¬ m_ld V y s = 0 := by rw [← z1]; exact c4
    obtain ⟨z4, z5⟩ := z2 g1
    have hch := q_roM_c (M := M) (b := y) (s := s)
    obtain ⟨o1, o2⟩ := q_ch_out (q_ch_t hch q_sweep_c)
    have e132 : q_sweep (q_roM M y s) 132 2 = m_ldV V y s := by
      have : q_sweep (q_roM M y s) 132 = q_roM M y s 132 := q_sweep_L
      rw [this]; exact z5
    have eN : ∀ M, m_ldN M V y s = mj_up M 172 3 (m_ldV V y s) := fun M => by unfold m_ldN; rw [if_pos (z1.symm.trans g1)]
    refine z_op_ch (v := m_ldV V y s) (M' := q_sweep (q_roM M y s)) (V' := m_ldM V y s) h (fun M => mj_up M 172 3 (m_ldV V y s)) ?_ (fun a q => o1 a (by omega)) o2 m_ldM_R ?_ (fun d Q => (e_59 (d := d + 191) w).trans (by rw [if_neg c1, if_neg c4, e132])) (fun d Q => (r_212 (d := d + 70) hok).trans (by rw [if_neg c0V, if_neg c2n, if_neg c4V, eN, mj_up_at, if_pos rfl]))
    · intro M a i q
      by_cases q2 : a = 172
      · subst q2; rw [mj_up_at, if_neg (by omega)]
      · rw [mj_up_ne q2]
    · exact z_I_af h.1 z4 hch q_roM_K (m_B_m (m_B_c h.1.2.2.1 m_ldM_B) (by omega)) (q_o_m (q_o_z h.1.2.2.2 q_roM_z) (by omega))

theorem z_o_store (h : z_JJ n M V) (hn : 0 ≤ n ∧ n < 90000000) {y s v : Int} : z_op n x 63 215 [.inr (.inl 0), .inl y, .inl s, .inl v] [.inr (.inl 172), .inl y, .inl s, .inl v] M V := by
  have hRl := h.1.1
  have w := hRl.1.1.1
  have hok := hRl.1.2.2.2.2.2.2.1
  have hfV : q_few V 99999999 := fun i hi => by have := h.1.2.2.1.1 i hi; omega
  have eb := z_bx_e hRl (y := y)
  by_cases c0 : q_of M y 1 = 0
  · have c1 : q_pl M y s = -1 := z_pl_n c0
    have c0V : m_bx V y = 0 := eb.trans c0
    exact z_op_re (k := 3) (v := -3) h (by omega) (fun d Q => (e_63 (d := d + 191) w (q_o_few h.1.2.2.2 (by omega))).trans (by rw [if_pos c1])) (fun M d Q => (r_215 (d := d + 70) hok hfV).trans (by rw [if_pos c0V]))
  have hb1 : q_of M y 1 = 1 := by have := q_of_01 (M := M) (t := y) (v := 1); omega
  have hb := q_of_1.mp hb1
  have c0V : ¬ m_bx V y = 0 := by rw [eb]; exact c0
  have ep := z_pl_e (s := s) hb1
  by_cases c2 : 0 ≤ s ∧ s ≤ 9
  rotate_left
  · rw [if_neg c2] at ep
    exact z_op_re (k := 3) (v := -3) h (by omega) (fun d Q => (e_63 (d := d + 191) w (q_o_few h.1.2.2.2 (by omega))).trans (by rw [if_pos ep])) (fun M d Q => (r_215 (d := d + 70) hok hfV).trans (by rw [if_neg c0V, if_pos c2]))
  rw [if_pos c2] at ep
  have c1 : ¬ q_pl M y s = -1 := by omega
  have c2n : ¬ ¬ (0 ≤ s ∧ s ≤ 9) := fun q => q c2
  obtain ⟨z1, z2, z3⟩ := z_store (y := y) (a := s) (v := v) hRl ⟨hb.1, hb.2.1⟩ hb.2.2 (q_o_few h.1.2.2.2 (by omega)) hfV
  by_cases c4 : q_wi M y s = 0
  · obtain ⟨z4, z5⟩ := z3 (by omega)
    have c4V := z1.symm.trans c4
    exact z_op_re (k := 7) (v := -7) h (by omega) (fun d Q => (e_63 (d := d + 191) w (q_o_few h.1.2.2.2 (by omega))).trans (by rw [if_neg c1, if_pos c4])) (fun M d Q => (r_215 (d := d + 70) hok hfV).trans (by rw [if_neg c0V, if_neg c2n, if_pos c4V, z5]))
  · have g1 : q_wi M y s = 1 := by have := q_wi_01 (M := M) (b := y) (s := s); omega
    have c4V : ¬ m_st V y s = 0 := by rw [← z1]; exact c4
    have z4 := z2 g1
    have hch := q_wiM_c (M := M) (b := y) (s := s) (v := v)
    obtain ⟨o1, o2⟩ := q_ch_out (q_ch_t hch q_sweep_c)
    refine z_op_ch (v := 1) (M' := q_sweep (q_wiM M y s v)) (V' := m_stM V y s v) h (fun M => M) (fun _ _ _ _ => rfl) (fun a q => o1 a (by omega)) o2 m_stM_R ?_ (fun d Q => (e_63 (d := d + 191) w (q_o_few h.1.2.2.2 (by omega))).trans (by rw [if_neg c1, if_neg c4])) (fun d Q => (r_215 (d := d + 70) hok hfV).trans (by rw [if_neg c0V, if_neg c2n, if_neg c4V]))
    exact z_I_af h.1 z4 hch q_wiM_K (m_B_m (m_stM_B h.1.2.2.1 ⟨hn.1, by omega⟩ hok.1 ⟨hb.1, hb.2.1⟩) (by omega)) (q_o_m (q_o_wi w h.1.2.2.2 hn.1) (by omega))

theorem z_o_thing (h : z_JJ n M V) {y k : Int} : z_op n x 66 232 [.inr (.inl 0), .inl y, .inl k, .inr (.inr 0)] [.inr (.inl 172), .inl y, .inl k, .inr (.inr 0)] M V := by
  have hRl := h.1.1
  have w := hRl.1.1.1
  have hok := hRl.1.2.2.2.2.2.2.1
  have et := z_tht_e hRl (y := y)
  by_cases c1 : q_tht M y = 0
  · have c1V : m_th V y = 0 := et.trans c1
    exact z_op_re (k := 3) (v := -3) h (by omega) (fun d Q => (e_66 (d := d + 191)).trans (by rw [if_pos c1])) (fun M d Q => (r_232 (d := d + 191)).trans (by rw [if_pos c1V]))
  have c1V : ¬ m_th V y = 0 := by rw [et]; exact c1
  have hy : 0 ≤ y ∧ y < 40 ∧ M 14 y.toNat ≠ -1 := by
    unfold q_tht at c1
    split at c1
    · assumption
    · exact absurd rfl c1
  have hH : M 14 y.toNat ≠ -1 ∧ V 210 y.toNat = 1 ∧ V 14 y.toNat = M 14 y.toNat ∧ V 15 y.toNat = M 15 y.toNat ∧ V 16 y.toNat = M 16 y.toNat ∧ V 17 y.toNat = M 17 y.toNat ∧ V 18 y.toNat = M 18 y.toNat ∧ V 19 y.toNat = M 19 y.toNat := by
    rcases hRl.1.2.2.2.2.2.2.2.1 y.toNat (by omega) with q | q
    · exact absurd q.1 hy.2.2
    · exact q
  obtain ⟨-, -, v14, v15, v16, v17, v18, v19⟩ := hH
  have hH2 := hRl.1.2.2.2.2.2.2.2.2.1 y.toNat (by omega) hy.2.2
  by_cases k0 : k = 0
  · have ev : V 14 y.toNat = M 14 y.toNat := v14
    exact z_op_id (v := M 14 y.toNat) h (fun d Q => (e_66 (d := d + 191)).trans (by rw [if_neg c1, if_pos k0])) (fun M d Q => (r_232 (d := d + 191)).trans (by rw [if_neg c1V, if_pos k0, ev]))
  by_cases k1 : k = 1
  · have ev : V 15 y.toNat = M 15 y.toNat := v15
    exact z_op_id (v := M 15 y.toNat) h (fun d Q => (e_66 (d := d + 191)).trans (by rw [if_neg c1, if_neg k0, if_pos k1])) (fun M d Q => (r_232 (d := d + 191)).trans (by rw [if_neg c1V, if_neg k0, if_pos k1, ev]))
  by_cases k2 : k = 2
  · have ev : (if V 14 y.toNat = 0 then V 16 y.toNat else 0) = M 16 y.toNat := by
      split
      · exact v16
      · rename_i q; exact (hH2.1 (by rw [← v14]; exact q)).symm
    exact z_op_id (v := M 16 y.toNat) h (fun d Q => (e_66 (d := d + 191)).trans (by rw [if_neg c1, if_neg k0, if_neg k1, if_pos k2])) (fun M d Q => (r_232 (d := d + 191)).trans (by rw [if_neg c1V, if_neg k0, if_neg k1, if_pos k2, ev]))
  by_cases k3 : k = 3
  · have ev : m_to V y 120 0 0 = q_hm M y := by
      rw [z_to hRl.1.2.1 120 0 0 (by omega), Int.zero_add]; rfl
    exact z_op_id (v := q_hm M y) h (fun d Q => (e_66 (d := d + 191)).trans (by rw [if_neg c1, if_neg k0, if_neg k1, if_neg k2, if_pos k3])) (fun M d Q => (r_232 (d := d + 191)).trans (by rw [if_neg c1V, if_neg k0, if_neg k1, if_neg k2, if_pos k3, ev]))
  by_cases k4 : k = 4
  · have ev : (if V 14 y.toNat = 4 then V 17 y.toNat else 0) = M 17 y.toNat := by
      split
      · exact v17
      · rename_i q; exact (hH2.2.1 (by rw [← v14]; exact q)).1.symm
    exact z_op_id (v := M 17 y.toNat) h (fun d Q => (e_66 (d := d + 191)).trans (by rw [if_neg c1, if_neg k0, if_neg k1, if_neg k2, if_neg k3, if_pos k4])) (fun M d Q => (r_232 (d := d + 191)).trans (by rw [if_neg c1V, if_neg k0, if_neg k1, if_neg k2, if_neg k3, if_pos k4, ev]))
  by_cases k5 : k = 5
  · have ev : (if V 14 y.toNat = 4 then mj_w (V 18 y.toNat - V 19 y.toNat) else 0) = mj_w (M 18 y.toNat - M 19 y.toNat) := by
      split
      · rw [v18, v19]
      · rename_i q
        have := hH2.2.1 (by rw [← v14]; exact q)
        rw [this.2.1, this.2.2]; rfl
    exact z_op_id (v := mj_w (M 18 y.toNat - M 19 y.toNat)) h (fun d Q => (e_66 (d := d + 191)).trans (by rw [if_neg c1, if_neg k0, if_neg k1, if_neg k2, if_neg k3, if_neg k4, if_pos k5])) (fun M d Q => (r_232 (d := d + 191)).trans (by rw [if_neg c1V, if_neg k0, if_neg k1, if_neg k2, if_neg k3, if_neg k4, if_pos k5, ev]))
  exact z_op_re (k := 7) (v := -7) h (by omega) (fun d Q => (e_66 (d := d + 191)).trans (by rw [if_neg c1, if_neg k0, if_neg k1, if_neg k2, if_neg k3, if_neg k4, if_neg k5])) (fun M d Q => (r_232 (d := d + 191)).trans (by rw [if_neg c1V, if_neg k0, if_neg k1, if_neg k2, if_neg k3, if_neg k4, if_neg k5]))

theorem z_o_out (h : z_JJ n M V) {y i : Int} : z_op n x 68 233 [.inr (.inl 0), .inl y, .inl i] [.inr (.inl 172), .inl y, .inl i] M V := by
  have hRl := h.1.1
  have w := hRl.1.1.1
  have hok := hRl.1.2.2.2.2.2.2.1
  have et := z_tht_e hRl (y := y)
  by_cases c1 : q_tht M y = 0
  · have c1V : m_th V y = 0 := et.trans c1
    exact z_op_re (k := 3) (v := 0) h (by omega) (fun d Q => (e_68 (d := d + 191)).trans (by rw [if_pos c1])) (fun M d Q => (r_233 (d := d + 191)).trans (by rw [if_pos c1V]))
  have c1V : ¬ m_th V y = 0 := by rw [et]; exact c1
  have hy : 0 ≤ y ∧ y < 40 ∧ M 14 y.toNat ≠ -1 := by
    unfold q_tht at c1
    split at c1
    · assumption
    · exact absurd rfl c1
  have hH : M 14 y.toNat ≠ -1 ∧ V 210 y.toNat = 1 ∧ V 14 y.toNat = M 14 y.toNat ∧ V 15 y.toNat = M 15 y.toNat ∧ V 16 y.toNat = M 16 y.toNat ∧ V 17 y.toNat = M 17 y.toNat ∧ V 18 y.toNat = M 18 y.toNat ∧ V 19 y.toNat = M 19 y.toNat := by
    rcases hRl.1.2.2.2.2.2.2.2.1 y.toNat (by omega) with q | q
    · exact absurd q.1 hy.2.2
    · exact q
  obtain ⟨-, -, v14, v15, v16, v17, v18, v19⟩ := hH
  have hH2 := hRl.1.2.2.2.2.2.2.2.2.1 y.toNat (by omega) hy.2.2
  by_cases c2 : M 14 y.toNat ≠ 4
  · have c2V : V 14 y.toNat ≠ 4 := by rw [v14]; exact c2
    exact z_op_re (k := 5) (v := 0) h (by omega) (fun d Q => (e_68 (d := d + 191)).trans (by rw [if_neg c1, if_pos c2])) (fun M d Q => (r_233 (d := d + 191)).trans (by rw [if_neg c1V, if_pos c2V]))
  have c2V : ¬ V 14 y.toNat ≠ 4 := by rw [v14]; exact c2
  by_cases c3 : i < 0
  · exact z_op_re (k := 3) (v := 0) h (by omega) (fun d Q => (e_68 (d := d + 191)).trans (by rw [if_neg c1, if_neg c2, if_pos c3])) (fun M d Q => (r_233 (d := d + 191)).trans (by rw [if_neg c1V, if_neg c2V, if_pos c3]))
  by_cases c4 : (if 30 ≤ M 17 y.toNat then 30 else M 17 y.toNat) ≤ i
  · by_cases c5 : V 17 y.toNat ≤ i
    · exact z_op_re (k := 3) (v := 0) h (by omega) (fun d Q => (e_68 (d := d + 191)).trans (by rw [if_neg c1, if_neg c2, if_neg c3, if_pos c4])) (fun M d Q => (r_233 (d := d + 191)).trans (by rw [if_neg c1V, if_neg c2V, if_neg c3, if_pos c5]))
    · have c6 : 30 ≤ i := by
        split at c4
        · exact c4
        · omega
      exact z_op_re (k := 3) (v := 0) h (by omega) (fun d Q => (e_68 (d := d + 191)).trans (by rw [if_neg c1, if_neg c2, if_neg c3, if_pos c4])) (fun M d Q => (r_233 (d := d + 191)).trans (by rw [if_neg c1V, if_neg c2V, if_neg c3, if_neg c5, if_pos c6]))
  have c5 : ¬ V 17 y.toNat ≤ i := by
    split at c4
    · omega
    · omega
  have c6 : ¬ 30 ≤ i := by
    split at c4
    · omega
    · omega
  have ev : V 20 (30 * y + i).toNat = M 20 (mj_w (mj_w (y * 30) + i)).toNat := by
    have := (hRl.1.2.2.2.2.2.2.2.2.2.1 y.toNat (by omega) hy.2.2).1 i.toNat (by omega) (by omega)
    rw [show (30 * y + i).toNat = 30 * y.toNat + i.toNat by omega, this, show (mj_w (mj_w (y * 30) + i)).toNat = 30 * y.toNat + i.toNat by rw [mj_w_id2 (x := y * 30) (by omega) (by omega), mj_w_id2 (by omega) (by omega)]; omega]
  exact z_op_id (v := M 20 (mj_w (mj_w (y * 30) + i)).toNat) h (fun d Q => (e_68 (d := d + 191)).trans (by rw [if_neg c1, if_neg c2, if_neg c3, if_neg c4])) (fun M d Q => (r_233 (d := d + 191)).trans (by rw [if_neg c1V, if_neg c2V, if_neg c3, if_neg c5, if_neg c6, ev]))

theorem z_o_token (h : z_JJ n M V) {t k : Int} : z_op n x 70 234 [.inr (.inl 0), .inl t, .inl k, .inr (.inr 0)] [.inr (.inl 172), .inl t, .inl k] M V := by
  have hRl := h.1.1
  have w := hRl.1.1.1
  have hok := hRl.1.2.2.2.2.2.2.1
  have et := z_tkt_e hRl (t := t)
  by_cases c1 : q_tkt M t = 0
  · have c1V : m_tk V t = 0 := et.trans c1
    exact z_op_re (k := 3) (v := -3) h (by omega) (fun d Q => (e_70 (d := d + 191)).trans (by rw [if_pos c1])) (fun M d Q => (r_234 (d := d + 191)).trans (by rw [if_pos c1V]))
  have c1V : ¬ m_tk V t = 0 := by rw [et]; exact c1
  have ht : 0 ≤ t ∧ t < 120 ∧ M 3 t.toNat ≠ -1 := by
    unfold q_tkt at c1
    split at c1
    · assumption
    · exact absurd rfl c1
  have hT : V 3 t.toNat = M 3 t.toNat ∧ V 4 t.toNat = M 4 t.toNat ∧ V 5 t.toNat = M 5 t.toNat ∧ V 6 t.toNat = M 6 t.toNat ∧ V 7 t.toNat = M 7 t.toNat ∧ V 8 t.toNat = M 8 t.toNat ∧ V 9 t.toNat = M 9 t.toNat ∧ V 10 t.toNat = M 10 t.toNat ∧ V 11 t.toNat = M 11 t.toNat ∧ V 12 t.toNat = M 12 t.toNat := by
    rcases hRl.1.2.1 t.toNat (by omega) with q | q
    · exact absurd q.1 ht.2.2
    · exact q.2.2
  obtain ⟨v3, v4, v5, v6, v7, v8, v9, v10, v11, v12⟩ := hT
  by_cases k0 : k = 0
  · exact z_op_id (v := M 3 t.toNat) h (fun d Q => (e_70 (d := d + 191)).trans (by rw [if_neg c1, if_pos k0])) (fun M d Q => (r_234 (d := d + 191)).trans (by rw [if_neg c1V, if_pos k0, v3]))
  by_cases k1 : k = 1
  · exact z_op_id (v := M 4 t.toNat) h (fun d Q => (e_70 (d := d + 191)).trans (by rw [if_neg c1, if_neg k0, if_pos k1])) (fun M d Q => (r_234 (d := d + 191)).trans (by rw [if_neg c1V, if_neg k0, if_pos k1, v4]))
  by_cases k2 : k = 2
  · exact z_op_id (v := M 5 t.toNat) h (fun d Q => (e_70 (d := d + 191)).trans (by rw [if_neg c1, if_neg k0, if_neg k1, if_pos k2])) (fun M d Q => (r_234 (d := d + 191)).trans (by rw [if_neg c1V, if_neg k0, if_neg k1, if_pos k2, v5]))
  by_cases k3 : k = 3
  · exact z_op_id (v := M 6 t.toNat) h (fun d Q => (e_70 (d := d + 191)).trans (by rw [if_neg c1, if_neg k0, if_neg k1, if_neg k2, if_pos k3])) (fun M d Q => (r_234 (d := d + 191)).trans (by rw [if_neg c1V, if_neg k0, if_neg k1, if_neg k2, if_pos k3, v6]))
  by_cases k4 : k = 4
  · exact z_op_id (v := M 7 t.toNat) h (fun d Q => (e_70 (d := d + 191)).trans (by rw [if_neg c1, if_neg k0, if_neg k1, if_neg k2, if_neg k3, if_pos k4])) (fun M d Q => (r_234 (d := d + 191)).trans (by rw [if_neg c1V, if_neg k0, if_neg k1, if_neg k2, if_neg k3, if_pos k4, v7]))
  by_cases k5 : k = 5
  · exact z_op_id (v := M 8 t.toNat) h (fun d Q => (e_70 (d := d + 191)).trans (by rw [if_neg c1, if_neg k0, if_neg k1, if_neg k2, if_neg k3, if_neg k4, if_pos k5])) (fun M d Q => (r_234 (d := d + 191)).trans (by rw [if_neg c1V, if_neg k0, if_neg k1, if_neg k2, if_neg k3, if_neg k4, if_pos k5, v8]))
  by_cases k6 : k = 6
  · exact z_op_id (v := M 9 t.toNat) h (fun d Q => (e_70 (d := d + 191)).trans (by rw [if_neg c1, if_neg k0, if_neg k1, if_neg k2, if_neg k3, if_neg k4, if_neg k5, if_pos k6])) (fun M d Q => (r_234 (d := d + 191)).trans (by rw [if_neg c1V, if_neg k0, if_neg k1, if_neg k2, if_neg k3, if_neg k4, if_neg k5, if_pos k6, v9]))
  by_cases k7 : k = 7
  · exact z_op_id (v := M 10 t.toNat) h (fun d Q => (e_70 (d := d + 191)).trans (by rw [if_neg c1, if_neg k0, if_neg k1, if_neg k2, if_neg k3, if_neg k4, if_neg k5, if_neg k6, if_pos k7])) (fun M d Q => (r_234 (d := d + 191)).trans (by rw [if_neg c1V, if_neg k0, if_neg k1, if_neg k2, if_neg k3, if_neg k4, if_neg k5, if_neg k6, if_pos k7, v10]))
  by_cases k8 : k = 8
  · exact z_op_id (v := M 11 t.toNat) h (fun d Q => (e_70 (d := d + 191)).trans (by rw [if_neg c1, if_neg k0, if_neg k1, if_neg k2, if_neg k3, if_neg k4, if_neg k5, if_neg k6, if_neg k7, if_pos k8])) (fun M d Q => (r_234 (d := d + 191)).trans (by rw [if_neg c1V, if_neg k0, if_neg k1, if_neg k2, if_neg k3, if_neg k4, if_neg k5, if_neg k6, if_neg k7, if_pos k8, v11]))
  by_cases k9 : k = 9
  · exact z_op_id (v := M 12 t.toNat) h (fun d Q => (e_70 (d := d + 191)).trans (by rw [if_neg c1, if_neg k0, if_neg k1, if_neg k2, if_neg k3, if_neg k4, if_neg k5, if_neg k6, if_neg k7, if_neg k8, if_pos k9])) (fun M d Q => (r_234 (d := d + 191)).trans (by rw [if_neg c1V, if_neg k0, if_neg k1, if_neg k2, if_neg k3, if_neg k4, if_neg k5, if_neg k6, if_neg k7, if_neg k8, if_pos k9, v12]))
  exact z_op_re (k := 7) (v := -7) h (by omega) (fun d Q => (e_70 (d := d + 191)).trans (by rw [if_neg c1, if_neg k0, if_neg k1, if_neg k2, if_neg k3, if_neg k4, if_neg k5, if_neg k6, if_neg k7, if_neg k8, if_neg k9])) (fun M d Q => (r_234 (d := d + 191)).trans (by rw [if_neg c1V, if_neg k0, if_neg k1, if_neg k2, if_neg k3, if_neg k4, if_neg k5, if_neg k6, if_neg k7, if_neg k8, if_neg k9]))

theorem z_o_slot (h : z_JJ n M V) {y s : Int} : z_op n x 72 236 [.inr (.inl 0), .inl y, .inl s] [.inr (.inl 172), .inl y, .inl s] M V := by
  have hRl := h.1.1
  have w := hRl.1.1.1
  have hok := hRl.1.2.2.2.2.2.2.1
  have eb := z_bx_e hRl (y := y)
  by_cases c0 : q_of M y 1 = 0
  · have c1 : q_pl M y s = -1 := z_pl_n c0
    have c0V : m_bx V y = 0 := eb.trans c0
    exact z_op_re (k := 3) (v := -3) h (by omega) (fun d Q => (e_72 (d := d + 191)).trans (by rw [if_pos c1])) (fun M d Q => (r_236 (d := d + 191)).trans (by rw [if_pos c0V]))
  have hb1 : q_of M y 1 = 1 := by have := q_of_01 (M := M) (t := y) (v := 1); omega
  have hb := q_of_1.mp hb1
  have c0V : ¬ m_bx V y = 0 := by rw [eb]; exact c0
  have ep := z_pl_e (s := s) hb1
  by_cases c2 : 0 ≤ s ∧ s ≤ 9
  rotate_left
  · rw [if_neg c2] at ep
    exact z_op_re (k := 3) (v := -3) h (by omega) (fun d Q => (e_72 (d := d + 191)).trans (by rw [if_pos ep])) (fun M d Q => (r_236 (d := d + 191)).trans (by rw [if_neg c0V, if_pos c2]))
  rw [if_pos c2] at ep
  have c1 : ¬ q_pl M y s = -1 := by omega
  have c2n : ¬ ¬ (0 ≤ s ∧ s ≤ 9) := fun q => q c2
  have ev : V 42 (10 * y + s).toNat = q_ta M y s := by
    rw [z_at hRl.1.2.2.2.2.1 ⟨hb.1, hb.2.1⟩ hb.2.2]
    unfold m_at
    rw [if_pos c2]
  exact z_op_id (v := q_ta M y s) h (fun d Q => (e_72 (d := d + 191)).trans (by rw [if_neg c1])) (fun M d Q => (r_236 (d := d + 191)).trans (by rw [if_neg c0V, if_neg c2n, ev]))

theorem z_o_look (h : z_JJ n M V) {r k : Int} : z_op n x 84 243 [.inr (.inl 0), .inl r, .inl k, .inr (.inr 0)] [.inr (.inl 172), .inl r, .inl k] M V := by
  have hRl := h.1.1
  have w := hRl.1.1.1
  have hok := hRl.1.2.2.2.2.2.2.1
  have et := z_rt_e hRl (r := r)
  by_cases c1 : q_rt M r = 0
  · have c1V : m_rt V r = 0 := et.trans c1
    exact z_op_re (k := 3) (v := -3) h (by omega) (fun d Q => (e_84 (d := d + 191) w).trans (by rw [if_pos c1])) (fun M d Q => (r_243 (d := d + 191) hok.1).trans (by rw [if_pos c1V]))
  have c1V : ¬ m_rt V r = 0 := by rw [et]; exact c1
  have hr : 0 ≤ r ∧ r < M 22 13 := by
    unfold q_rt at c1
    split at c1
    · assumption
    · exact absurd rfl c1
  have hsz := q_w22_13 w
  have hRR := hRl.1.2.2.2.2.2.2.2.2.2.2.1
  obtain ⟨v23, v24, v2526, v27, v28, v29, v30, v31⟩ := hRR.1.2 r.toNat (by omega)
  obtain ⟨v25, v26⟩ := v2526 (by omega)
  by_cases k0 : k = 0
  · exact z_op_id (v := M 23 r.toNat) h (fun d Q => (e_84 (d := d + 191) w).trans (by rw [if_neg c1, if_pos k0])) (fun M d Q => (r_243 (d := d + 191) hok.1).trans (by rw [if_neg c1V, if_pos k0, v23]))
  by_cases k1 : k = 1
  · exact z_op_id (v := M 24 r.toNat) h (fun d Q => (e_84 (d := d + 191) w).trans (by rw [if_neg c1, if_neg k0, if_pos k1])) (fun M d Q => (r_243 (d := d + 191) hok.1).trans (by rw [if_neg c1V, if_neg k0, if_pos k1, v24]))
  by_cases k2 : k = 2
  · exact z_op_id (v := M 25 r.toNat) h (fun d Q => (e_84 (d := d + 191) w).trans (by rw [if_neg c1, if_neg k0, if_neg k1, if_pos k2])) (fun M d Q => (r_243 (d := d + 191) hok.1).trans (by rw [if_neg c1V, if_neg k0, if_neg k1, if_pos k2, v25]))
  by_cases k3 : k = 3
  · exact z_op_id (v := M 26 r.toNat) h (fun d Q => (e_84 (d := d + 191) w).trans (by rw [if_neg c1, if_neg k0, if_neg k1, if_neg k2, if_pos k3])) (fun M d Q => (r_243 (d := d + 191) hok.1).trans (by rw [if_neg c1V, if_neg k0, if_neg k1, if_neg k2, if_pos k3, v26]))
  by_cases k4 : k = 4
  · exact z_op_id (v := M 27 r.toNat) h (fun d Q => (e_84 (d := d + 191) w).trans (by rw [if_neg c1, if_neg k0, if_neg k1, if_neg k2, if_neg k3, if_pos k4])) (fun M d Q => (r_243 (d := d + 191) hok.1).trans (by rw [if_neg c1V, if_neg k0, if_neg k1, if_neg k2, if_neg k3, if_pos k4, v27]))
  by_cases k5 : k = 5
  · exact z_op_id (v := M 28 r.toNat) h (fun d Q => (e_84 (d := d + 191) w).trans (by rw [if_neg c1, if_neg k0, if_neg k1, if_neg k2, if_neg k3, if_neg k4, if_pos k5])) (fun M d Q => (r_243 (d := d + 191) hok.1).trans (by rw [if_neg c1V, if_neg k0, if_neg k1, if_neg k2, if_neg k3, if_neg k4, if_pos k5, v28]))
  by_cases k6 : k = 6
  · exact z_op_id (v := M 29 r.toNat) h (fun d Q => (e_84 (d := d + 191) w).trans (by rw [if_neg c1, if_neg k0, if_neg k1, if_neg k2, if_neg k3, if_neg k4, if_neg k5, if_pos k6])) (fun M d Q => (r_243 (d := d + 191) hok.1).trans (by rw [if_neg c1V, if_neg k0, if_neg k1, if_neg k2, if_neg k3, if_neg k4, if_neg k5, if_pos k6, v29]))
  by_cases k7 : k = 7
  · exact z_op_id (v := M 30 r.toNat) h (fun d Q => (e_84 (d := d + 191) w).trans (by rw [if_neg c1, if_neg k0, if_neg k1, if_neg k2, if_neg k3, if_neg k4, if_neg k5, if_neg k6, if_pos k7])) (fun M d Q => (r_243 (d := d + 191) hok.1).trans (by rw [if_neg c1V, if_neg k0, if_neg k1, if_neg k2, if_neg k3, if_neg k4, if_neg k5, if_neg k6, if_pos k7, v30]))
  by_cases k8 : k = 8
  · exact z_op_id (v := M 31 r.toNat) h (fun d Q => (e_84 (d := d + 191) w).trans (by rw [if_neg c1, if_neg k0, if_neg k1, if_neg k2, if_neg k3, if_neg k4, if_neg k5, if_neg k6, if_neg k7, if_pos k8])) (fun M d Q => (r_243 (d := d + 191) hok.1).trans (by rw [if_neg c1V, if_neg k0, if_neg k1, if_neg k2, if_neg k3, if_neg k4, if_neg k5, if_neg k6, if_neg k7, if_pos k8, v31]))
  by_cases k9 : k < 0
  · exact z_op_re (k := 7) (v := -7) h (by omega) (fun d Q => (e_84 (d := d + 191) w).trans (by rw [if_neg c1, if_neg k0, if_neg k1, if_neg k2, if_neg k3, if_neg k4, if_neg k5, if_neg k6, if_neg k7, if_neg k8])) (fun M d Q => (r_243 (d := d + 191) hok.1).trans (by rw [if_neg c1V, if_neg k0, if_neg k1, if_neg k2, if_neg k3, if_neg k4, if_neg k5, if_neg k6, if_neg k7, if_neg k8, if_pos k9]))
  have k10 : 8 < k := by omega
  exact z_op_re (k := 7) (v := -7) h (by omega) (fun d Q => (e_84 (d := d + 191) w).trans (by rw [if_neg c1, if_neg k0, if_neg k1, if_neg k2, if_neg k3, if_neg k4, if_neg k5, if_neg k6, if_neg k7, if_neg k8])) (fun M d Q => (r_243 (d := d + 191) hok.1).trans (by rw [if_neg c1V, if_neg k0, if_neg k1, if_neg k2, if_neg k3, if_neg k4, if_neg k5, if_neg k6, if_neg k7, if_neg k8, if_neg k9, if_pos k10]))

theorem z_o_step (h : z_JJ n M V) {r k i : Int} : z_op n x 85 244 [.inr (.inl 0), .inl r, .inl k, .inl i, .inr (.inr 0)] [.inr (.inl 172), .inl r, .inl k, .inl i] M V := by
  have hRl := h.1.1
  have w := hRl.1.1.1
  have hok := hRl.1.2.2.2.2.2.2.1
  have et := z_rt_e hRl (r := r)
  by_cases c1 : q_rt M r = 0
  · have c1V : m_rt V r = 0 := et.trans c1
    exact z_op_re (k := 3) (v := 0) h (by omega) (fun d Q => (e_85 (d := d + 191) w).trans (by rw [if_pos c1])) (fun M d Q => (r_244 (d := d + 191) hok.1).trans (by rw [if_pos c1V]))
  have c1V : ¬ m_rt V r = 0 := by rw [et]; exact c1
  have hr : 0 ≤ r ∧ r < M 22 13 := by
    unfold q_rt at c1
    split at c1
    · assumption
    · exact absurd rfl c1
  have hsz := q_w22_13 w
  have hRR := hRl.1.2.2.2.2.2.2.2.2.2.2.1
  obtain ⟨v23, v24, v2526, v27, v28, v29, v30, v31⟩ := hRR.1.2 r.toNat (by omega)
  obtain ⟨v25, v26⟩ := v2526 (by omega)
  by_cases c2 : ¬ (0 ≤ k ∧ k ≤ V 31 r.toNat - 1)
  · by_cases c2a : k < 0
    · exact z_op_re (k := 3) (v := 0) h (by omega) (fun d Q => (e_85 (d := d + 191) w).trans (by rw [if_neg c1, if_pos c2a])) (fun M d Q => (r_244 (d := d + 191) hok.1).trans (by rw [if_neg c1V, if_pos c2]))
    · have c2b : M 31 r.toNat ≤ k := by omega
      exact z_op_re (k := 3) (v := 0) h (by omega) (fun d Q => (e_85 (d := d + 191) w).trans (by rw [if_neg c1, if_neg c2a, if_pos c2b])) (fun M d Q => (r_244 (d := d + 191) hok.1).trans (by rw [if_neg c1V, if_pos c2]))
  have c2a : ¬ k < 0 := by omega
  have c2b : ¬ M 31 r.toNat ≤ k := by omega
  by_cases c3 : ¬ (0 ≤ i ∧ i ≤ 3)
  · by_cases c3a : i < 0
    · exact z_op_re (k := 3) (v := 0) h (by omega) (fun d Q => (e_85 (d := d + 191) w).trans (by rw [if_neg c1, if_neg c2a, if_neg c2b, if_pos c3a])) (fun M d Q => (r_244 (d := d + 191) hok.1).trans (by rw [if_neg c1V, if_neg c2, if_pos c3]))
    · have c3b : 3 < i := by omega
      exact z_op_re (k := 3) (v := 0) h (by omega) (fun d Q => (e_85 (d := d + 191) w).trans (by rw [if_neg c1, if_neg c2a, if_neg c2b, if_neg c3a, if_pos c3b])) (fun M d Q => (r_244 (d := d + 191) hok.1).trans (by rw [if_neg c1V, if_neg c2, if_pos c3]))
  have c3a : ¬ i < 0 := by omega
  have c3b : ¬ 3 < i := by omega
  have h31 := q_w31 (i := r.toNat) w (by omega)
  have ev : V 35 (160 * r + 4 * k + i).toNat = M 35 (160 * r + 4 * k + i).toNat := by
    have := (hRR.2.1 r.toNat (by omega)).2.2 (4 * k + i).toNat (by omega) (by omega)
    rw [show (160 * r + 4 * k + i).toNat = 160 * r.toNat + (4 * k + i).toNat by omega]
    exact this
  exact z_op_id (v := M 35 (160 * r + 4 * k + i).toNat) h (fun d Q => (e_85 (d := d + 191) w).trans (by rw [if_neg c1, if_neg c2a, if_neg c2b, if_neg c3a, if_neg c3b])) (fun M d Q => (r_244 (d := d + 191) hok.1).trans (by rw [if_neg c1V, if_neg c2, if_neg c3, ev]))

theorem z_o_status (h : z_JJ n M V) {k : Int} : z_op n x 169 177 [.inr (.inl 0), .inl k] [.inr (.inl 172), .inl k] M V := by
  have hRl := h.1.1
  have w := hRl.1.1.1
  have hok := hRl.1.2.2.2.2.2.2.1
  by_cases c1 : -2 < k
  · exact z_op_re (k := 7) (v := -7) h (by omega) (fun d Q => (e_169 (d := d + 191)).trans (by rw [if_pos c1])) (fun M d Q => (r_177 (d := d + 191)).trans (by rw [if_pos (by omega)]))
  by_cases c2 : k < -8
  · exact z_op_re (k := 7) (v := -7) h (by omega) (fun d Q => (e_169 (d := d + 191)).trans (by rw [if_neg c1, if_pos c2])) (fun M d Q => (r_177 (d := d + 191)).trans (by rw [if_pos (by omega)]))
  have ek : (mj_w (-k)).toNat = (-k).toNat := by rw [mj_w_id2 (by omega) (by omega)]
  have hx := h.2.2.1 (-k).toNat (by omega)
  refine ⟨M 171 (-k).toNat, M, V, fun M => M, x, fun d Q => (e_169 (d := d + 191)).trans (by rw [if_neg c1, if_neg c2, ek]), fun d Q => (r_177 (d := d + 191)).trans (by rw [if_neg (by omega), hx]), rfl, z_JJ_m h (by omega)⟩

end op02
