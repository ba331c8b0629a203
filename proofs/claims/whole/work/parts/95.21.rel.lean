section re21
variable {A B C V W A' V' : mj_M} {e : Nat}
theorem z_SW_th (h : z_SW e A V) (w : q_wr A') (wV : q_wr V') (oA : ∀ a, a ≠ 16 → a ≠ 17 → a ≠ 19 → a ≠ 20 → a ≠ 132 → A' a = A a) (oV : ∀ a, a ≠ 16 → a ≠ 17 → a ≠ 19 → a ≠ 20 → V' a = V a)
    (hH : z_H A' V') (hH2 : z_H2 A') (hH3 : z_H3 A' V') : z_SW e A' V' := by
  obtain ⟨s1, s2, s3, s4, s5, s6, s7, s8, s9, s10, s11, s12, s13, s14, s15, s16, s17, s18⟩ := h
  have a : ∀ k, (k < 16 ∨ 21 ≤ k) → k ≠ 132 → A' k = A k := fun k hk h2 => oA k (by omega) (by omega) (by omega) (by omega) h2
  have v : ∀ k, (k < 16 ∨ 21 ≤ k) → V' k = V k := fun k hk => oV k (by omega) (by omega) (by omega) (by omega)
  refine ⟨z_pre_c s1 w (a 3 (by omega) (by omega)) (a 7 (by omega) (by omega)) (a 131 (by omega) (by omega)), ?_, z_tb_c s3 (a 3 (by omega) (by omega)) (a 8 (by omega) (by omega)) (a 9 (by omega) (by omega)) (a 42 (by omega) (by omega)), z_rm_c s4 (a 3 (by omega) (by omega)) (a 6 (by omega) (by omega)) (by rw [a 1 (by omega) (by omega)]), by rw [a 42 (by omega) (by omega), v 42 (by omega)]; exact s5,
    z_Mk_c s6 (a 3 (by omega) (by omega)) (a 131 (by omega) (by omega)) (v 131 (by omega)), m_ok_same s7 wV (v 7 (by omega)) (v 212 (by omega)), hH, hH2, hH3, ?_, z_QH_c s12 (a 22 (by omega) (by omega)) (a 24 (by omega) (by omega)) (a 14 (by omega) (by omega)) (a 23 (by omega) (by omega)) (a 28 (by omega) (by omega)) (a 27 (by omega) (by omega)), ?_,
    z_G_c s14 (a 1 (by omega) (by omega)) (a 43 (by omega) (by omega)) (v 1 (by omega)) (v 43 (by omega)), z_TH_c s15 (a 3 (by omega) (by omega)) (a 4 (by omega) (by omega)) (a 14 (by omega) (by omega)), z_TB_c s16 (a 3 (by omega) (by omega)) (a 14 (by omega) (by omega)) (a 8 (by omega) (by omega)) (a 131 (by omega) (by omega)), z_TR_c s17 (a 3 (by omega) (by omega)) (a 5 (by omega) (by omega)) (a 4 (by omega) (by omega)) (a 12 (by omega) (by omega)), z_PR_c s18 (a 9001 (by omega) (by omega))⟩
  · exact z_T_c s2 (a 3 (by omega) (by omega)) (a 4 (by omega) (by omega)) (a 5 (by omega) (by omega)) (a 6 (by omega) (by omega)) (a 7 (by omega) (by omega)) (a 8 (by omega) (by omega)) (a 9 (by omega) (by omega)) (a 10 (by omega) (by omega)) (a 11 (by omega) (by omega)) (a 12 (by omega) (by omega)) (v 212 (by omega)) (v 3 (by omega)) (v 4 (by omega)) (v 5 (by omega)) (v 6 (by omega)) (v 7 (by omega)) (v 8 (by omega)) (v 9 (by omega)) (v 10 (by omega)) (v 11 (by omega)) (v 12 (by omega))
  · exact z_RR_o s11 w (fun k h1 h2 => a k (by omega) (by omega)) (fun k h1 h2 => v k (by omega)) (by rw [v 201 (by omega)])
  · exact z_W_c s13 (a 36 (by omega) (by omega)) (a 37 (by omega) (by omega)) (a 38 (by omega) (by omega)) (a 39 (by omega) (by omega)) (a 40 (by omega) (by omega)) (a 41 (by omega) (by omega)) (v 36 (by omega)) (v 37 (by omega)) (v 38 (by omega)) (v 39 (by omega)) (v 40 (by omega)) (v 210 (by omega)) (v 211 (by omega)) (v 214 (by omega)) (v 215 (by omega)) (v 201 (by omega))
theorem q_of_1 {t v : Int} : q_of A t v = 1 ↔ (0 ≤ t ∧ t < 40 ∧ A 14 t.toNat = v) := by
  unfold q_of
  by_cases c : 0 ≤ t ∧ t < 40 ∧ A 14 t.toNat = v
  · rw [if_pos c]; exact ⟨fun _ => c, fun _ => rfl⟩
  · rw [if_neg c]; exact ⟨fun q => by omega, fun q => absurd q c⟩
/-- what a register, a pipe, a clock of a token tells is the same on both sides -/
theorem z_thf (hS : z_SW e A V) {t : Int} (ht : 0 ≤ t ∧ t < 120 ∧ A 3 t.toNat ≠ -1) (h4 : A 4 t.toNat ≠ -1) : V 4 t.toNat = A 4 t.toNat ∧ 0 ≤ A 4 t.toNat ∧ A 4 t.toNat < 40 ∧ A 14 (A 4 t.toNat).toNat ≠ -1 ∧
    V 14 (A 4 t.toNat).toNat = A 14 (A 4 t.toNat).toNat ∧ V 16 (A 4 t.toNat).toNat = A 16 (A 4 t.toNat).toNat ∧ V 17 (A 4 t.toNat).toNat = A 17 (A 4 t.toNat).toNat ∧ V 18 (A 4 t.toNat).toNat = A 18 (A 4 t.toNat).toNat ∧ V 19 (A 4 t.toNat).toNat = A 19 (A 4 t.toNat).toNat := by
  have hTt := hS.2.1 t.toNat (by omega)
  have hw := q_w4 (i := t.toNat) hS.1.1 (by omega)
  have hth := hS.2.2.2.2.2.2.2.2.2.2.2.2.2.2.1 t.toNat (by omega) ht.2.2 h4
  have hH := hS.2.2.2.2.2.2.2.1 (A 4 t.toNat).toNat (by omega)
  omega
theorem z_load (h : z_Rl e A V) {y a : Int} (hb : 0 ≤ y ∧ y < 40) (h14 : A 14 y.toNat = 1) : q_ro A y a = m_ld V y a ∧ (q_ro A y a = 1 → z_af e A V (q_roM A y a) (m_ldM V y a) ∧ q_roM A y a 132 2 = m_ldV V y a) ∧ (q_ro A y a ≠ 1 → q_roM A y a = A ∧ m_ldM V y a = V) := by
  obtain ⟨hS, hF, hH, h0⟩ := h
  have hft := z_ft hS (s := a) (r := 1) hb h14
  have tha := z_ta_th hS.1.1 hS.2.2.1 (b := y) (s := a)
  have hwA := fun g => m_ldA_w (V := V) (b := y) (a := a) hS.2.2.2.2.2.2.1.1 hb g
  have hdef : m_ld V y a = if m_ft V y a 1 ≠ -1 ∧ (m_ldk V y a = 0 ∨ m_ldk V y a = 4 ∨ m_ldk V y a = 5) then 1 else 0 := rfl
  unfold q_roM m_ldM q_ro
  generalize q_ta A y a = T at *
  have heq : q_roY A T = m_ld V y a := by
    rw [hdef]
    unfold m_ldk
    rw [hft]
    unfold q_roY
    by_cases c : q_fits A T 1 = 1 ∧ A 4 T.toNat ≠ -1
    · have nT := q_fits_ne c.1
      have hT : 0 ≤ T ∧ T < 120 ∧ A 3 T.toNat ≠ -1 := by rcases tha with q | q; exact absurd q nT; exact q
      obtain ⟨t4, t5, t6, t7, t8, -⟩ := z_thf hS hT c.2
      rw [if_pos c.1, if_pos c, t4, t8]
      have gi : (q_of A (A 4 T.toNat) 0 = 1 ∨ q_of A (A 4 T.toNat) 5 = 1 ∨ q_of A (A 4 T.toNat) 4 = 1) ↔ (A 14 (A 4 T.toNat).toNat = 0 ∨ A 14 (A 4 T.toNat).toNat = 4 ∨ A 14 (A 4 T.toNat).toNat = 5) := by
        rw [q_of_1, q_of_1, q_of_1]; omega
      by_cases g : q_of A (A 4 T.toNat) 0 = 1 ∨ q_of A (A 4 T.toNat) 5 = 1 ∨ q_of A (A 4 T.toNat) 4 = 1
      · rw [if_pos g, if_pos ⟨nT, gi.mp g⟩]
      · rw [if_neg g, if_neg (fun q => g (gi.mpr q.2))]
    · have zz : ∀ P : Prop, ¬ ((-1 : Int) ≠ -1 ∧ P) := fun P q => q.1 rfl
      rw [if_neg c, if_neg (zz _)]
      by_cases c1 : q_fits A T 1 = 1
      · rw [if_pos c1]
        have gi : ¬ (q_of A (A 4 T.toNat) 0 = 1 ∨ q_of A (A 4 T.toNat) 5 = 1 ∨ q_of A (A 4 T.toNat) 4 = 1) := by
          rw [q_of_1, q_of_1, q_of_1]
          intro q
          exact c ⟨c1, by omega⟩
        rw [if_neg gi]
      · rw [if_neg c1]
  refine ⟨heq, ?_, ?_⟩
  · intro c
    rw [← heq, if_pos c, if_pos c]
    have c' := c
    unfold q_roY at c'
    have hc : q_fits A T 1 = 1 ∧ (q_of A (A 4 T.toNat) 0 = 1 ∨ q_of A (A 4 T.toNat) 5 = 1 ∨ q_of A (A 4 T.toNat) 4 = 1) := by
      by_cases g : q_fits A T 1 = 1
      · rw [if_pos g] at c'
        refine ⟨g, ?_⟩
        split at c'
        · rename_i g2; exact g2
        · omega
      · rw [if_neg g] at c'; omega
    have hk := hc.2
    rw [q_of_1, q_of_1, q_of_1] at hk
    have nT := q_fits_ne hc.1
    have hT : 0 ≤ T ∧ T < 120 ∧ A 3 T.toNat ≠ -1 := by rcases tha with q | q; exact absurd q nT; exact q
    have n4 : A 4 T.toNat ≠ -1 := by omega
    rw [if_pos ⟨hc.1, n4⟩] at hft
    have hwA := hwA (by rw [hft]; exact nT)
    obtain ⟨t4, t5, t6, t7, t8, t9, t10, t11, t12⟩ := z_thf hS hT n4
    have h18 := q_w18 (i := (A 4 T.toNat).toNat) hS.1.1 (by omega)
    have h19 := q_w19 (i := (A 4 T.toNat).toNat) hS.1.1 (by omega)
    have h3 := (hS.2.2.2.2.2.2.2.2.2.1 (A 4 T.toNat).toNat (by omega) t7).2
    have hG := hS.2.2.2.2.2.2.2.2.2.2.2.2.2.1
    unfold m_ldV
    unfold m_ldA at hwA ⊢
    unfold m_ldn m_ldk at *
    rw [hft, t4, t8, t11, t12] at hwA ⊢
    unfold q_roL
    generalize hYe : A 4 T.toNat = Y at *
    -- what the memories come to
    have fin : ∀ B W : mj_M, q_wr B → q_wr W → (∀ a, a ≠ 19 → a ≠ 132 → B a = A a) → (∀ a, a ≠ 19 → W a = V a) → (∀ z, (z = Y.toNat ∧ A 14 z = 4 ∧ B 19 z = W 19 z) ∨ (B 19 z = A 19 z ∧ W 19 z = V 19 z)) → z_af e A V (q_use B T) (m_use W T) := by
      intro B W wB wW oB oW h19
      have hSW : z_SW e B W := by
        refine z_SW_th hS wB wW (fun a _ _ h _ h2 => oB a h h2) (fun a _ _ h _ => oW a h) ?_ ?_ ?_
        · intro z hz
          have g := hS.2.2.2.2.2.2.2.1 z hz
          rw [oB 14 (by omega) (by omega), oB 15 (by omega) (by omega), oB 16 (by omega) (by omega), oB 17 (by omega) (by omega), oB 18 (by omega) (by omega), oW 14 (by omega), oW 15 (by omega), oW 16 (by omega), oW 17 (by omega), oW 18 (by omega), oW 210 (by omega)]
          rcases h19 z with q | q
          · omega
          · omega
        · intro z hz
          have g := hS.2.2.2.2.2.2.2.2.1 z hz
          rw [oB 14 (by omega) (by omega), oB 15 (by omega) (by omega), oB 16 (by omega) (by omega), oB 17 (by omega) (by omega), oB 18 (by omega) (by omega), oB 3 (by omega) (by omega)]
          intro q
          obtain ⟨g1, g2, g3⟩ := g q
          refine ⟨g1, fun q2 => ?_, g3⟩
          rcases h19 z with q3 | q3
          · omega
          · rw [q3.1]; exact g2 q2
        · intro z hz
          have g := hS.2.2.2.2.2.2.2.2.2.1 z hz
          rw [oB 14 (by omega) (by omega), oB 17 (by omega) (by omega), oB 18 (by omega) (by omega), oB 20 (by omega) (by omega), oB 21 (by omega) (by omega), oW 20 (by omega), oW 21 (by omega)]
          exact g
      exact z_use_af hSW (z_F_c hF (oB 130 (by omega) (by omega)) (oB 131 (by omega) (by omega))) (z_HT_c hH (oB 14 (by omega) (by omega)) (oB 3 (by omega) (by omega)) (oB 4 (by omega) (by omega))) (by rw [oB 130 (by omega) (by omega)]; exact h0) ⟨hT.1, hT.2.1⟩ (by rw [oB 3 (by omega) (by omega)]; exact hT.2.2) (fun k k1 k2 => oB k (by omega) (by omega)) (fun k k1 k2 => oW k (by omega)) (oB 1 (by omega) (by omega)) (oW 1 (by omega))
    have use2 : ∀ B : mj_M, q_use B T 132 2 = B 132 2 := by
      intro B; unfold q_use q_mark; split
      · rw [mj_up_ne (by omega), mj_up_ne (by omega)]
      · rfl
    by_cases k0 : A 14 Y.toNat = 0
    · rw [if_pos (q_of_1.mpr ⟨t5, t6, k0⟩), use2, mj_up_at, if_pos rfl, if_neg (fun q => by omega), if_pos k0]
      refine ⟨fin _ _ (q_wr_up hS.1.1 (by simp [q_okv])) hS.2.2.2.2.2.2.1.1 (fun a h1 h2 => mj_up_ne h2) (fun a h => rfl) (fun z => Or.inr ⟨by rw [mj_up_ne (by omega)], rfl⟩), t9.symm⟩
    · rw [if_neg (fun q => k0 (q_of_1.mp q).2.2), if_neg k0]
      by_cases k5 : A 14 Y.toNat = 5
      · rw [if_pos (q_of_1.mpr ⟨t5, t6, k5⟩), use2, mj_up_at, if_pos rfl, if_neg (fun q => by omega), if_pos k5]
        refine ⟨fin _ _ (q_wr_up hS.1.1 (by simp [q_okv])) hS.2.2.2.2.2.2.1.1 (fun a h1 h2 => mj_up_ne h2) (fun a h => rfl) (fun z => Or.inr ⟨by rw [mj_up_ne (by omega)], rfl⟩), hG.2.1.symm⟩
      · rw [if_neg (fun q => k5 (q_of_1.mp q).2.2), if_neg k5, use2, mj_up_at, if_pos rfl]
        have k4 : A 14 Y.toNat = 4 := by omega
        unfold q_nin q_ninM
        by_cases g : A 18 Y.toNat ≤ A 19 Y.toNat
        · rw [if_pos g, if_pos g, if_neg (show ¬ A 19 Y.toNat < A 18 Y.toNat by omega), if_neg (fun q => by omega), if_neg (show ¬ ((0 : Int) = 1) by omega)]
          refine ⟨fin _ _ (q_wr_up hS.1.1 (by simp [q_okv])) hS.2.2.2.2.2.2.1.1 (fun a h1 h2 => mj_up_ne h2) (fun a h => rfl) (fun z => Or.inr ⟨by rw [mj_up_ne (by omega)], rfl⟩), rfl⟩
        · rw [if_pos (show A 19 Y.toNat < A 18 Y.toNat by omega), if_pos ⟨k4, rfl⟩, mj_w_id2 (by omega) (by omega)] at hwA
          rw [if_neg g, if_neg g, if_pos (show A 19 Y.toNat < A 18 Y.toNat by omega), if_pos ⟨k4, rfl⟩, if_pos rfl, mj_w_id2 (by omega) (by omega)]
          refine ⟨fin _ _ (q_wr_up (q_wr_up hS.1.1 (by simp [q_okv]; omega)) (by simp [q_okv])) hwA (fun a h1 h2 => by rw [mj_up_ne h2, mj_up_ne h1]) (fun a h => mj_up_ne h) (fun z => ?_), ?_⟩
          · rw [mj_up_ne (by omega), mj_up_at, mj_up_at]
            by_cases cz : z = Y.toNat
            · rw [if_pos cz, if_pos cz, cz]; exact Or.inl ⟨rfl, k4, rfl⟩
            · rw [if_neg cz, if_neg cz]; exact Or.inr ⟨rfl, rfl⟩
          · have := h3 (A 19 Y.toNat).toNat (by omega) (by omega)
            rw [show (30 * Y + A 19 Y.toNat).toNat = 30 * Y.toNat + (A 19 Y.toNat).toNat by omega]
            exact this.symm
  · intro c
    rw [← heq, if_neg c, if_neg c]
    exact ⟨rfl, rfl⟩
end re21
