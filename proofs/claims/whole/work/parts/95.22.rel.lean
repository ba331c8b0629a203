section re22
variable {A B C V W A' V' : mj_M} {e : Nat}
theorem z_store (h : z_Rl e A V) {y a v : Int} (hb : 0 ≤ y ∧ y < 40) (h14 : A 14 y.toNat = 1) (hfA : q_few A 99999999) (hfV : q_few V 99999999) : z_act e A V (q_wi A y a) (m_st V y a) (q_wiM A y a v) (m_stM V y a v) := by
  obtain ⟨hS, hF, hH, h0⟩ := h
  have hft := z_ft hS (s := a) (r := 2) hb h14
  have tha := z_ta_th hS.1.1 hS.2.2.1 (b := y) (s := a)
  have hwA := fun g => m_stA_w (V := V) (b := y) (a := a) (v := v) hS.2.2.2.2.2.2.1.1 hfV hb g
  have hdef : m_st V y a = if m_ft V y a 2 ≠ -1 ∧ (V 14 (V 4 (m_ft V y a 2).toNat).toNat = 0 ∨ V 14 (V 4 (m_ft V y a 2).toNat).toNat = 4) then 1 else 0 := rfl
  unfold q_wiM m_stM q_wi
  generalize q_ta A y a = T at *
  have heq : q_wiY A T = m_st V y a := by
    rw [hdef, hft]
    unfold q_wiY
    by_cases c : q_fits A T 2 = 1 ∧ A 4 T.toNat ≠ -1
    · have nT := q_fits_ne c.1
      have hT : 0 ≤ T ∧ T < 120 ∧ A 3 T.toNat ≠ -1 := by rcases tha with q | q; exact absurd q nT; exact q
      obtain ⟨t4, t5, t6, t7, t8, -⟩ := z_thf hS hT c.2
      rw [if_pos c.1, if_pos c, t4, t8]
      have gi : (q_of A (A 4 T.toNat) 0 = 1 ∨ q_of A (A 4 T.toNat) 4 = 1) ↔ (A 14 (A 4 T.toNat).toNat = 0 ∨ A 14 (A 4 T.toNat).toNat = 4) := by
        rw [q_of_1, q_of_1]; omega
      by_cases g : q_of A (A 4 T.toNat) 0 = 1 ∨ q_of A (A 4 T.toNat) 4 = 1
      · rw [if_pos g, if_pos ⟨nT, gi.mp g⟩]
      · rw [if_neg g, if_neg (fun q => g (gi.mpr q.2))]
    · have zz : ∀ P : Prop, ¬ ((-1 : Int) ≠ -1 ∧ P) := fun P q => q.1 rfl
      rw [if_neg c, if_neg (zz _)]
      by_cases c1 : q_fits A T 2 = 1
      · rw [if_pos c1]
        have gi : ¬ (q_of A (A 4 T.toNat) 0 = 1 ∨ q_of A (A 4 T.toNat) 4 = 1) := by
          rw [q_of_1, q_of_1]
          intro q
          exact c ⟨c1, by omega⟩
        rw [if_neg gi]
      · rw [if_neg c1]
  refine ⟨heq, ?_, ?_⟩
  · intro c
    rw [← heq, if_pos c, if_pos c]
    have c' := c
    unfold q_wiY at c'
    have hc : q_fits A T 2 = 1 ∧ (q_of A (A 4 T.toNat) 0 = 1 ∨ q_of A (A 4 T.toNat) 4 = 1) := by
      by_cases g : q_fits A T 2 = 1
      · rw [if_pos g] at c'
        refine ⟨g, ?_⟩
        split at c'
        · rename_i g2; exact g2
        · omega
      · rw [if_neg g] at c'; omega
    have hk := hc.2
    rw [q_of_1, q_of_1] at hk
    have nT := q_fits_ne hc.1
    have hT : 0 ≤ T ∧ T < 120 ∧ A 3 T.toNat ≠ -1 := by rcases tha with q | q; exact absurd q nT; exact q
    have n4 : A 4 T.toNat ≠ -1 := by omega
    rw [if_pos ⟨hc.1, n4⟩] at hft
    have hwA := hwA (by rw [hft]; exact nT)
    obtain ⟨t4, t5, t6, t7, t8, t9, t10, t11, t12⟩ := z_thf hS hT n4
    have h17 := q_w17 (i := (A 4 T.toNat).toNat) hS.1.1 (by omega)
    have h17f := hfA (A 4 T.toNat).toNat (by omega)
    unfold m_stA at hwA ⊢
    unfold q_wiL
    rw [hft, t4, t8] at hwA ⊢
    generalize hYe : A 4 T.toNat = Y at *
    have fin : ∀ B W : mj_M, q_wr B → q_wr W → (∀ a, a ≠ 16 → a ≠ 17 → a ≠ 20 → B a = A a) → (∀ a, a ≠ 16 → a ≠ 17 → a ≠ 20 → W a = V a) → z_H B W → z_H2 B → z_H3 B W → z_af e A V (q_use B T) (m_use W T) := by
      intro B W wB wW oB oW gH gH2 gH3
      have hSW : z_SW e B W := z_SW_th hS wB wW (fun a h1 h2 _ h4 _ => oB a h1 h2 h4) (fun a h1 h2 _ h4 => oW a h1 h2 h4) gH gH2 gH3
      exact z_use_af hSW (z_F_c hF (oB 130 (by omega) (by omega) (by omega)) (oB 131 (by omega) (by omega) (by omega))) (z_HT_c hH (oB 14 (by omega) (by omega) (by omega)) (oB 3 (by omega) (by omega) (by omega)) (oB 4 (by omega) (by omega) (by omega))) (by rw [oB 130 (by omega) (by omega) (by omega)]; exact h0) ⟨hT.1, hT.2.1⟩ (by rw [oB 3 (by omega) (by omega) (by omega)]; exact hT.2.2) (fun k k1 k2 => oB k (by omega) (by omega) (by omega)) (fun k k1 k2 => oW k (by omega) (by omega) (by omega)) (oB 1 (by omega) (by omega) (by omega)) (oW 1 (by omega) (by omega) (by omega))
    have gH := hS.2.2.2.2.2.2.2.1
    have gH2 := hS.2.2.2.2.2.2.2.2.1
    have gH3 := hS.2.2.2.2.2.2.2.2.2.1
    by_cases k0 : A 14 Y.toNat = 0
    · rw [if_pos k0] at hwA
      rw [if_pos (q_of_1.mpr ⟨t5, t6, k0⟩), if_pos k0]
      have ne16 : ∀ (M : mj_M) a, a ≠ 16 → mj_up M 16 Y.toNat v a = M a := fun M a h => mj_up_ne h
      refine fin _ _ (q_wr_up hS.1.1 (by simp [q_okv])) hwA (fun a h1 h2 h3 => ne16 _ a h1) (fun a h1 h2 h3 => ne16 _ a h1) ?_ ?_ ?_
      · intro z hz
        have g := gH z hz
        rw [ne16 A 14 (by omega), ne16 A 15 (by omega), ne16 A 17 (by omega), ne16 A 18 (by omega), ne16 A 19 (by omega), ne16 V 14 (by omega), ne16 V 15 (by omega), ne16 V 17 (by omega), ne16 V 18 (by omega), ne16 V 19 (by omega), ne16 V 210 (by omega), mj_up_at, mj_up_at]
        by_cases cz : z = Y.toNat
        · rw [if_pos cz, if_pos cz]
          rcases g with q | q
          · exact Or.inl q
          · exact Or.inr ⟨q.1, q.2.1, q.2.2.1, q.2.2.2.1, rfl, q.2.2.2.2.2⟩
        · rw [if_neg cz, if_neg cz]; exact g
      · intro z hz
        have g := gH2 z hz
        rw [ne16 A 14 (by omega), ne16 A 15 (by omega), ne16 A 17 (by omega), ne16 A 18 (by omega), ne16 A 19 (by omega), ne16 A 3 (by omega), mj_up_at]
        intro q
        obtain ⟨g1, g2, g3⟩ := g q
        refine ⟨fun q2 => ?_, g2, g3⟩
        rw [if_neg (fun cz => q2 (by rw [cz]; exact k0))]
        exact g1 q2
      · intro z hz
        rw [ne16 A 14 (by omega), ne16 A 17 (by omega), ne16 A 18 (by omega), ne16 A 20 (by omega), ne16 A 21 (by omega), ne16 V 20 (by omega), ne16 V 21 (by omega)]
        exact gH3 z hz
    · have k4 : A 14 Y.toNat = 4 := by omega
      rw [if_neg k0] at hwA
      rw [if_neg (fun q => k0 (q_of_1.mp q).2.2), if_neg k0]
      unfold m_stO at hwA ⊢
      unfold q_pout
      rw [t10, mj_w_id2 (by omega) (by omega)] at hwA
      rw [t10, mj_w_id2 (by omega) (by omega)]
      -- both shapes at once
      have fin2 : ∀ B W : mj_M, q_wr B → q_wr W → (∀ a, a ≠ 17 → a ≠ 20 → B a = A a) → (∀ a, a ≠ 17 → a ≠ 20 → W a = V a) → (∀ z, B 17 z = if z = Y.toNat then A 17 Y.toNat + 1 else A 17 z) → (∀ z, W 17 z = if z = Y.toNat then A 17 Y.toNat + 1 else V 17 z) →
          (∀ j, (A 17 Y.toNat < 30 ∧ j = 30 * Y.toNat + (A 17 Y.toNat).toNat ∧ B 20 j = W 20 j) ∨ ((¬ (A 17 Y.toNat < 30) ∨ j ≠ 30 * Y.toNat + (A 17 Y.toNat).toNat) ∧ B 20 j = A 20 j ∧ W 20 j = V 20 j)) → z_af e A V (q_use B T) (m_use W T) := by
        intro B W wB wW oB oW b17 w17 h20
        refine fin B W wB wW (fun a h1 h2 h3 => oB a h2 h3) (fun a h1 h2 h3 => oW a h2 h3) ?_ ?_ ?_
        · intro z hz
          have g := gH z hz
          rw [oB 14 (by omega) (by omega), oB 15 (by omega) (by omega), oB 16 (by omega) (by omega), oB 18 (by omega) (by omega), oB 19 (by omega) (by omega), oW 14 (by omega) (by omega), oW 15 (by omega) (by omega), oW 16 (by omega) (by omega), oW 18 (by omega) (by omega), oW 19 (by omega) (by omega), oW 210 (by omega) (by omega), b17, w17]
          by_cases cz : z = Y.toNat
          · rw [if_pos cz, if_pos cz]
            rcases g with q | q
            · exact Or.inl q
            · exact Or.inr ⟨q.1, q.2.1, q.2.2.1, q.2.2.2.1, q.2.2.2.2.1, rfl, q.2.2.2.2.2.2⟩
          · rw [if_neg cz, if_neg cz]; exact g
        · intro z hz
          have g := gH2 z hz
          rw [oB 14 (by omega) (by omega), oB 15 (by omega) (by omega), oB 16 (by omega) (by omega), oB 18 (by omega) (by omega), oB 19 (by omega) (by omega), oB 3 (by omega) (by omega), b17]
          intro q
          obtain ⟨g1, g2, g3⟩ := g q
          refine ⟨g1, fun q2 => ?_, g3⟩
          rw [if_neg (fun cz => q2 (by rw [cz]; exact k4))]
          exact g2 q2
        · intro z hz
          have g := gH3 z hz
          rw [oB 14 (by omega) (by omega), oB 18 (by omega) (by omega), oB 21 (by omega) (by omega), oW 21 (by omega) (by omega), b17]
          intro q
          obtain ⟨g1, g2⟩ := g q
          refine ⟨fun j hj hj2 => ?_, g2⟩
          rcases h20 (30 * z + j) with q3 | ⟨q3, q4, q5⟩
          · exact q3.2.2.symm
          · rw [q4, q5]
            by_cases cz : z = Y.toNat
            · rw [if_pos cz] at hj2
              apply g1 j hj
              rw [cz] at q3 ⊢
              omega
            · rw [if_neg cz] at hj2
              exact g1 j hj hj2
      by_cases k30 : A 17 Y.toNat < 30
      · rw [if_pos k30] at hwA
        rw [if_pos k30, if_pos k30]
        have ej : (30 * Y + A 17 Y.toNat).toNat = 30 * Y.toNat + (A 17 Y.toNat).toNat := by omega
        rw [ej] at hwA ⊢
        refine fin2 _ _ (q_wr_up (q_wr_up hS.1.1 (by simp [q_okv])) (by simp [q_okv]; omega)) hwA (fun a h1 h2 => by rw [mj_up_ne h1, mj_up_ne h2]) (fun a h1 h2 => by rw [mj_up_ne h1, mj_up_ne h2]) (fun z => by rw [mj_up_at, mj_up_ne (by omega)]) (fun z => by rw [mj_up_at, mj_up_ne (by omega)]) (fun j => ?_)
        simp only [mj_up_ne (show (20 : Nat) ≠ 17 by decide), mj_up_at]
        by_cases cj : j = 30 * Y.toNat + (A 17 Y.toNat).toNat
        · rw [if_pos cj, if_pos cj]; exact Or.inl ⟨k30, cj, rfl⟩
        · rw [if_neg cj, if_neg cj]; exact Or.inr ⟨Or.inr cj, rfl, rfl⟩
      · rw [if_neg k30] at hwA
        rw [if_neg k30, if_neg k30]
        refine fin2 _ _ (q_wr_up hS.1.1 (by simp [q_okv]; omega)) hwA (fun a h1 h2 => by rw [mj_up_ne h1]) (fun a h1 h2 => by rw [mj_up_ne h1]) (fun z => by rw [mj_up_at]) (fun z => by rw [mj_up_at]) (fun j => ?_)
        rw [mj_up_ne (by omega), mj_up_ne (by omega)]
        exact Or.inr ⟨Or.inl k30, rfl, rfl⟩
  · intro c
    rw [← heq, if_neg c, if_neg c]
    exact ⟨rfl, rfl⟩
end re22
