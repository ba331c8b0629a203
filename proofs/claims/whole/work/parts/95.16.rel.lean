section re16
variable {A B C V W A' V' : mj_M} {e : Nat}
theorem q_fits_ne {t r : Int} (h : q_fits A t r = 1) : t ≠ -1 := by
  intro q; unfold q_fits at h; rw [if_neg (fun g => g.1 q)] at h; omega
/-- what an act comes to, on both sides -/
def z_act (e : Nat) (A V : mj_M) (p q : Int) (A' V' : mj_M) : Prop := p = q ∧ (p = 1 → z_af e A V A' V') ∧ (p ≠ 1 → A' = A ∧ V' = V)
theorem z_seal (h : z_Rl e A V) {y a b : Int} (hb : 0 ≤ y ∧ y < 40) (h14 : A 14 y.toNat = 1) : z_act e A V (q_seal A (q_ta A y a) (q_ta A y b)) (m_se V y a b) (q_sealM A (q_ta A y a) (q_ta A y b)) (m_seM V y a b) := by
  obtain ⟨hS, hF, hH, h0⟩ := h
  have hfi := z_fi hS (s := a) (r := 4) hb h14
  have hft := z_ft hS (s := b) (r := 2) hb h14
  have tha := z_ta_th hS.1.1 hS.2.2.1 (b := y) (s := a)
  have thb := z_ta_th hS.1.1 hS.2.2.1 (b := y) (s := b)
  generalize q_ta A y a = T at *
  generalize q_ta A y b = U at *
  have heq : q_seal A T U = m_se V y a b := by
    unfold q_seal m_se
    rw [hfi, hft]
    by_cases c1 : q_fits A T 4 = 1
    · rw [if_pos c1]
      by_cases c2 : q_fits A U 2 = 1 ∧ A 4 U.toNat ≠ -1
      · rw [if_pos c2, if_pos ⟨c1, c2⟩, if_pos ⟨q_fits_ne c1, q_fits_ne c2.1⟩]
      · rw [if_neg c2, if_neg (fun q => c2 q.2), if_neg (fun q => q.2 rfl)]
    · rw [if_neg c1, if_neg (fun q => c1 q.1), if_neg (fun q => q.1 rfl)]
  refine ⟨heq, ?_, ?_⟩
  · intro c
    unfold q_sealM m_seM
    rw [← heq, if_pos c, if_pos c]
    unfold q_seal at c
    have hc : q_fits A T 4 = 1 ∧ q_fits A U 2 = 1 ∧ A 4 U.toNat ≠ -1 := by
      by_cases g : q_fits A T 4 = 1 ∧ q_fits A U 2 = 1 ∧ A 4 U.toNat ≠ -1
      · exact g
      · rw [if_neg g] at c; omega
    rw [if_pos hc.1] at hfi
    rw [if_pos hc.2] at hft
    rw [hfi, hft]
    have nT := q_fits_ne hc.1
    have nU := q_fits_ne hc.2.1
    have hT : 0 ≤ T ∧ T < 120 ∧ A 3 T.toNat ≠ -1 := by rcases tha with q | q; exact absurd q nT; exact q
    have hU : 0 ≤ U ∧ U < 120 ∧ A 3 U.toNat ≠ -1 := by rcases thb with q | q; exact absurd q nU; exact q
    have hUt := hS.2.1 U.toNat (by omega)
    have e4 : V 4 U.toNat = A 4 U.toNat := by omega
    have h4 := q_w4 (i := U.toNat) hS.1.1 (by omega)
    unfold m_seA
    rw [e4]
    have hS1 : z_SW e (mj_up A 10 T.toNat (A 4 U.toNat)) (mj_up V 10 T.toNat (A 4 U.toNat)) := by
      refine z_SW_tok hS (q_wr_up hS.1.1 (by simp [q_okv]; omega)) (q_wr_up hS.2.2.2.2.2.2.1.1 (by simp [q_okv]; omega)) (fun k k1 k2 k3 k4 => mj_up_ne k2) (fun k k1 k2 k3 k4 => mj_up_ne k2) ?_
      intro t ht h3
      have hTt := hS.2.1 t ht
      have hTR := hS.2.2.2.2.2.2.2.2.2.2.2.2.2.2.2.2.1 t ht h3
      simp only [mj_up_at, mj_up_ne (show (6:Nat) ≠ 10 by decide), mj_up_ne (show (11:Nat) ≠ 10 by decide), mj_up_ne (show (12:Nat) ≠ 10 by decide)]
      refine ⟨by omega, ?_, by omega, by omega, hS.2.2.2.1.1 t ht h3, hTR.2.2⟩
      split
      · rfl
      · omega
    have F1 : z_F (mj_up A 10 T.toNat (A 4 U.toNat)) := z_F_c hF (mj_up_ne (by omega)) (mj_up_ne (by omega))
    have H1 : z_HT (mj_up A 10 T.toNat (A 4 U.toNat)) 40 := z_HT_c hH (mj_up_ne (by omega)) (mj_up_ne (by omega)) (mj_up_ne (by omega))
    exact z_use_af hS1 F1 H1 (by rw [mj_up_ne (by omega)]; exact h0) ⟨hU.1, hU.2.1⟩ (by rw [mj_up_ne (by omega)]; exact hU.2.2) (fun k k1 k2 => mj_up_ne (by omega)) (fun k k1 k2 => mj_up_ne (by omega)) (mj_up_ne (by omega)) (mj_up_ne (by omega))
  · intro c
    unfold q_sealM m_seM
    rw [← heq, if_neg c, if_neg c]
    exact ⟨rfl, rfl⟩
theorem z_open (h : z_Rl e A V) {y a b : Int} (hb : 0 ≤ y ∧ y < 40) (h14 : A 14 y.toNat = 1) : z_act e A V (q_open A (q_ta A y a) (q_ta A y b)) (m_op V y a b) (q_openM A (q_ta A y a) (q_ta A y b)) (m_opM V y a b) := by
  obtain ⟨hS, hF, hH, h0⟩ := h
  have hat := z_at hS.2.2.2.2.1 (s := a) hb h14
  have hft := z_ft hS (s := b) (r := 1) hb h14
  have tha := z_ta_th hS.1.1 hS.2.2.1 (b := y) (s := a)
  have thb := z_ta_th hS.1.1 hS.2.2.1 (b := y) (s := b)
  unfold q_openM m_opM
  have hdef : m_op V y a b = if m_at V y a ≠ -1 ∧ m_ft V y b 1 ≠ -1 ∧ V 10 (m_at V y a).toNat = V 4 (m_ft V y b 1).toNat then 1 else 0 := rfl
  rw [← hat] at hdef
  rw [← hat]
  generalize q_ta A y a = T at *
  generalize q_ta A y b = U at *
  have hTe : T ≠ -1 → V 10 T.toNat = A 10 T.toNat ∧ 0 ≤ T ∧ T < 120 ∧ A 3 T.toNat ≠ -1 := by
    intro q
    rcases tha with g | g
    · exact absurd g q
    · have := hS.2.1 T.toNat (by omega); omega
  have hUe : U ≠ -1 → V 4 U.toNat = A 4 U.toNat ∧ 0 ≤ U ∧ U < 120 ∧ A 3 U.toNat ≠ -1 := by
    intro q
    rcases thb with g | g
    · exact absurd g q
    · have := hS.2.1 U.toNat (by omega); omega
  have heq : q_open A T U = m_op V y a b := by
    rw [hdef, hft]
    unfold q_open
    by_cases c0 : T = -1
    · rw [if_neg (fun q => q.1 c0), if_neg (fun q => q.1 c0)]
    by_cases c2 : q_fits A U 1 = 1 ∧ A 4 U.toNat ≠ -1
    · rw [if_pos c2, (hTe c0).1, (hUe (q_fits_ne c2.1)).1]
      by_cases c3 : A 4 U.toNat = A 10 T.toNat
      · rw [if_pos ⟨c0, by rw [← c3]; exact c2.2, c2.1, c3⟩, if_pos ⟨c0, q_fits_ne c2.1, c3.symm⟩]
      · rw [if_neg (fun q => c3 q.2.2.2), if_neg (fun q => c3 q.2.2.symm)]
    · rw [if_neg c2, if_neg (fun q => c2 ⟨q.2.2.1, by rw [q.2.2.2]; exact q.2.1⟩), if_neg (fun q => q.2.1 rfl)]
  refine ⟨heq, ?_, ?_⟩
  · intro c
    rw [← heq, if_pos c, if_pos c]
    have hc : T ≠ -1 ∧ A 10 T.toNat ≠ -1 ∧ q_fits A U 1 = 1 ∧ A 4 U.toNat = A 10 T.toNat := by
      unfold q_open at c
      split at c
      · rename_i g; exact g
      · omega
    rw [if_pos ⟨hc.2.2.1, by rw [hc.2.2.2]; exact hc.2.1⟩] at hft
    rw [hft]
    have hT := hTe hc.1
    have hU := hUe (q_fits_ne hc.2.2.1)
    unfold m_opA
    have hS1 : z_SW e (mj_up A 10 T.toNat (-1)) (mj_up V 10 T.toNat (-1)) := by
      refine z_SW_tok hS (q_wr_up hS.1.1 (by simp [q_okv])) (q_wr_up hS.2.2.2.2.2.2.1.1 (by simp [q_okv])) (fun k k1 k2 k3 k4 => mj_up_ne k2) (fun k k1 k2 k3 k4 => mj_up_ne k2) ?_
      intro t ht h3
      have hTt := hS.2.1 t ht
      have hTR := hS.2.2.2.2.2.2.2.2.2.2.2.2.2.2.2.2.1 t ht h3
      simp only [mj_up_at, mj_up_ne (show (6:Nat) ≠ 10 by decide), mj_up_ne (show (11:Nat) ≠ 10 by decide), mj_up_ne (show (12:Nat) ≠ 10 by decide)]
      refine ⟨by omega, ?_, by omega, by omega, hS.2.2.2.1.1 t ht h3, hTR.2.2⟩
      split
      · rfl
      · omega
    have F1 : z_F (mj_up A 10 T.toNat (-1)) := z_F_c hF (mj_up_ne (by omega)) (mj_up_ne (by omega))
    have H1 : z_HT (mj_up A 10 T.toNat (-1)) 40 := z_HT_c hH (mj_up_ne (by omega)) (mj_up_ne (by omega)) (mj_up_ne (by omega))
    exact z_use_af hS1 F1 H1 (by rw [mj_up_ne (by omega)]; exact h0) ⟨hU.2.1, hU.2.2.1⟩ (by rw [mj_up_ne (by omega)]; exact hU.2.2.2) (fun k k1 k2 => mj_up_ne (by omega)) (fun k k1 k2 => mj_up_ne (by omega)) (mj_up_ne (by omega)) (mj_up_ne (by omega))
  · intro c
    rw [← heq, if_neg c, if_neg c]
    exact ⟨rfl, rfl⟩
theorem z_drop (h : z_Rl e A V) {y a : Int} (hb : 0 ≤ y ∧ y < 40) (h14 : A 14 y.toNat = 1) : z_act e A V (q_drop (q_ta A y a)) (m_dr V y a) (q_dropM A (q_ta A y a)) (m_drM V y a) := by
  obtain ⟨hS, hF, hH, h0⟩ := h
  have hat := z_at hS.2.2.2.2.1 (s := a) hb h14
  have tha := z_ta_th hS.1.1 hS.2.2.1 (b := y) (s := a)
  unfold q_drop m_dr q_dropM m_drM
  rw [← hat]
  generalize q_ta A y a = T at *
  rcases tha with q | ⟨q1, q2, q3⟩
  · have n : ¬ T ≠ -1 := fun g => g q
    rw [if_neg n, if_neg n, if_neg n]
    exact ⟨rfl, fun g => by omega, fun _ => ⟨rfl, rfl⟩⟩
  · have n : T ≠ -1 := by omega
    rw [if_pos n, if_pos n, if_pos n]
    exact ⟨rfl, fun _ => z_mark_af hS hH ⟨q1, q2⟩ q3 (fun _ _ _ => rfl) (fun _ _ _ => rfl) rfl rfl, fun g => absurd rfl g⟩
theorem z_till (h : z_Rl e A V) {y a b : Int} (hb : 0 ≤ y ∧ y < 40) (h14 : A 14 y.toNat = 1) : z_act e A V (q_till A (q_ta A y a) b) (m_ti V y a b) (q_tillM A (q_ta A y a) b) (m_tiM V y a b) := by
  obtain ⟨hS, hF, hH, h0⟩ := h
  have hfi := z_fi hS (s := a) (r := 4) hb h14
  have tha := z_ta_th hS.1.1 hS.2.2.1 (b := y) (s := a)
  generalize q_ta A y a = T at *
  have heq : q_till A T b = m_ti V y a b := by
    unfold q_till m_ti
    rw [hfi]
    by_cases c1 : q_fits A T 4 = 1
    · rw [if_pos c1]
      by_cases c2 : 0 ≤ b ∧ b ≤ 998
      · rw [if_pos ⟨c2.1, c2.2, c1⟩, if_pos ⟨q_fits_ne c1, c2⟩]
      · rw [if_neg (fun q => c2 ⟨q.1, q.2.1⟩), if_neg (fun q => c2 q.2)]
    · rw [if_neg c1, if_neg (fun q => c1 q.2.2), if_neg (fun q => q.1 rfl)]
  refine ⟨heq, ?_, ?_⟩
  · intro c
    have hc : q_fits A T 4 = 1 := by
      unfold q_till at c
      split at c
      · rename_i g; exact g.2.2
      · omega
    rw [if_pos hc] at hfi
    have nT := q_fits_ne hc
    have hT : 0 ≤ T ∧ T < 120 ∧ A 3 T.toNat ≠ -1 := by rcases tha with q | q; exact absurd q nT; exact q
    have hTt := hS.2.1 T.toNat (by omega)
    have e11 : V 11 T.toNat = A 11 T.toNat := by omega
    unfold q_tillM m_tiM
    rw [← heq, hfi, e11]
    by_cases c2 : A 11 T.toNat = -1 ∨ b < A 11 T.toNat
    · rw [if_pos ⟨c, c2⟩, if_pos ⟨c, c2⟩]
      have hS1 : z_SW e (mj_up A 11 T.toNat b) (mj_up V 11 T.toNat b) := by
        refine z_SW_tok hS (q_wr_up hS.1.1 (by simp [q_okv])) (q_wr_up hS.2.2.2.2.2.2.1.1 (by simp [q_okv])) (fun k k1 k2 k3 k4 => mj_up_ne k3) (fun k k1 k2 k3 k4 => mj_up_ne k3) ?_
        intro t ht h3
        have hTt := hS.2.1 t ht
        have hTR := hS.2.2.2.2.2.2.2.2.2.2.2.2.2.2.2.2.1 t ht h3
        simp only [mj_up_at, mj_up_ne (show (6:Nat) ≠ 11 by decide), mj_up_ne (show (10:Nat) ≠ 11 by decide), mj_up_ne (show (12:Nat) ≠ 11 by decide)]
        refine ⟨by omega, by omega, ?_, by omega, hS.2.2.2.1.1 t ht h3, hTR.2.2⟩
        split
        · rfl
        · omega
      exact z_af_no hS1 (z_F_c hF (mj_up_ne (by omega)) (mj_up_ne (by omega))) (z_HT_c hH (mj_up_ne (by omega)) (mj_up_ne (by omega)) (mj_up_ne (by omega))) (by rw [mj_up_ne (by omega)]; exact h0) (fun k k1 k2 => mj_up_ne (by omega)) (fun k k1 k2 => mj_up_ne (by omega)) (mj_up_ne (by omega)) (mj_up_ne (by omega))
    · rw [if_neg (fun q => c2 q.2), if_neg (fun q => c2 q.2)]
      exact z_af_no hS hF hH h0 (fun _ _ _ => rfl) (fun _ _ _ => rfl) rfl rfl
  · intro c
    unfold q_tillM m_tiM
    rw [← heq, if_neg (fun q => c q.1), if_neg (fun q => c q.1)]
    exact ⟨rfl, rfl⟩
theorem z_lend_act (h : z_Rl e A V) {y a s k mask r : Int} (hb : 0 ≤ y ∧ y < 40) (h14 : A 14 y.toNat = 1) (hk : 0 ≤ k ∧ k ≤ 3) (hm : ∀ x : Int, 0 ≤ x ∧ x ≤ 31 → mj_and x mask = mj_and x r) :
    z_act e A V (q_lend A (q_ta A y a) y s) (m_ln V y a y s) (q_lendM A (q_ta A y a) k mask y s) (m_lnM V y a k r y s) := by
  obtain ⟨l1, l2, l3, l4, l5, l6, l7⟩ := z_lend h (a := a) (s := s) hb h14 hb h14 hk hm
  refine ⟨l1, fun _ => z_af_no l2.1 l2.2.1 l2.2.2.1 l2.2.2.2 (fun j h1 h2 => l3 j (by omega) (by omega)) (fun j h1 h2 => l4 j (by omega) (by omega) (by omega) (by omega)) l5 l6, ?_⟩
  intro c
  have c2 := c
  rw [l1] at c2
  unfold q_lendM m_lnM
  rw [if_neg c, if_neg c2]
  exact ⟨rfl, rfl⟩
theorem z_fk (hS : z_SW e A V) {b s r : Int} (h : 0 ≤ b ∧ b < 40) (h14 : A 14 b.toNat = 1) : m_fk V b s r 1 = if q_ob A (q_ta A b s) r = 1 then q_ta A b s else -1 := by
  have hft := z_ft hS (s := s) (r := r) h h14
  have th := z_ta_th hS.1.1 hS.2.2.1 (b := b) (s := s)
  unfold m_fk
  rw [hft]
  generalize q_ta A b s = T at *
  by_cases c : q_fits A T r = 1 ∧ A 4 T.toNat ≠ -1
  · rw [if_pos c]
    have nT := q_fits_ne c.1
    have hT : 0 ≤ T ∧ T < 120 ∧ A 3 T.toNat ≠ -1 := by rcases th with q | q; exact absurd q nT; exact q
    have hTt := hS.2.1 T.toNat (by omega)
    have e4 : V 4 T.toNat = A 4 T.toNat := by omega
    have h4 := q_w4 (i := T.toNat) hS.1.1 (by omega)
    have hth4 := hS.2.2.2.2.2.2.2.2.2.2.2.2.2.2.1 T.toNat (by omega) hT.2.2 c.2
    have hH := hS.2.2.2.2.2.2.2.1 (A 4 T.toNat).toNat (by omega)
    have e14 : V 14 (A 4 T.toNat).toNat = A 14 (A 4 T.toNat).toNat := by omega
    rw [e4, e14]
    have hob : q_ob A T r = 1 ↔ A 14 (A 4 T.toNat).toNat = 1 := by
      unfold q_ob q_of
      by_cases g : A 14 (A 4 T.toNat).toNat = 1
      · have g2 : 0 ≤ A 4 T.toNat ∧ A 4 T.toNat < 40 ∧ A 14 (A 4 T.toNat).toNat = 1 := ⟨by omega, by omega, g⟩
        rw [if_pos g2, if_pos ⟨c.1, rfl⟩]; exact ⟨fun _ => g, fun _ => rfl⟩
      · have g2 : ¬ (0 ≤ A 4 T.toNat ∧ A 4 T.toNat < 40 ∧ A 14 (A 4 T.toNat).toNat = 1) := fun q => g q.2.2
        rw [if_neg g2, if_neg (fun q => by omega)]; exact ⟨fun q => by omega, fun q => absurd q g⟩
    by_cases g : A 14 (A 4 T.toNat).toNat = 1
    · rw [if_pos ⟨nT, g⟩, if_pos (hob.mpr g)]
    · rw [if_neg (fun q => g q.2), if_neg (fun q => g (hob.mp q))]
  · rw [if_neg c, if_neg (fun q => q.1 rfl), if_neg]
    intro q
    unfold q_ob at q
    split at q
    · rename_i g
      apply c
      refine ⟨g.1, ?_⟩
      intro g2
      rw [g2] at g
      have := g.2
      unfold q_of at this
      rw [if_neg (by omega)] at this
      omega
    · omega
theorem q_ob_in {t r : Int} (h : q_ob A t r = 1) : q_fits A t r = 1 ∧ 0 ≤ A 4 t.toNat ∧ A 4 t.toNat < 40 ∧ A 14 (A 4 t.toNat).toNat = 1 := by
  unfold q_ob at h
  split at h
  · rename_i g
    refine ⟨g.1, ?_⟩
    have := g.2
    unfold q_of at this
    split at this
    · rename_i g2; exact g2
    · omega
  · omega
theorem z_putbox (h : z_Rl e A V) {y a b s : Int} (hb : 0 ≤ y ∧ y < 40) (h14 : A 14 y.toNat = 1) : z_act e A V (q_ppY A (q_ta A y a) (q_ta A y b) s) (m_pu V y a b s) (q_ppM A (q_ta A y a) (q_ta A y b) s) (m_puM V y a b s) := by
  have hS := h.1
  have hfk := z_fk hS (s := b) (r := 2) hb h14
  have th := z_ta_th hS.1.1 hS.2.2.1 (b := y) (s := b)
  by_cases c : q_ob A (q_ta A y b) 2 = 1
  · rw [if_pos c] at hfk
    have hob := q_ob_in c
    have nU := q_fits_ne hob.1
    have hU : 0 ≤ q_ta A y b ∧ q_ta A y b < 120 ∧ A 3 (q_ta A y b).toNat ≠ -1 := by rcases th with q | q; exact absurd q nU; exact q
    have hTt := hS.2.1 (q_ta A y b).toNat (by omega)
    have e4 : V 4 (q_ta A y b).toNat = A 4 (q_ta A y b).toNat := by omega
    obtain ⟨l1, l2, l3, l4, l5, l6, l7⟩ := z_lend h (a := a) (s := s) (k := 1) (mask := -1) (r := 31) hb h14 ⟨hob.2.1, hob.2.2.1⟩ hob.2.2.2 (by omega) (fun x hx => by rw [(mj_and_31 hx).1, (mj_and_31 hx).2.1])
    have heq : q_ppY A (q_ta A y a) (q_ta A y b) s = m_pu V y a b s := by
      unfold q_ppY m_pu
      rw [if_pos c, hfk, e4, l1]
      rcases m_ln_01 (V := V) (b := y) (a := a) (u := A 4 (q_ta A y b).toNat) (s := s) with g | ⟨g, _⟩
      · rw [g, if_neg (fun q => by omega)]
      · rw [g, if_pos ⟨nU, rfl⟩]
    refine ⟨heq, ?_, ?_⟩
    · intro cc
      unfold q_ppM m_puM
      rw [← heq, if_pos cc, if_pos cc, hfk, e4]
      exact z_use_af l2.1 l2.2.1 l2.2.2.1 l2.2.2.2 ⟨hU.1, hU.2.1⟩ (by rw [(l7 _ hU.2.2).1]; exact hU.2.2) (fun j h1 h2 => l3 j (by omega) (by omega)) (fun j h1 h2 => l4 j (by omega) (by omega) (by omega) (by omega)) l5 l6
    · intro cc
      unfold q_ppM m_puM
      rw [← heq, if_neg cc, if_neg cc]
      exact ⟨rfl, rfl⟩
  · rw [if_neg c] at hfk
    have heq : q_ppY A (q_ta A y a) (q_ta A y b) s = 0 := by unfold q_ppY; rw [if_neg c]
    have heq2 : m_pu V y a b s = 0 := by unfold m_pu; rw [hfk, if_neg (fun q => q.1 rfl)]
    refine ⟨by rw [heq, heq2], fun cc => by omega, fun _ => ?_⟩
    unfold q_ppM m_puM
    rw [heq, heq2, if_neg (by omega), if_neg (by omega)]
    exact ⟨rfl, rfl⟩
theorem z_getbox (h : z_Rl e A V) {y a b s : Int} (hb : 0 ≤ y ∧ y < 40) (h14 : A 14 y.toNat = 1) : z_act e A V (q_pgY A (q_ta A y b) y a s) (m_ge V y a b s) (q_pgM A (q_ta A y b) y a s) (m_geM V y a b s) := by
  have hS := h.1
  have hfk := z_fk hS (s := b) (r := 1) hb h14
  have th := z_ta_th hS.1.1 hS.2.2.1 (b := y) (s := b)
  by_cases c : q_ob A (q_ta A y b) 1 = 1
  · rw [if_pos c] at hfk
    have hob := q_ob_in c
    have nU := q_fits_ne hob.1
    have hU : 0 ≤ q_ta A y b ∧ q_ta A y b < 120 ∧ A 3 (q_ta A y b).toNat ≠ -1 := by rcases th with q | q; exact absurd q nU; exact q
    have hTt := hS.2.1 (q_ta A y b).toNat (by omega)
    have e4 : V 4 (q_ta A y b).toNat = A 4 (q_ta A y b).toNat := by omega
    obtain ⟨l1, l2, l3, l4, l5, l6, l7⟩ := z_lend h (a := a) (s := s) (k := 1) (mask := -1) (r := 31) ⟨hob.2.1, hob.2.2.1⟩ hob.2.2.2 hb h14 (by omega) (fun x hx => by rw [(mj_and_31 hx).1, (mj_and_31 hx).2.1])
    have heq : q_pgY A (q_ta A y b) y a s = m_ge V y a b s := by
      unfold q_pgY m_ge
      rw [if_pos c, hfk, e4, l1]
      rcases m_ln_01 (V := V) (b := A 4 (q_ta A y b).toNat) (a := a) (u := y) (s := s) with g | ⟨g, _⟩
      · rw [g, if_neg (fun q => by omega)]
      · rw [g, if_pos ⟨nU, rfl⟩]
    refine ⟨heq, ?_, ?_⟩
    · intro cc
      unfold q_pgM m_geM
      rw [← heq, if_pos cc, if_pos cc, hfk, e4]
      exact z_use_af l2.1 l2.2.1 l2.2.2.1 l2.2.2.2 ⟨hU.1, hU.2.1⟩ (by rw [(l7 _ hU.2.2).1]; exact hU.2.2) (fun j h1 h2 => l3 j (by omega) (by omega)) (fun j h1 h2 => l4 j (by omega) (by omega) (by omega) (by omega)) l5 l6
    · intro cc
      unfold q_pgM m_geM
      rw [← heq, if_neg cc, if_neg cc]
      exact ⟨rfl, rfl⟩
  · rw [if_neg c] at hfk
    have heq : q_pgY A (q_ta A y b) y a s = 0 := by unfold q_pgY; rw [if_neg c]
    have heq2 : m_ge V y a b s = 0 := by unfold m_ge; rw [hfk, if_neg (fun q => q.1 rfl)]
    refine ⟨by rw [heq, heq2], fun cc => by omega, fun _ => ?_⟩
    unfold q_pgM m_geM
    rw [heq, heq2, if_neg (by omega), if_neg (by omega)]
    exact ⟨rfl, rfl⟩
end re16
