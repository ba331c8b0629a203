section re15
variable {A B C V W A' V' : mj_M} {e : Nat}
theorem mj_and_le {x y : Int} (h : 0 ≤ x ∧ x ≤ 31) : 0 ≤ mj_and x y ∧ mj_and x y ≤ x := by
  have e1 : mj_and x y = ((BitVec.ofInt 32 x) &&& (BitVec.ofInt 32 y)).toInt := rfl
  have e2 : ((BitVec.ofInt 32 x) &&& (BitVec.ofInt 32 y)).toNat ≤ x.toNat := by
    rw [BitVec.toNat_and]
    have h1 : (BitVec.ofInt 32 x).toNat = x.toNat := by
      rw [BitVec.toNat_ofInt]; omega
    rw [h1]
    exact Nat.and_le_left
  have e3 : ((BitVec.ofInt 32 x) &&& (BitVec.ofInt 32 y)).toInt = (((BitVec.ofInt 32 x) &&& (BitVec.ofInt 32 y)).toNat : Int) := BitVec.toInt_eq_toNat_of_lt (by omega)
  rw [e1, e3]
  omega
theorem mj_and_31 {x : Int} (h : 0 ≤ x ∧ x ≤ 31) : mj_and x (-1) = x ∧ mj_and x 31 = x ∧ mj_and x (-13) = mj_and x 19 := by
  have key : ∀ n : Nat, n < 32 → mj_and n (-1) = n ∧ mj_and n 31 = n ∧ mj_and n (-13) = mj_and n 19 := by decide +kernel
  have := key x.toNat (by omega)
  rw [show ((x.toNat : Nat) : Int) = x by omega] at this
  exact this
theorem z_swp_no (hS : z_SW e A V) (hF : z_F A) (hH : z_HT A 40) (h0 : A 130 2 = 0) : m_swp V = V := by
  obtain ⟨e1, e2⟩ := z_sw_no hS hF h0 hH
  unfold m_swp
  rw [show (41 : Nat) = 40 + 1 from rfl, m_sw, if_pos e2, e1]
/-- behind an act: the class has marked what goes, the model has swept -/
def z_af (e : Nat) (A V A' V' : mj_M) : Prop := ∃ W, V' = m_swp W ∧ z_SW e A' W ∧ z_F A' ∧ z_HT A' 40 ∧ (∀ a, 22 ≤ a → a ≤ 35 → A' a = A a) ∧ (∀ a, 22 ≤ a → a ≤ 35 → W a = V a) ∧ A' 1 = A 1 ∧ W 1 = V 1
theorem z_af_no (hS : z_SW e A' W) (hF : z_F A') (hH : z_HT A' 40) (h0 : A' 130 2 = 0) (hA : ∀ a, 22 ≤ a → a ≤ 35 → A' a = A a) (hV : ∀ a, 22 ≤ a → a ≤ 35 → W a = V a) (h1 : A' 1 = A 1) (h2 : W 1 = V 1) : z_af e A V A' W :=
  ⟨W, (z_swp_no hS hF hH h0).symm, hS, hF, hH, hA, hV, h1, h2⟩
theorem z_mark_af (hS : z_SW e B W) (hH : z_HT B 40) {t : Int} (ht : 0 ≤ t ∧ t < 120) (h3 : B 3 t.toNat ≠ -1) (hA : ∀ a, 22 ≤ a → a ≤ 35 → B a = A a) (hV : ∀ a, 22 ≤ a → a ≤ 35 → W a = V a) (h1 : B 1 = A 1) (h2 : W 1 = V 1) : z_af e A V (q_mark B t) (m_drop W t) := by
  obtain ⟨m1, m2⟩ := z_SW_mark hS ht h3
  have a : ∀ k, k ≠ 130 → k ≠ 131 → q_mark B t k = B k := fun k h1 h2 => by unfold q_mark; rw [mj_up_ne h1, mj_up_ne h2]
  have v : ∀ k, k ≠ 131 → m_mk W t k = W k := fun k h1 => by unfold m_mk; rw [mj_up_ne h1]
  exact ⟨m_mk W t, rfl, m1, m2, z_HT_c hH (a 14 (by omega) (by omega)) (a 3 (by omega) (by omega)) (a 4 (by omega) (by omega)), fun k k1 k2 => by rw [a k (by omega) (by omega), hA k k1 k2], fun k k1 k2 => by rw [v k (by omega), hV k k1 k2], by rw [a 1 (by omega) (by omega), h1], by rw [v 1 (by omega), h2]⟩
theorem z_use_af (hS : z_SW e B W) (hF : z_F B) (hH : z_HT B 40) (h0 : B 130 2 = 0) {t : Int} (ht : 0 ≤ t ∧ t < 120) (h3 : B 3 t.toNat ≠ -1) (hA : ∀ a, 22 ≤ a → a ≤ 35 → B a = A a) (hV : ∀ a, 22 ≤ a → a ≤ 35 → W a = V a) (h1 : B 1 = A 1) (h2 : W 1 = V 1) : z_af e A V (q_use B t) (m_use W t) := by
  have hT := hS.2.1 t.toNat (by omega)
  have e3 : W 3 t.toNat = B 3 t.toNat := by omega
  have e2 : W 212 t.toNat = 1 := by omega
  unfold q_use m_use
  rw [e3]
  by_cases c : B 3 t.toNat = 3
  · rw [if_pos c, if_pos ⟨e2, c⟩]
    exact z_mark_af hS hH ht h3 hA hV h1 h2
  · rw [if_neg c, if_neg (fun q => c q.2)]
    exact z_af_no hS hF hH h0 hA hV h1 h2
/-- lending -/
theorem z_ml (hS : z_SW e A V) {b a : Int} (hb : 0 ≤ b ∧ b < 40) (h14 : A 14 b.toNat = 1) : m_ft V b a 4 = if q_ml A (q_ta A b a) = 1 then q_ta A b a else -1 := by
  rw [z_ft hS hb h14]
  unfold q_ml
  by_cases c : q_fits A (q_ta A b a) 4 = 1 ∧ A 4 (q_ta A b a).toNat ≠ -1
  · rw [if_pos c, if_pos (by rw [if_pos c])]
  · rw [if_neg c, if_neg (by rw [if_neg c]; omega)]
theorem z_ml_in {t : Int} (h : q_ml A t = 1) : t ≠ -1 ∧ A 4 t.toNat ≠ -1 := by
  unfold q_ml at h
  split at h
  · rename_i g
    refine ⟨?_, g.2⟩
    intro q
    have := g.1
    unfold q_fits at this
    rw [if_neg (fun g => g.1 q)] at this; omega
  · omega
theorem z_lend (h : z_Rl e A V) {b a u s k mask r : Int} (hb : 0 ≤ b ∧ b < 40) (h14 : A 14 b.toNat = 1) (hu : 0 ≤ u ∧ u < 40) (h14u : A 14 u.toNat = 1) (hk : 0 ≤ k ∧ k ≤ 3)
    (hm : ∀ x : Int, 0 ≤ x ∧ x ≤ 31 → mj_and x mask = mj_and x r) :
    q_lend A (q_ta A b a) u s = m_ln V b a u s ∧ z_Rl e (q_lendM A (q_ta A b a) k mask u s) (m_lnM V b a k r u s) ∧ (∀ j, 12 < j → j ≠ 42 → q_lendM A (q_ta A b a) k mask u s j = A j) ∧ (∀ j, 12 < j → j ≠ 42 → j ≠ 131 → j ≠ 212 → m_lnM V b a k r u s j = V j) ∧
    q_lendM A (q_ta A b a) k mask u s 1 = A 1 ∧ m_lnM V b a k r u s 1 = V 1 ∧ (∀ t : Nat, A 3 t ≠ -1 → q_lendM A (q_ta A b a) k mask u s 3 t = A 3 t ∧ q_lendM A (q_ta A b a) k mask u s 4 t = A 4 t) := by
  obtain ⟨hS, hF, hH, h0⟩ := h
  have hft := z_ml hS (a := a) hb h14
  have hth := z_ta_th hS.1.1 hS.2.2.1 (b := b) (s := a)
  have hcan := z_can hS (s := s) hu h14u
  have heq : q_lend A (q_ta A b a) u s = m_ln V b a u s := by
    have hc01 := q_can_01 (M := A) (b := u) (s := s)
    have he01 := m_em_01 (V := V) (b := u) (s := s)
    unfold q_lend m_ln
    rw [hft]
    by_cases c1 : q_ml A (q_ta A b a) = 1
    · rw [if_pos c1]
      have := (z_ml_in c1).1
      by_cases c2 : q_can A u s = 1
      · rw [if_pos ⟨c1, c2⟩, if_pos ⟨this, (hcan.mp c2).1, (hcan.mp c2).2⟩]
      · rw [if_neg (fun q => c2 q.2), if_neg (fun q => c2 (hcan.mpr ⟨q.2.1, q.2.2⟩))]
    · rw [if_neg c1, if_neg (fun q => c1 q.1), if_neg (fun q => q.1 rfl)]
  refine ⟨heq, ?_⟩
  unfold q_lendM m_lnM
  rw [← heq]
  by_cases c : q_lend A (q_ta A b a) u s = 1
  · rw [if_pos c, if_pos c]
    have c' := c
    unfold q_lend at c'
    have hcc : q_ml A (q_ta A b a) = 1 ∧ q_can A u s = 1 := by
      by_cases g : q_ml A (q_ta A b a) = 1 ∧ q_can A u s = 1
      · exact g
      · rw [if_neg g] at c'; omega
    rw [if_pos hcc.1] at hft
    rw [hft]
    have hne := z_ml_in hcc.1
    have hthr : 0 ≤ q_ta A b a ∧ q_ta A b a < 120 ∧ A 3 (q_ta A b a).toNat ≠ -1 := by
      rcases hth with q | q
      · exact absurd q hne.1
      · exact q
    generalize hT : q_ta A b a = T at *
    have hTt := hS.2.1 T.toNat (by omega)
    have hTR := hS.2.2.2.2.2.2.2.2.2.2.2.2.2.2.2.2.1 T.toNat (by omega) hthr.2.2
    have e4 : V 4 T.toNat = A 4 T.toNat := by omega
    have e5 : V 5 T.toNat = A 5 T.toNat := by omega
    have e11 : V 11 T.toNat = A 11 T.toNat := by omega
    have hA4 := q_w4 (i := T.toNat) hS.1.1 (by omega)
    have hth4 := hS.2.2.2.2.2.2.2.2.2.2.2.2.2.2.1 T.toNat (by omega) hthr.2.2 hne.2
    have hle := mj_and_le (x := A 5 T.toNat) (y := mask) hTR.1
    rw [e4, e5, e11, ← hm _ hTR.1]
    have hp := z_put hS (k := k) (th := A 4 T.toNat) (r := mj_and (A 5 T.toNat) mask) (l := T) (b := u) (s := s) (la := A 11 T.toNat) hcc.2 hu h14u hk (Or.inr ⟨by omega, by omega, hth4⟩) (by omega) (fun q => by have := hTR.2.1 q; omega) (Or.inr hthr)
    obtain ⟨x0, x3, x4, -⟩ := z_putA (A := A) (k := k) (th := A 4 T.toNat) (r := mj_and (A 5 T.toNat) mask) (l := T) (b := u) (s := s) (la := A 11 T.toNat)
    obtain ⟨y0, -⟩ := z_putV (V := V) (k := k) (th := A 4 T.toNat) (r := mj_and (A 5 T.toNat) mask) (ro := 0) (l := T) (b := u) (s := s) (la := A 11 T.toNat)
    have hff := q_can_01 (M := A) (b := u) (s := s)
    have hfree : A 3 (q_ff A 3 120 0).toNat = -1 := by
      have := q_ff_in (M := A) (a := 3) 120 0 (by omega)
      rcases this with q | q
      · omega
      · exact q.2.2
    refine ⟨⟨hp, z_put_F hF, z_put_HT hH hcc.2, by rw [x0 130 (by omega) (by omega)]; exact h0⟩, fun j h1 h2 => x0 j (by omega) h2, fun j h1 h2 h3 h4 => y0 j (by omega) h2 h3 h4, x0 1 (by omega) (by omega), y0 1 (by omega) (by omega) (by omega) (by omega), ?_⟩
    intro t q
    have hne2 : t ≠ (q_ff A 3 120 0).toNat := fun g => by rw [g] at q; exact q hfree
    exact ⟨by rw [x3, if_neg hne2], by rw [x4, if_neg hne2]⟩
  · rw [if_neg c, if_neg c]
    exact ⟨⟨hS, hF, hH, h0⟩, fun _ _ _ => rfl, fun _ _ _ _ _ => rfl, rfl, rfl, fun _ _ => ⟨rfl, rfl⟩⟩
end re15
