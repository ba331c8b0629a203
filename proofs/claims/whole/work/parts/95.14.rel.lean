section re14
variable {A B C V W A' V' : mj_M} {e : Nat}
theorem z_putA {k th r l b s la : Int} : (∀ a, (a < 3 ∨ 12 < a) → a ≠ 42 → q_put A k th r l b s la a = A a) ∧
    (∀ j, q_put A k th r l b s la 3 j = if j = (q_ff A 3 120 0).toNat then k else A 3 j) ∧
    (∀ j, q_put A k th r l b s la 4 j = if j = (q_ff A 3 120 0).toNat then th else A 4 j) ∧
    (∀ j, q_put A k th r l b s la 5 j = if j = (q_ff A 3 120 0).toNat then r else A 5 j) ∧
    (∀ j, q_put A k th r l b s la 6 j = if j = (q_ff A 3 120 0).toNat then 0 else A 6 j) ∧
    (∀ j, q_put A k th r l b s la 7 j = if j = (q_ff A 3 120 0).toNat then l else A 7 j) ∧
    (∀ j, q_put A k th r l b s la 8 j = if j = (q_ff A 3 120 0).toNat then b else A 8 j) ∧
    (∀ j, q_put A k th r l b s la 9 j = if j = (q_ff A 3 120 0).toNat then s else A 9 j) ∧
    (∀ j, q_put A k th r l b s la 10 j = if j = (q_ff A 3 120 0).toNat then -1 else A 10 j) ∧
    (∀ j, q_put A k th r l b s la 11 j = if j = (q_ff A 3 120 0).toNat then la else A 11 j) ∧
    (∀ j, q_put A k th r l b s la 12 j = if j = (q_ff A 3 120 0).toNat then 0 else A 12 j) ∧
    (∀ j, q_put A k th r l b s la 42 j = if j = (q_pl A b s).toNat then ((q_ff A 3 120 0).toNat : Int) else A 42 j) := by
  unfold q_put
  refine ⟨?_, ?_, ?_, ?_, ?_, ?_, ?_, ?_, ?_, ?_, ?_, ?_⟩
  · intro a h1 h2; rw [mj_up_ne (by omega), mj_up_ne (by omega), mj_up_ne (by omega), mj_up_ne (by omega), mj_up_ne (by omega), mj_up_ne (by omega), mj_up_ne (by omega), mj_up_ne (by omega), mj_up_ne (by omega), mj_up_ne (by omega), mj_up_ne (by omega)]
  · intro j; rw [mj_up_ne (by omega), mj_up_ne (by omega), mj_up_ne (by omega), mj_up_ne (by omega), mj_up_ne (by omega), mj_up_ne (by omega), mj_up_ne (by omega), mj_up_ne (by omega), mj_up_ne (by omega), mj_up_ne (by omega), mj_up_at]
  · intro j; rw [mj_up_ne (by omega), mj_up_ne (by omega), mj_up_ne (by omega), mj_up_ne (by omega), mj_up_ne (by omega), mj_up_ne (by omega), mj_up_ne (by omega), mj_up_ne (by omega), mj_up_ne (by omega), mj_up_at, mj_up_ne (by omega)]
  · intro j; rw [mj_up_ne (by omega), mj_up_ne (by omega), mj_up_ne (by omega), mj_up_ne (by omega), mj_up_ne (by omega), mj_up_ne (by omega), mj_up_ne (by omega), mj_up_ne (by omega), mj_up_at, mj_up_ne (by omega), mj_up_ne (by omega)]
  · intro j; rw [mj_up_ne (by omega), mj_up_ne (by omega), mj_up_ne (by omega), mj_up_ne (by omega), mj_up_ne (by omega), mj_up_ne (by omega), mj_up_ne (by omega), mj_up_at, mj_up_ne (by omega), mj_up_ne (by omega), mj_up_ne (by omega)]
  · intro j; rw [mj_up_ne (by omega), mj_up_ne (by omega), mj_up_ne (by omega), mj_up_ne (by omega), mj_up_ne (by omega), mj_up_ne (by omega), mj_up_at, mj_up_ne (by omega), mj_up_ne (by omega), mj_up_ne (by omega), mj_up_ne (by omega)]
  · intro j; rw [mj_up_ne (by omega), mj_up_ne (by omega), mj_up_ne (by omega), mj_up_ne (by omega), mj_up_ne (by omega), mj_up_at, mj_up_ne (by omega), mj_up_ne (by omega), mj_up_ne (by omega), mj_up_ne (by omega), mj_up_ne (by omega)]
  · intro j; rw [mj_up_ne (by omega), mj_up_ne (by omega), mj_up_ne (by omega), mj_up_ne (by omega), mj_up_at, mj_up_ne (by omega), mj_up_ne (by omega), mj_up_ne (by omega), mj_up_ne (by omega), mj_up_ne (by omega), mj_up_ne (by omega)]
  · intro j; rw [mj_up_ne (by omega), mj_up_ne (by omega), mj_up_ne (by omega), mj_up_at, mj_up_ne (by omega), mj_up_ne (by omega), mj_up_ne (by omega), mj_up_ne (by omega), mj_up_ne (by omega), mj_up_ne (by omega), mj_up_ne (by omega)]
  · intro j; rw [mj_up_ne (by omega), mj_up_ne (by omega), mj_up_at, mj_up_ne (by omega), mj_up_ne (by omega), mj_up_ne (by omega), mj_up_ne (by omega), mj_up_ne (by omega), mj_up_ne (by omega), mj_up_ne (by omega), mj_up_ne (by omega)]
  · intro j; rw [mj_up_ne (by omega), mj_up_at, mj_up_ne (by omega), mj_up_ne (by omega), mj_up_ne (by omega), mj_up_ne (by omega), mj_up_ne (by omega), mj_up_ne (by omega), mj_up_ne (by omega), mj_up_ne (by omega), mj_up_ne (by omega)]
  · intro j; rw [mj_up_at, mj_up_ne (by omega), mj_up_ne (by omega), mj_up_ne (by omega), mj_up_ne (by omega), mj_up_ne (by omega), mj_up_ne (by omega), mj_up_ne (by omega), mj_up_ne (by omega), mj_up_ne (by omega), mj_up_ne (by omega)]
theorem z_putV {k th r ro l b s la : Int} : (∀ a, (a < 3 ∨ 12 < a) → a ≠ 42 → a ≠ 131 → a ≠ 212 → m_put V k th r ro l b s la a = V a) ∧
    (∀ j, m_put V k th r ro l b s la 3 j = if j = (m_ftk V 120 0).toNat then k else V 3 j) ∧
    (∀ j, m_put V k th r ro l b s la 4 j = if j = (m_ftk V 120 0).toNat then th else V 4 j) ∧
    (∀ j, m_put V k th r ro l b s la 5 j = if j = (m_ftk V 120 0).toNat then r else V 5 j) ∧
    (∀ j, m_put V k th r ro l b s la 6 j = if j = (m_ftk V 120 0).toNat then ro else V 6 j) ∧
    (∀ j, m_put V k th r ro l b s la 7 j = if j = (m_ftk V 120 0).toNat then l else V 7 j) ∧
    (∀ j, m_put V k th r ro l b s la 8 j = if j = (m_ftk V 120 0).toNat then b else V 8 j) ∧
    (∀ j, m_put V k th r ro l b s la 9 j = if j = (m_ftk V 120 0).toNat then s else V 9 j) ∧
    (∀ j, m_put V k th r ro l b s la 10 j = if j = (m_ftk V 120 0).toNat then -1 else V 10 j) ∧
    (∀ j, m_put V k th r ro l b s la 11 j = if j = (m_ftk V 120 0).toNat then la else V 11 j) ∧
    (∀ j, m_put V k th r ro l b s la 12 j = if j = (m_ftk V 120 0).toNat then 0 else V 12 j) ∧
    (∀ j, m_put V k th r ro l b s la 42 j = if j = (10 * b + s).toNat then m_ftk V 120 0 else V 42 j) ∧
    (∀ j, m_put V k th r ro l b s la 131 j = if j = (m_ftk V 120 0).toNat then 0 else V 131 j) ∧
    (∀ j, m_put V k th r ro l b s la 212 j = if j = (m_ftk V 120 0).toNat then 1 else V 212 j) := by
  unfold m_put
  refine ⟨?_, ?_, ?_, ?_, ?_, ?_, ?_, ?_, ?_, ?_, ?_, ?_, ?_, ?_⟩
  · intro a h1 h2 h3 h4; rw [mj_up_ne (by omega), mj_up_ne (by omega), mj_up_ne (by omega), mj_up_ne (by omega), mj_up_ne (by omega), mj_up_ne (by omega), mj_up_ne (by omega), mj_up_ne (by omega), mj_up_ne (by omega), mj_up_ne (by omega), mj_up_ne (by omega), mj_up_ne (by omega), mj_up_ne (by omega)]
  · intro j; rw [mj_up_ne (by omega), mj_up_ne (by omega), mj_up_ne (by omega), mj_up_ne (by omega), mj_up_ne (by omega), mj_up_ne (by omega), mj_up_ne (by omega), mj_up_ne (by omega), mj_up_ne (by omega), mj_up_ne (by omega), mj_up_ne (by omega), mj_up_at, mj_up_ne (by omega)]
  · intro j; rw [mj_up_ne (by omega), mj_up_ne (by omega), mj_up_ne (by omega), mj_up_ne (by omega), mj_up_ne (by omega), mj_up_ne (by omega), mj_up_ne (by omega), mj_up_ne (by omega), mj_up_ne (by omega), mj_up_ne (by omega), mj_up_at, mj_up_ne (by omega), mj_up_ne (by omega)]
  · intro j; rw [mj_up_ne (by omega), mj_up_ne (by omega), mj_up_ne (by omega), mj_up_ne (by omega), mj_up_ne (by omega), mj_up_ne (by omega), mj_up_ne (by omega), mj_up_ne (by omega), mj_up_ne (by omega), mj_up_at, mj_up_ne (by omega), mj_up_ne (by omega), mj_up_ne (by omega)]
  · intro j; rw [mj_up_ne (by omega), mj_up_ne (by omega), mj_up_ne (by omega), mj_up_ne (by omega), mj_up_ne (by omega), mj_up_ne (by omega), mj_up_ne (by omega), mj_up_ne (by omega), mj_up_at, mj_up_ne (by omega), mj_up_ne (by omega), mj_up_ne (by omega), mj_up_ne (by omega)]
  · intro j; rw [mj_up_ne (by omega), mj_up_ne (by omega), mj_up_ne (by omega), mj_up_ne (by omega), mj_up_ne (by omega), mj_up_ne (by omega), mj_up_ne (by omega), mj_up_at, mj_up_ne (by omega), mj_up_ne (by omega), mj_up_ne (by omega), mj_up_ne (by omega), mj_up_ne (by omega)]
  · intro j; rw [mj_up_ne (by omega), mj_up_ne (by omega), mj_up_ne (by omega), mj_up_ne (by omega), mj_up_ne (by omega), mj_up_ne (by omega), mj_up_at, mj_up_ne (by omega), mj_up_ne (by omega), mj_up_ne (by omega), mj_up_ne (by omega), mj_up_ne (by omega), mj_up_ne (by omega)]
  · intro j; rw [mj_up_ne (by omega), mj_up_ne (by omega), mj_up_ne (by omega), mj_up_ne (by omega), mj_up_ne (by omega), mj_up_at, mj_up_ne (by omega), mj_up_ne (by omega), mj_up_ne (by omega), mj_up_ne (by omega), mj_up_ne (by omega), mj_up_ne (by omega), mj_up_ne (by omega)]
  · intro j; rw [mj_up_ne (by omega), mj_up_ne (by omega), mj_up_ne (by omega), mj_up_ne (by omega), mj_up_at, mj_up_ne (by omega), mj_up_ne (by omega), mj_up_ne (by omega), mj_up_ne (by omega), mj_up_ne (by omega), mj_up_ne (by omega), mj_up_ne (by omega), mj_up_ne (by omega)]
  · intro j; rw [mj_up_ne (by omega), mj_up_ne (by omega), mj_up_ne (by omega), mj_up_at, mj_up_ne (by omega), mj_up_ne (by omega), mj_up_ne (by omega), mj_up_ne (by omega), mj_up_ne (by omega), mj_up_ne (by omega), mj_up_ne (by omega), mj_up_ne (by omega), mj_up_ne (by omega)]
  · intro j; rw [mj_up_ne (by omega), mj_up_ne (by omega), mj_up_at, mj_up_ne (by omega), mj_up_ne (by omega), mj_up_ne (by omega), mj_up_ne (by omega), mj_up_ne (by omega), mj_up_ne (by omega), mj_up_ne (by omega), mj_up_ne (by omega), mj_up_ne (by omega), mj_up_ne (by omega)]
  · intro j; rw [mj_up_at, mj_up_ne (by omega), mj_up_ne (by omega), mj_up_ne (by omega), mj_up_ne (by omega), mj_up_ne (by omega), mj_up_ne (by omega), mj_up_ne (by omega), mj_up_ne (by omega), mj_up_ne (by omega), mj_up_ne (by omega), mj_up_ne (by omega), mj_up_ne (by omega)]
  · intro j; rw [mj_up_ne (by omega), mj_up_at, mj_up_ne (by omega), mj_up_ne (by omega), mj_up_ne (by omega), mj_up_ne (by omega), mj_up_ne (by omega), mj_up_ne (by omega), mj_up_ne (by omega), mj_up_ne (by omega), mj_up_ne (by omega), mj_up_ne (by omega), mj_up_ne (by omega)]
  · intro j; rw [mj_up_ne (by omega), mj_up_ne (by omega), mj_up_ne (by omega), mj_up_ne (by omega), mj_up_ne (by omega), mj_up_ne (by omega), mj_up_ne (by omega), mj_up_ne (by omega), mj_up_ne (by omega), mj_up_ne (by omega), mj_up_ne (by omega), mj_up_ne (by omega), mj_up_at]
/-- a new token, on both sides -/
theorem z_put (h : z_SW e A V) {k th r l b s la : Int} (hc : q_can A b s = 1) (hb : 0 ≤ b ∧ b < 40) (h14 : A 14 b.toNat = 1) (hk : 0 ≤ k ∧ k ≤ 3) (hth : th = -1 ∨ (0 ≤ th ∧ th < 40 ∧ A 14 th.toNat ≠ -1))
    (hr : 0 ≤ r ∧ r ≤ 31) (hr2 : th ≠ -1 → r ≤ 15) (hl : l = -1 ∨ (0 ≤ l ∧ l < 120 ∧ A 3 l.toNat ≠ -1)) : z_SW e (q_put A k th r l b s la) (m_put V k th r 0 l b s la) := by
  have hcan := (z_can h hb h14).mp hc
  have hem := m_em_01 (V := V) (b := b) (s := s)
  have hff := z_ff3 h.2.1 120 0 rfl
  simp only [Int.natCast_zero] at hff
  have hpl := z_pl (A := A) (s := s) hb h14
  rw [if_pos (by omega)] at hpl
  obtain ⟨x0, x3, x4, x5, x6, x7, x8, x9, x10, x11, x12, x42⟩ := z_putA (A := A) (k := k) (th := th) (r := r) (l := l) (b := b) (s := s) (la := la)
  obtain ⟨y0, y3, y4, y5, y6, y7, y8, y9, y10, y11, y12, y42, y131, y212⟩ := z_putV (V := V) (k := k) (th := th) (r := r) (ro := 0) (l := l) (b := b) (s := s) (la := la)
  have hT : q_ff A 3 120 0 = m_ftk V 120 0 ∧ 0 ≤ m_ftk V 120 0 ∧ m_ftk V 120 0 < 120 := by omega
  have hfree : A 3 (q_ff A 3 120 0).toNat = -1 := by
    have := q_ff_in (M := A) (a := 3) 120 0 (by omega)
    rcases this with q | q
    · omega
    · exact q.2.2
  rw [hpl] at x42
  rw [hT.1] at x3 x4 x5 x6 x7 x8 x9 x10 x11 x12 x42 hfree
  have wA : q_wr (q_put A k th r l b s la) := q_put_w h.1.1 hc (by omega) (by omega) (by omega)
  have okV := m_put_ok (k := k) (th := th) (r := r) (ro := 0) (l := l) (b := b) (s := s) (la := la) h.2.2.2.2.2.2.1 hcan.2 (by omega) (by omega) (by
    rcases hl with q | q
    · exact Or.inl q
    · right; have := h.2.1 l.toNat (by omega); exact ⟨q.1, q.2.1, by omega⟩) hb (by omega)
  generalize hTT : m_ftk V 120 0 = TT at *
  obtain ⟨⟨w, hlt, hm, ρ, ha⟩, s2, s3, s4, s5, s6, s7, s8, s9, s10, s11, s12, s13, s14, s15, s16, s17, s18⟩ := h
  have a : ∀ j, (j < 3 ∨ 12 < j) → j ≠ 42 → q_put A k th r l b s la j = A j := x0
  have v : ∀ j, (j < 3 ∨ 12 < j) → j ≠ 42 → j ≠ 131 → j ≠ 212 → m_put V k th r 0 l b s la j = V j := y0
  have hcell : ∀ t : Nat, t < 120 → A 3 t ≠ -1 → (10 * A 8 t + A 9 t).toNat ≠ (10 * b + s).toNat := by
    intro t ht h3 q
    have := s3.1 t ht h3
    rw [q] at this
    have h5 := s5 (10 * b + s).toNat (by omega)
    omega
  have TTf : ∀ t : Nat, A 3 t ≠ -1 → t ≠ TT.toNat := fun t h3 q => by rw [q] at h3; exact h3 hfree
  refine ⟨⟨wA, ?_, ?_, ?_⟩, ?_, ⟨?_, ?_⟩, ⟨?_, ?_⟩, ?_, ?_, okV, ?_, ?_, ?_, ?_, ?_, ?_, ?_, ?_, ?_, ?_, ?_⟩
  · intro j hj
    rw [x3, x7]
    by_cases c : j = TT.toNat
    · rw [if_pos c, if_pos c]
      intro _ q
      rcases hl with g | g
      · exact absurd g q
      · rw [x3, if_neg (TTf _ g.2.2)]; exact g.2.2
    · rw [if_neg c, if_neg c]
      intro q1 q2
      have := hlt j hj q1 q2
      rw [x3, if_neg (TTf _ this)]; exact this
  · intro j hj
    rw [a 131 (by omega) (by omega), x3]
    intro q
    have := hm j hj q
    rw [if_neg (TTf _ this)]; exact this
  · have okV2 := okV
    obtain ⟨-, -, -, σ, g1, g2⟩ := okV2
    refine ⟨σ, g1, ?_⟩
    intro j hj
    rw [x3, x7]
    have gj := g2 j hj
    rw [y212, y7] at gj
    by_cases c : j = TT.toNat
    · rw [if_pos c, if_pos c] at gj ⊢
      exact fun _ q => gj (by omega) q
    · rw [if_neg c, if_neg c] at gj ⊢
      intro q1 q2
      have hj2 := s2 j hj
      have e7 : V 7 j = A 7 j := by omega
      rw [e7] at gj
      exact gj (by omega) q2
  · intro t ht
    rw [x3, x4, x5, x6, x7, x8, x9, x10, x11, x12, y3, y4, y5, y6, y7, y8, y9, y10, y11, y12, y212]
    by_cases c : t = TT.toNat
    · simp only [if_pos c]
      exact Or.inr ⟨by omega, by trivial, by trivial, by trivial, by trivial, by trivial, by trivial, by trivial, by trivial, by trivial, by trivial, by trivial⟩
    · simp only [if_neg c]
      exact s2 t ht
  · intro t ht
    rw [x3, x8, x9, x42]
    by_cases c : t = TT.toNat
    · simp only [if_pos c]
      intro _
      rw [if_pos (by trivial)]; omega
    · simp only [if_neg c]
      intro q
      rw [if_neg (hcell t ht q)]
      exact s3.1 t ht q
  · intro i hi
    rw [x42]
    by_cases c : i = (10 * b + s).toNat
    · rw [if_pos c]
      intro _
      simp only [Int.toNat_natCast]
      rw [x3, x8, x9, if_pos rfl, if_pos rfl, if_pos rfl]
      exact ⟨by omega, c.symm⟩
    · rw [if_neg c]
      intro q
      obtain ⟨g1, g2⟩ := s3.2 i hi q
      rw [x3, x8, x9, if_neg (TTf _ g1), if_neg (TTf _ g1), if_neg (TTf _ g1)]
      exact ⟨g1, g2⟩
  · intro t ht
    rw [x3, x6]
    by_cases c : t = TT.toNat
    · rw [if_pos c, if_pos c]; exact fun _ => by decide
    · rw [if_neg c, if_neg c]; exact s4.1 t ht
  · rw [a 1 (by omega) (by omega)]; exact s4.2
  · intro i hi
    rw [x42, y42]
    by_cases c : i = (10 * b + s).toNat
    · rw [if_pos c, if_pos c]; omega
    · rw [if_neg c, if_neg c]; exact s5 i hi
  · intro t ht
    rw [x3, a 131 (by omega) (by omega), y131]
    by_cases c : t = TT.toNat
    · rw [if_pos c, if_pos c]
      intro _
      have : A 131 t = 0 := by
        by_cases q : A 131 t = 0
        · exact q
        · have := hm t ht q; rw [c] at this; exact absurd hfree this
      rw [this]; simp
    · rw [if_neg c, if_neg c]; exact s6 t ht
  · exact z_H_c s8 (a 14 (by omega) (by omega)) (a 15 (by omega) (by omega)) (a 16 (by omega) (by omega)) (a 17 (by omega) (by omega)) (a 18 (by omega) (by omega)) (a 19 (by omega) (by omega)) (v 210 (by omega) (by omega) (by omega) (by omega)) (v 14 (by omega) (by omega) (by omega) (by omega)) (v 15 (by omega) (by omega) (by omega) (by omega)) (v 16 (by omega) (by omega) (by omega) (by omega)) (v 17 (by omega) (by omega) (by omega) (by omega)) (v 18 (by omega) (by omega) (by omega) (by omega)) (v 19 (by omega) (by omega) (by omega) (by omega))
  · intro y hy
    rw [a 14 (by omega) (by omega), a 15 (by omega) (by omega), a 16 (by omega) (by omega), a 17 (by omega) (by omega), a 18 (by omega) (by omega), a 19 (by omega) (by omega), x3]
    intro q
    obtain ⟨g1, g2, g3⟩ := s9 y hy q
    refine ⟨g1, g2, fun q2 => ?_⟩
    have := g3 q2
    rw [if_neg (TTf _ this)]; exact this
  · exact z_H3_c s10 (a 14 (by omega) (by omega)) (a 17 (by omega) (by omega)) (a 18 (by omega) (by omega)) (a 20 (by omega) (by omega)) (a 21 (by omega) (by omega)) (v 20 (by omega) (by omega) (by omega) (by omega)) (v 21 (by omega) (by omega) (by omega) (by omega))
  · exact z_RR_o s11 wA (fun j h1 h2 => a j (by omega) (by omega)) (fun j h1 h2 => v j (by omega) (by omega) (by omega) (by omega)) (by rw [v 201 (by omega) (by omega) (by omega) (by omega)])
  · exact z_QH_c s12 (a 22 (by omega) (by omega)) (a 24 (by omega) (by omega)) (a 14 (by omega) (by omega)) (a 23 (by omega) (by omega)) (a 28 (by omega) (by omega)) (a 27 (by omega) (by omega))
  · exact z_W_c s13 (a 36 (by omega) (by omega)) (a 37 (by omega) (by omega)) (a 38 (by omega) (by omega)) (a 39 (by omega) (by omega)) (a 40 (by omega) (by omega)) (a 41 (by omega) (by omega)) (v 36 (by omega) (by omega) (by omega) (by omega)) (v 37 (by omega) (by omega) (by omega) (by omega)) (v 38 (by omega) (by omega) (by omega) (by omega)) (v 39 (by omega) (by omega) (by omega) (by omega)) (v 40 (by omega) (by omega) (by omega) (by omega)) (v 210 (by omega) (by omega) (by omega) (by omega)) (v 211 (by omega) (by omega) (by omega) (by omega)) (v 214 (by omega) (by omega) (by omega) (by omega)) (v 215 (by omega) (by omega) (by omega) (by omega)) (v 201 (by omega) (by omega) (by omega) (by omega))
  · exact z_G_c s14 (a 1 (by omega) (by omega)) (a 43 (by omega) (by omega)) (v 1 (by omega) (by omega) (by omega) (by omega)) (v 43 (by omega) (by omega) (by omega) (by omega))
  · intro t ht
    rw [x3, x4, a 14 (by omega) (by omega)]
    by_cases c : t = TT.toNat
    · rw [if_pos c, if_pos c]
      intro _ q
      rcases hth with g | g
      · exact absurd g q
      · exact g.2.2
    · rw [if_neg c, if_neg c]; exact s15 t ht
  · intro t ht
    rw [x3, x8, a 14 (by omega) (by omega), a 131 (by omega) (by omega)]
    by_cases c : t = TT.toNat
    · rw [if_pos c, if_pos c]; exact fun _ => Or.inl h14
    · rw [if_neg c, if_neg c]; exact s16 t ht
  · intro t ht
    rw [x3, x5, x4, x12]
    by_cases c : t = TT.toNat
    · simp only [if_pos c]; exact fun _ => ⟨hr, hr2, Or.inl (by trivial)⟩
    · simp only [if_neg c]; exact s17 t ht
  · exact z_PR_c s18 (a 9001 (by omega) (by omega))
theorem z_put_F {k th r l b s la : Int} (h : z_F A) : z_F (q_put A k th r l b s la) := by
  obtain ⟨x0, -⟩ := z_putA (A := A) (k := k) (th := th) (r := r) (l := l) (b := b) (s := s) (la := la)
  exact z_F_c h (x0 130 (by omega) (by omega)) (x0 131 (by omega) (by omega))
theorem z_put_HT {k th r l b s la : Int} {n : Nat} (h : z_HT A n) (hc : q_can A b s = 1) : z_HT (q_put A k th r l b s la) n := by
  obtain ⟨x0, x3, x4, -⟩ := z_putA (A := A) (k := k) (th := th) (r := r) (l := l) (b := b) (s := s) (la := la)
  have hff := q_can_01 (M := A) (b := b) (s := s)
  have hfree : A 3 (q_ff A 3 120 0).toNat = -1 := by
    have := q_ff_in (M := A) (a := 3) 120 0 (by omega)
    rcases this with q | q
    · omega
    · exact q.2.2
  intro y h1 h2
  rw [x0 14 (by omega) (by omega)]
  intro q
  obtain ⟨t, t1, t2, t3⟩ := h y h1 h2 q
  have hne : t ≠ (q_ff A 3 120 0).toNat := fun q => by rw [q] at t2; exact t2 hfree
  exact ⟨t, t1, by rw [x3, if_neg hne]; exact t2, by rw [x4, if_neg hne]; exact t3⟩
end re14
