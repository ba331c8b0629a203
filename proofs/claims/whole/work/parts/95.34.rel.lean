section re34
variable {A B C M V W A' V' : mj_M} {e e' : Nat}
/-- what can be reached of the rows -/
def q_in (a i : Nat) : Prop := (3 ≤ a ∧ a ≤ 12 ∧ i < 120) ∨ (14 ≤ a ∧ a ≤ 19 ∧ i < 40) ∨ ((a = 20 ∨ a = 21) ∧ i < 1200) ∨ (a = 22 ∧ i = 13) ∨ (23 ≤ a ∧ a ≤ 34 ∧ i < 8) ∨ (a = 35 ∧ i < 1280) ∨ (a = 36 ∧ i = 5) ∨ (37 ≤ a ∧ a ≤ 41 ∧ i < 20) ∨ (a = 42 ∧ i < 400) ∨ (a = 43 ∧ i < 16) ∨ (a = 1 ∧ 6 ≤ i ∧ i ≤ 11) ∨ (a = 9001 ∧ i < 6)
theorem z_Rl_pt (h : z_Rl 8 A V) (p : ∀ a i, q_in a i → B a i = A a i) (hB0 : B 130 2 = 0) (hB1 : ∀ k : Nat, k < 120 → B 131 k = 0) : z_Rl 8 B V := by
  obtain ⟨⟨s1, s2, s3, s4, s5, s6, s7, s8, s9, s10, s11, s12, s13, s14, s15, s16, s17, s18⟩, hF, hH, h0⟩ := h
  have w := s1.1
  have e3 : ∀ t : Nat, t < 120 → B 3 t = A 3 t := fun t ht => p 3 t (by unfold q_in; omega)
  have e4 : ∀ t : Nat, t < 120 → B 4 t = A 4 t := fun t ht => p 4 t (by unfold q_in; omega)
  have e5 : ∀ t : Nat, t < 120 → B 5 t = A 5 t := fun t ht => p 5 t (by unfold q_in; omega)
  have e6 : ∀ t : Nat, t < 120 → B 6 t = A 6 t := fun t ht => p 6 t (by unfold q_in; omega)
  have e7 : ∀ t : Nat, t < 120 → B 7 t = A 7 t := fun t ht => p 7 t (by unfold q_in; omega)
  have e8 : ∀ t : Nat, t < 120 → B 8 t = A 8 t := fun t ht => p 8 t (by unfold q_in; omega)
  have e9 : ∀ t : Nat, t < 120 → B 9 t = A 9 t := fun t ht => p 9 t (by unfold q_in; omega)
  have e10 : ∀ t : Nat, t < 120 → B 10 t = A 10 t := fun t ht => p 10 t (by unfold q_in; omega)
  have e11 : ∀ t : Nat, t < 120 → B 11 t = A 11 t := fun t ht => p 11 t (by unfold q_in; omega)
  have e12 : ∀ t : Nat, t < 120 → B 12 t = A 12 t := fun t ht => p 12 t (by unfold q_in; omega)
  have e14 : ∀ t : Nat, t < 40 → B 14 t = A 14 t := fun t ht => p 14 t (by unfold q_in; omega)
  have e15 : ∀ t : Nat, t < 40 → B 15 t = A 15 t := fun t ht => p 15 t (by unfold q_in; omega)
  have e16 : ∀ t : Nat, t < 40 → B 16 t = A 16 t := fun t ht => p 16 t (by unfold q_in; omega)
  have e17 : ∀ t : Nat, t < 40 → B 17 t = A 17 t := fun t ht => p 17 t (by unfold q_in; omega)
  have e18 : ∀ t : Nat, t < 40 → B 18 t = A 18 t := fun t ht => p 18 t (by unfold q_in; omega)
  have e19 : ∀ t : Nat, t < 40 → B 19 t = A 19 t := fun t ht => p 19 t (by unfold q_in; omega)
  have e20 : ∀ t : Nat, t < 1200 → B 20 t = A 20 t := fun t ht => p 20 t (by unfold q_in; omega)
  have e21 : ∀ t : Nat, t < 1200 → B 21 t = A 21 t := fun t ht => p 21 t (by unfold q_in; omega)
  have e23 : ∀ t : Nat, t < 8 → B 23 t = A 23 t := fun t ht => p 23 t (by unfold q_in; omega)
  have e24 : ∀ t : Nat, t < 8 → B 24 t = A 24 t := fun t ht => p 24 t (by unfold q_in; omega)
  have e25 : ∀ t : Nat, t < 8 → B 25 t = A 25 t := fun t ht => p 25 t (by unfold q_in; omega)
  have e26 : ∀ t : Nat, t < 8 → B 26 t = A 26 t := fun t ht => p 26 t (by unfold q_in; omega)
  have e27 : ∀ t : Nat, t < 8 → B 27 t = A 27 t := fun t ht => p 27 t (by unfold q_in; omega)
  have e28 : ∀ t : Nat, t < 8 → B 28 t = A 28 t := fun t ht => p 28 t (by unfold q_in; omega)
  have e29 : ∀ t : Nat, t < 8 → B 29 t = A 29 t := fun t ht => p 29 t (by unfold q_in; omega)
  have e30 : ∀ t : Nat, t < 8 → B 30 t = A 30 t := fun t ht => p 30 t (by unfold q_in; omega)
  have e31 : ∀ t : Nat, t < 8 → B 31 t = A 31 t := fun t ht => p 31 t (by unfold q_in; omega)
  have e32 : ∀ t : Nat, t < 8 → B 32 t = A 32 t := fun t ht => p 32 t (by unfold q_in; omega)
  have e33 : ∀ t : Nat, t < 8 → B 33 t = A 33 t := fun t ht => p 33 t (by unfold q_in; omega)
  have e34 : ∀ t : Nat, t < 8 → B 34 t = A 34 t := fun t ht => p 34 t (by unfold q_in; omega)
  have e35 : ∀ t : Nat, t < 1280 → B 35 t = A 35 t := fun t ht => p 35 t (by unfold q_in; omega)
  have e37 : ∀ t : Nat, t < 20 → B 37 t = A 37 t := fun t ht => p 37 t (by unfold q_in; omega)
  have e38 : ∀ t : Nat, t < 20 → B 38 t = A 38 t := fun t ht => p 38 t (by unfold q_in; omega)
  have e39 : ∀ t : Nat, t < 20 → B 39 t = A 39 t := fun t ht => p 39 t (by unfold q_in; omega)
  have e40 : ∀ t : Nat, t < 20 → B 40 t = A 40 t := fun t ht => p 40 t (by unfold q_in; omega)
  have e41 : ∀ t : Nat, t < 20 → B 41 t = A 41 t := fun t ht => p 41 t (by unfold q_in; omega)
  have e42 : ∀ t : Nat, t < 400 → B 42 t = A 42 t := fun t ht => p 42 t (by unfold q_in; omega)
  have e43 : ∀ t : Nat, t < 16 → B 43 t = A 43 t := fun t ht => p 43 t (by unfold q_in; omega)
  have e22 : B 22 13 = A 22 13 := p 22 13 (by unfold q_in; omega)
  have e36 : B 36 5 = A 36 5 := p 36 5 (by unfold q_in; omega)
  have f6 : B 1 6 = A 1 6 := p 1 6 (by unfold q_in; omega)
  have f7 : B 1 7 = A 1 7 := p 1 7 (by unfold q_in; omega)
  have f8 : B 1 8 = A 1 8 := p 1 8 (by unfold q_in; omega)
  have f9 : B 1 9 = A 1 9 := p 1 9 (by unfold q_in; omega)
  have f10 : B 1 10 = A 1 10 := p 1 10 (by unfold q_in; omega)
  have f11 : B 1 11 = A 1 11 := p 1 11 (by unfold q_in; omega)
  have e9001 : ∀ t : Nat, t < 6 → B 9001 t = A 9001 t := fun t ht => p 9001 t (by unfold q_in; omega)
  have hw : q_wr B := by
    obtain ⟨w3, w4, w7, w8, w9, w10, w42, w14, w15, w17, w18, w19, w23, w27, w28, w29, w30, w31, wa, wb, wc, wd, we⟩ := w
    exact ⟨fun t h => by rw [e3 t h]; exact w3 t h, fun t h => by rw [e4 t h]; exact w4 t h, fun t h => by rw [e7 t h]; exact w7 t h, fun t h => by rw [e8 t h]; exact w8 t h, fun t h => by rw [e9 t h]; exact w9 t h, fun t h => by rw [e10 t h]; exact w10 t h, fun t h => by rw [e42 t h]; exact w42 t h, fun t h => by rw [e14 t h]; exact w14 t h, fun t h => by rw [e15 t h]; exact w15 t h, fun t h => by rw [e17 t h]; exact w17 t h, fun t h => by rw [e18 t h]; exact w18 t h, fun t h => by rw [e19 t h]; exact w19 t h, fun t h => by rw [e23 t h]; exact w23 t h, fun t h => by rw [e27 t h]; exact w27 t h, fun t h => by rw [e28 t h]; exact w28 t h, fun t h => by rw [e29 t h]; exact w29 t h, fun t h => by rw [e30 t h]; exact w30 t h, fun t h => by rw [e31 t h]; exact w31 t h, by rw [e22]; exact wa, by rw [e36]; exact wb, by rw [f6]; exact wc, by rw [f7]; exact wd, by rw [f10]; exact we⟩
  have sz := q_w22_13 w
  refine ⟨⟨⟨hw, ?_, ?_, ?_⟩, ?_, ?_, ?_, ?_, ?_, s7, ?_, ?_, ?_, ⟨?_, ?_, ?_, ?_, hw⟩, ?_, ?_, ?_, ?_, ?_, ?_, ?_⟩, ⟨Or.inl hB0, fun _ => hB1⟩, ?_, hB0⟩
  · intro k hk q1 q2
    have := q_w7 (i := k) w hk
    rw [e3 k hk] at q1
    rw [e7 k hk] at q2 ⊢
    rw [e3 _ (by omega)]
    exact s1.2.1 k hk q1 q2
  · intro k hk q
    exact absurd (hB1 k hk) q
  · obtain ⟨ρ, h1, h2⟩ := s1.2.2.2
    refine ⟨ρ, h1, ?_⟩
    intro k hk q1 q2
    rw [e3 k hk] at q1
    rw [e7 k hk] at q2 ⊢
    exact h2 k hk q1 q2
  · intro t ht
    rw [e3 t ht, e4 t ht, e5 t ht, e6 t ht, e7 t ht, e8 t ht, e9 t ht, e10 t ht, e11 t ht, e12 t ht]
    exact s2 t ht
  · refine ⟨?_, ?_⟩
    · intro t ht q
      have h8 := q_w8 (i := t) w ht
      have h9 := q_w9 (i := t) w ht
      rw [e3 t ht] at q
      rw [e8 t ht, e9 t ht, e42 _ (by omega)]
      exact s3.1 t ht q
    · intro i hi q
      have h42 := q_w42 (i := i) w hi
      rw [e42 i hi] at q ⊢
      rw [e3 _ (by omega), e8 _ (by omega), e9 _ (by omega)]
      exact s3.2 i hi q
  · refine ⟨fun k hk q => ?_, by rw [f8]; exact s4.2⟩
    rw [e3 k hk] at q
    rw [e6 k hk]
    exact s4.1 k hk q
  · intro i hi
    rw [e42 i hi]; exact s5 i hi
  · intro t ht q
    rw [e3 t ht] at q
    have := s6 t ht q
    rw [hF.2 h0 t ht] at this
    rw [hB1 t ht]
    exact this
  · intro y hy
    rw [e14 y hy, e15 y hy, e16 y hy, e17 y hy, e18 y hy, e19 y hy]
    exact s8 y hy
  · intro y hy q
    have h15 := q_w15 (i := y) w hy
    rw [e14 y hy] at q
    obtain ⟨k1, k2, k3⟩ := s9 y hy q
    rw [e14 y hy, e15 y hy, e16 y hy, e17 y hy, e18 y hy, e19 y hy]
    refine ⟨k1, k2, fun q2 => ?_⟩
    rw [e3 _ (by omega)]
    exact k3 q2
  · intro y hy q
    rw [e14 y hy] at q
    obtain ⟨k1, k2⟩ := s10 y hy q
    rw [e17 y hy, e18 y hy]
    exact ⟨fun j hj q2 => by rw [e20 _ (by omega)]; exact k1 j hj q2, fun j hj q2 => by rw [e21 _ (by omega)]; exact k2 j hj q2⟩
  · refine ⟨by rw [e22]; exact s11.1.1, fun r hr => ?_⟩
    rw [e23 r hr, e24 r hr, e25 r hr, e26 r hr, e27 r hr, e28 r hr, e29 r hr, e30 r hr, e31 r hr]
    exact s11.1.2 r hr
  · intro r hr
    obtain ⟨k1, k2, k3⟩ := s11.2.1 r hr
    rw [e24 r hr, e31 r hr, e32 r hr, e33 r hr]
    exact ⟨k1, k2, fun j hj q2 => by rw [e35 _ (by omega)]; exact k3 j hj q2⟩
  · intro r hr
    rw [e22] at hr
    have h29 := q_w29 (i := r) w (by omega)
    have h30 := q_w30 (i := r) w (by omega)
    obtain ⟨k1, k2, k3, k4, k5⟩ := s11.2.2.1 r hr
    rw [e22, e24 r (by omega), e28 r (by omega), e29 r (by omega), e30 r (by omega), e34 r (by omega)]
    refine ⟨k1, k2, fun q => ?_, fun q => ?_, fun q q2 => ?_⟩
    · rw [e30 _ (by omega)]; exact k3 q
    · rw [e24 _ (by omega), e29 _ (by omega)]; exact k4 q
    · rw [e24 _ (by omega)] at q2
      rw [e34 _ (by omega)]; exact k5 q q2
  · refine ⟨fun r q hr hq => ?_, fun r hr => ?_⟩
    · rw [e22] at hr hq
      rw [e24 r (by omega), e24 q (by omega), e34 r (by omega), e34 q (by omega)]
      exact s11.2.2.2.1.1 r q hr hq
    · rw [e22] at hr
      rw [e24 r (by omega)]
      exact s11.2.2.2.1.2 r hr
  · intro r hr
    rw [e22] at hr
    have h23 := q_w23 (i := r) w (by omega)
    have h27 := q_w27 (i := r) w (by omega)
    have h28 := q_w28 (i := r) w (by omega)
    obtain ⟨k1, k2, k3⟩ := s12 r hr
    rw [e24 r (by omega), e23 r (by omega), e27 r (by omega), e28 r (by omega)]
    refine ⟨fun q => ?_, fun q => ?_, fun q => ?_⟩
    · rw [e14 _ (by omega)]; exact k1 q
    · rw [e14 _ (by omega)]; exact k2 q
    · rw [e14 _ (by omega)]; exact k3 q
  · have h36 := q_w36_5 w
    refine ⟨by rw [e36]; exact s13.1, s13.2.1, fun u hu => ?_⟩
    rw [e36] at hu
    rw [e37 u (by omega), e38 u (by omega), e39 u (by omega), e40 u (by omega), e41 u (by omega)]
    exact s13.2.2 u hu
  · obtain ⟨g6, g7, g8, g9, g10, g11, gm⟩ := s14
    exact ⟨by rw [f6]; exact g6, by rw [f7]; exact g7, by rw [f8]; exact g8, g9, by rw [f10]; exact g10, by rw [f11]; exact g11, fun j hj => by rw [e43 j hj]; exact gm j hj⟩
  · intro t ht q q2
    have h4 := q_w4 (i := t) w ht
    rw [e3 t ht] at q
    rw [e4 t ht] at q2 ⊢
    rw [e14 _ (by omega)]
    exact s15 t ht q q2
  · intro t ht q
    have h8 := q_w8 (i := t) w ht
    rw [e3 t ht] at q
    have := s16 t ht q
    rw [hF.2 h0 t ht] at this
    rw [e8 t ht, e14 _ (by omega), hB1 t ht]
    exact this
  · intro t ht q
    rw [e3 t ht] at q
    rw [e4 t ht, e5 t ht, e12 t ht]
    exact s17 t ht q
  · intro k hk
    rw [e9001 k hk]; exact s18 k hk
  · intro y hy hy2 q
    rw [e14 y hy2] at q
    obtain ⟨t, ht, q1, q2⟩ := hH y hy hy2 q
    exact ⟨t, ht, by rw [e3 t ht]; exact q1, by rw [e4 t ht]; exact q2⟩
theorem z_I_pt {n : Int} (h : z_I n A V) (p : ∀ a i, q_in a i → B a i = A a i) (hB0 : B 130 2 = 0) (hB1 : ∀ k : Nat, k < 120 → B 131 k = 0) : z_I n B V := by
  have w := h.1.1.1.1
  refine ⟨z_Rl_pt h.1 p hB0 hB1, ?_, h.2.2.1, ?_⟩
  · intro k hk
    rw [p 24 k (by unfold q_in; omega), p 30 k (by unfold q_in; omega), p 34 k (by unfold q_in; omega), p 22 13 (by unfold q_in; omega), p 1 7 (by unfold q_in; omega)]
    exact h.2.1 k hk
  · intro i hi
    rw [p 17 i (by unfold q_in; omega)]
    exact h.2.2.2 i hi
theorem z_I_c {n : Int} (h : z_I n A V) (p : ∀ a, (a < 132 ∨ a = 9001) → B a = A a) : z_I n B V := by
  have h0 := h.1.2.2.2
  have hF := h.1.2.1
  refine z_I_pt h (fun a i q => by rw [p a (by unfold q_in at q; omega)]) (by rw [p 130 (by omega)]; exact h0) (fun k hk => by rw [p 131 (by omega)]; exact hF.2 h0 k hk)
end re34
