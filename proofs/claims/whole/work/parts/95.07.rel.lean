section re7
variable {A B C V W A' V' : mj_M} {e : Nat}
/-! runners that end, on both sides -/
theorem z_R_30 (h : z_R e A V) {r : Nat} (hr : r < 8) : V 30 r = A 30 r ∧ V 29 r = A 29 r := by
  have := h.2 r hr
  exact ⟨this.2.2.2.2.2.2.1, this.2.2.2.2.2.1⟩
theorem z_Q_u (hQ : z_Q A) (w : q_wr A) {r : Nat} (hr : (r : Int) < A 22 13) (h : A 30 r ≠ -1) : (A 30 r).toNat ≠ r ∧ A 29 (A 30 r).toNat = r ∧ A 24 (A 30 r).toNat = 2 ∧ ((A 30 r).toNat : Int) < A 22 13 := by
  have hs := q_w22_13 w
  have h30 := q_w30 (i := r) w (by omega)
  obtain ⟨q1, q2, q3, q4, q5⟩ := hQ r hr
  obtain ⟨k1, k2, k3⟩ := q4 h
  refine ⟨?_, k3, k2, by omega⟩
  intro hh
  rw [hh] at k2 k3
  have h29 : A 29 r ≠ -1 := by omega
  have := q5 h29 (by rw [k3]; simpa using k2)
  rw [k3] at this
  simp only [Int.toNat_natCast] at this
  omega
/-- the bundle of what runners are -/
def z_RR (e : Nat) (A V : mj_M) : Prop := z_R e A V ∧ z_R2 A V ∧ z_Q A ∧ z_O A V ∧ q_wr A
theorem z_end_rel {r : Nat} {s : Int} (h : z_RR e A V) (hr : (r : Int) < A 22 13) (hs : s = 3 ∨ s = 4) (hA : z_en A A' r s) (hV : z_en V V' r s) (w' : q_wr A') : z_RR e A' V' := by
  obtain ⟨hR, hR2, hQ, hO, w⟩ := h
  have hsz := q_w22_13 w
  have hr8 : r < 8 := by omega
  have hu := fun q => z_Q_u hQ w hr q
  have hv := (hQ r hr).2.2.1
  have h30 := q_w30 (i := r) w hr8
  have h29 := q_w29 (i := r) w hr8
  obtain ⟨a0, a1, a2, a3, a4, a5, a6⟩ := hA
  obtain ⟨b0, b1, b2, b3, b4, b5, b6⟩ := hV
  obtain ⟨e30, e29⟩ := z_R_30 hR hr8
  rw [e30] at b1 b2 b3 b4 b5
  rw [e29] at b6
  have s22 : A' 22 13 = A 22 13 := by rw [a0 22 (by omega)]
  refine ⟨⟨by rw [b0 22 (by omega), s22]; exact hR.1, ?_⟩, ?_, ?_, ⟨?_, ?_⟩, w'⟩
  · intro k hk
    obtain ⟨r1, r2, r3, r4, r5, r6, r7, r8⟩ := hR.2 k hk
    refine ⟨by rw [b0 23 (by omega), a0 23 (by omega)]; exact r1, by rw [a1, b1, r2], fun q => ⟨by rw [a2, b2, (r3 q).1], by rw [a3, b3, (r3 q).2]⟩, by rw [b0 27 (by omega), a0 27 (by omega)]; exact r4, by rw [a4, b4, r5], by rw [a5, b5, r6], by rw [a6, b6, r7], by rw [b0 31 (by omega), a0 31 (by omega)]; exact r8⟩
  · intro k hk
    obtain ⟨r1, r2, r3⟩ := hR2 k hk
    have h24 : A' 24 k = 1 ∨ A' 24 k = 2 → A 24 k = A' 24 k := by
      intro q
      rw [a1] at q ⊢
      by_cases c1 : k = r
      · rw [if_pos c1] at q; omega
      · rw [if_neg c1] at q ⊢
        by_cases c2 : A 30 r ≠ -1 ∧ k = (A 30 r).toNat
        · rw [if_pos c2] at q; omega
        · rw [if_neg c2]
    refine ⟨fun q => ?_, fun q => ?_, fun j hj hj2 => ?_⟩
    · rw [b0 32 (by omega), a0 32 (by omega)]; exact r1 (by rw [h24 q]; exact q)
    · rw [b0 33 (by omega), a0 33 (by omega)]; exact r2 (by rw [h24 (Or.inr q)]; exact q)
    · rw [b0 35 (by omega), a0 35 (by omega)]; exact r3 j hj (by rw [a0 31 (by omega)] at hj2; exact hj2)
  · intro k hk
    rw [s22] at hk
    obtain ⟨q1, q2, q3, q4, q5⟩ := hQ k hk
    rw [s22]
    by_cases c1 : k = r
    · subst c1
      have x24 : A' 24 k = s := by rw [a1, if_pos rfl]
      have x28 : A' 28 k = -1 := by rw [a4, if_pos rfl]
      have x29 : A' 29 k = -1 := by rw [a5, if_pos rfl]
      have x30 : A' 30 k = -1 := by rw [a6]; split; rfl; rw [if_pos rfl]
      rw [x24, x28, x29, x30]
      exact ⟨by omega, by omega, fun q => absurd rfl q, fun q => absurd rfl q, fun q => absurd rfl q⟩
    · have x24 : A' 24 k = if A 30 r ≠ -1 ∧ k = (A 30 r).toNat then 0 else A 24 k := by rw [a1, if_neg c1]
      have x28 : A' 28 k = if A 30 r ≠ -1 ∧ k = (A 30 r).toNat then -1 else A 28 k := by rw [a4, if_neg c1]
      have x29 : A' 29 k = if A 30 r ≠ -1 ∧ k = (A 30 r).toNat then -1 else A 29 k := by rw [a5, if_neg c1]
      have y30 : A' 30 k ≠ -1 → A' 30 k = A 30 k ∧ ¬ (A 29 r ≠ -1 ∧ k = (A 29 r).toNat) := by
        intro q
        rw [a6] at q ⊢
        by_cases c3 : A 29 r ≠ -1 ∧ k = (A 29 r).toNat
        · rw [if_pos c3] at q; exact absurd rfl q
        · rw [if_neg c3, if_neg c1]; exact ⟨rfl, c3⟩
      have p30 : A' 30 k ≠ -1 → A' 30 k < A 22 13 ∧ A' 24 (A' 30 k).toNat = 2 ∧ A' 29 (A' 30 k).toNat = k := by
        intro q
        obtain ⟨z1, z2⟩ := y30 q
        rw [z1] at q ⊢
        obtain ⟨k1, k2, k3⟩ := q4 q
        have hk30 := q_w30 (i := k) w (by omega)
        have n1 : (A 30 k).toNat ≠ r := by
          intro hh
          rw [hh] at k3
          exact z2 ⟨by omega, by omega⟩
        have n2 : ¬ (A 30 r ≠ -1 ∧ (A 30 k).toNat = (A 30 r).toNat) := by
          rintro ⟨g1, g2⟩
          have := (hu g1).2.1
          rw [g2, this] at k3
          omega
        refine ⟨k1, ?_, ?_⟩
        · rw [a1, if_neg n1, if_neg n2]; exact k2
        · rw [a5, if_neg n1, if_neg n2]; exact k3
      by_cases c2 : A 30 r ≠ -1 ∧ k = (A 30 r).toNat
      · rw [if_pos c2] at x24 x28 x29
        rw [x24, x28, x29]
        exact ⟨by omega, by omega, fun q => absurd rfl q, p30, fun q => absurd rfl q⟩
      · rw [if_neg c2] at x24 x28 x29
        rw [x24, x28, x29]
        refine ⟨q1, q2, fun q => ?_, p30, fun q q' => ?_⟩
        · obtain ⟨k1, k2, k3⟩ := q3 q
          have hk29 := q_w29 (i := k) w (by omega)
          refine ⟨k1, k2, ?_⟩
          rw [a6]
          have n1 : ¬ (A 29 r ≠ -1 ∧ (A 29 k).toNat = (A 29 r).toNat) := by
            rintro ⟨g1, g2⟩
            have := (hv g1).2.2
            rw [g2, this] at k3
            omega
          have n2 : (A 29 k).toNat ≠ r := by
            intro hh
            rw [hh] at k3
            exact c2 ⟨by omega, by omega⟩
          rw [if_neg n1, if_neg n2]; exact k3
        · rw [a0 34 (by omega)]
          refine q5 q ?_
          rw [a1] at q'
          by_cases g1 : (A 29 k).toNat = r
          · rw [if_pos g1] at q'; omega
          · rw [if_neg g1] at q'
            by_cases g2 : A 30 r ≠ -1 ∧ (A 29 k).toNat = (A 30 r).toNat
            · rw [if_pos g2] at q'; omega
            · rw [if_neg g2] at q'; exact q'
  · intro k q hk hq h1 h2
    rw [s22] at hk hq
    have h24 : ∀ k, A' 24 k = 2 → A 24 k = 2 := by
      intro k q
      rw [a1] at q
      by_cases c1 : k = r
      · rw [if_pos c1] at q; omega
      · rw [if_neg c1] at q
        by_cases c2 : A 30 r ≠ -1 ∧ k = (A 30 r).toNat
        · rw [if_pos c2] at q; omega
        · rw [if_neg c2] at q; exact q
    rw [a0 34 (by omega), b0 34 (by omega)]
    exact hO.1 k q hk hq (h24 k h1) (h24 q h2)
  · intro k hk h1
    rw [s22] at hk
    rw [b0 34 (by omega), b0 201 (by omega)]
    refine hO.2 k hk ?_
    rw [a1] at h1
    by_cases c1 : k = r
    · rw [if_pos c1] at h1; omega
    · rw [if_neg c1] at h1
      by_cases c2 : A 30 r ≠ -1 ∧ k = (A 30 r).toNat
      · rw [if_pos c2] at h1; omega
      · rw [if_neg c2] at h1; exact h1
theorem q_for2 {N : Nat} {F G : Nat → mj_M → mj_M} {P : Nat → mj_M → mj_M → Prop} (h : ∀ t A V, t < N → P t A V → P (t + 1) (F t A) (G t V)) : ∀ (n t : Nat) (A V : mj_M), t + n = N → P t A V → P N (q_for F n t A) (q_for G n t V) := by
  intro n
  induction n with
  | zero => intro t A V h1 h2; have : t = N := by omega
            subst this; exact h2
  | succ n ih => intro t A V h1 h2; exact ih (t + 1) _ _ (by omega) (h t A V (by omega) h2)
/-- what ends leave as it was -/
def z_fr (A B : mj_M) : Prop := (∀ o, o < 24 ∨ o = 27 ∨ 30 < o → B o = A o) ∧ (∀ k, B 28 k ≠ -1 → B 28 k = A 28 k) ∧ (∀ k, A 24 k = 4 → B 24 k = 4) ∧ (∀ k, A 29 k = -1 → B 29 k = -1)
def z_ex (e : Nat) (A B V W : mj_M) : Prop := e < 8 → A 29 e = -1 → (B 25 e = A 25 e ∧ B 26 e = A 26 e ∧ W 25 e = V 25 e ∧ W 26 e = V 26 e)
theorem z_en_fr {r : Nat} {s : Int} (hQ : z_Q A) (w : q_wr A) (hr : (r : Int) < A 22 13) (hs : s = 3 ∨ s = 4) (h4 : A 24 r = 4 → s = 4) (hA : z_en A A' r s) : z_fr A A' := by
  have hu := fun q => z_Q_u hQ w hr q
  obtain ⟨a0, a1, a2, a3, a4, a5, a6⟩ := hA
  refine ⟨a0, fun k q => ?_, fun k q => ?_, fun k q => ?_⟩
  · rw [a4] at q ⊢
    by_cases c1 : k = r
    · rw [if_pos c1] at q; exact absurd rfl q
    · rw [if_neg c1] at q ⊢
      by_cases c2 : A 30 r ≠ -1 ∧ k = (A 30 r).toNat
      · rw [if_pos c2] at q; exact absurd rfl q
      · rw [if_neg c2]
  · rw [a1]
    by_cases c1 : k = r
    · rw [if_pos c1]; exact h4 (by rw [← c1]; exact q)
    · rw [if_neg c1]
      by_cases c2 : A 30 r ≠ -1 ∧ k = (A 30 r).toNat
      · have := (hu c2.1).2.2.1
        rw [← c2.2] at this; omega
      · rw [if_neg c2]; exact q
  · rw [a5]
    split
    · rfl
    · split
      · rfl
      · exact q
theorem z_en_ex {r : Nat} {s : Int} (h : z_RR e A V) (hr : (r : Int) < A 22 13) (hA : z_en A A' r s) (hV : z_en V V' r s) : z_ex e A A' V V' := by
  obtain ⟨hR, -, hQ, -, w⟩ := h
  have hsz := q_w22_13 w
  have hu := fun q => z_Q_u hQ w hr q
  obtain ⟨e30, e29⟩ := z_R_30 hR (r := r) (by omega)
  intro he h29
  have n : ¬ (A 30 r ≠ -1 ∧ e = (A 30 r).toNat) := by
    rintro ⟨g1, g2⟩
    have := (hu g1).2.1
    rw [← g2] at this; omega
  obtain ⟨a0, a1, a2, a3, a4, a5, a6⟩ := hA
  obtain ⟨b0, b1, b2, b3, b4, b5, b6⟩ := hV
  rw [e30] at b2 b3
  exact ⟨by rw [a2, if_neg n], by rw [a3, if_neg n], by rw [b2, if_neg n], by rw [b3, if_neg n]⟩
theorem z_fr_r : z_fr A A := ⟨fun _ _ => rfl, fun _ _ => rfl, fun _ h => h, fun _ h => h⟩
theorem z_fr_t (h : z_fr A B) (k : z_fr B C) : z_fr A C := by
  obtain ⟨h1, h2, h3, h4⟩ := h
  obtain ⟨k1, k2, k3, k4⟩ := k
  refine ⟨fun o q => by rw [k1 o q, h1 o q], fun q hq => ?_, fun q hq => k3 q (h3 q hq), fun q hq => k4 q (h4 q hq)⟩
  have := k2 q hq
  rw [this] at hq ⊢
  exact h2 q hq
theorem z_ex_t (h : z_ex e A B V W) (k : z_ex e B C W A') (hb : z_fr A B) : z_ex e A C V A' := by
  intro he h29
  obtain ⟨a1, a2, a3, a4⟩ := h he h29
  obtain ⟨b1, b2, b3, b4⟩ := k he (hb.2.2.2 e h29)
  exact ⟨by rw [b1, a1], by rw [b2, a2], by rw [b3, a3], by rw [b4, a4]⟩
/-- all runners of a lost box end -/
theorem z_endIn {y : Int} (h : z_RR e A V) (hk : ∀ r : Nat, (r : Int) < A 22 13 → A 27 r ≠ y) :
    z_RR e (q_endIn A y) (m_gtR V y 1) ∧ z_fr A (q_endIn A y) ∧ (∀ o, o < 24 ∨ o = 27 ∨ 30 < o → m_gtR V y 1 o = V o) ∧ z_ex e A (q_endIn A y) V (m_gtR V y 1) ∧ (∀ r : Nat, (r : Int) < A 22 13 → A 23 r = y → q_endIn A y 24 r = 4) := by
  have w := h.2.2.2.2
  have hsz := q_w22_13 w
  have key := q_for2 (N := (A 22 13).toNat) (F := f_54 y) (G := f_m200r y 1)
    (P := fun i B W => z_RR e B W ∧ z_fr A B ∧ (∀ o, o < 24 ∨ o = 27 ∨ 30 < o → W o = V o) ∧ z_ex e A B V W ∧ (∀ r : Nat, r < i → (r : Int) < A 22 13 → A 23 r = y → B 24 r = 4))
    (by
      intro i B W hi hP
      obtain ⟨p1, p2, p3, p4, p5⟩ := hP
      have hQ := p1.2.2.1
      have wB := p1.2.2.2.2
      have hR := p1.1
      have e22 : B 22 13 = A 22 13 := by rw [p2.1 22 (by omega)]
      have e23 : B 23 = A 23 := p2.1 23 (by omega)
      have e27 : B 27 = A 27 := p2.1 27 (by omega)
      have hi8 : i < 8 := by omega
      have hir : (i : Int) < B 22 13 := by rw [e22]; omega
      obtain ⟨r1, r2, r3, r4, r5, r6, r7, r8⟩ := hR.2 i hi8
      have hkw : f_m200k y i W = W := by
        unfold f_m200k
        rw [if_neg (by rw [r4, e27]; exact hk i (by omega))]
      unfold f_54 f_m200r
      rw [if_pos rfl, hkw, r1, r2]
      by_cases c : B 23 i = y ∧ B 24 i ≠ 4
      · rw [if_pos c, if_pos c]
        have hu := fun q => (z_Q_u hQ wB hir q).1
        have hA := z_endA (A := B) (r := i) (s := 4) hu
        have hV := z_endV (A := W) (r := i) (s := 4) (by rw [r7]; exact hu)
        have hrel := z_end_rel p1 hir (Or.inr rfl) hA hV (q_end_w wB)
        have hfr := z_en_fr hQ wB hir (Or.inr rfl) (fun _ => rfl) hA
        have hex := z_en_ex p1 hir hA hV
        refine ⟨hrel, z_fr_t p2 hfr, fun o ho => by rw [hV.1 o ho, p3 o ho], z_ex_t p4 hex p2, ?_⟩
        intro r hr1 hr2 hr3
        by_cases e1 : r = i
        · subst e1; rw [hA.2.1, if_pos rfl]
        · exact hfr.2.2.1 r (p5 r (by omega) hr2 hr3)
      · rw [if_neg c, if_neg c]
        refine ⟨p1, p2, p3, p4, ?_⟩
        intro r hr1 hr2 hr3
        by_cases e1 : r = i
        · subst e1
          by_cases c4 : B 24 r = 4
          · exact c4
          · exact absurd ⟨by rw [e23]; exact hr3, c4⟩ c
        · exact p5 r (by omega) hr2 hr3)
    (A 22 13).toNat 0 A V (by omega) ⟨h, z_fr_r, fun _ _ => rfl, fun _ _ => ⟨rfl, rfl, rfl, rfl⟩, fun r hr => by omega⟩
  have e22 : V 22 13 = A 22 13 := h.1.1
  have eV : m_gtR V y 1 = q_for (f_m200r y 1) (A 22 13).toNat 0 V := by unfold m_gtR; rw [e22]
  rw [eV]
  exact ⟨key.1, key.2.1, key.2.2.1, key.2.2.2.1, fun r hr => key.2.2.2.2 r (by omega) hr⟩
end re7
