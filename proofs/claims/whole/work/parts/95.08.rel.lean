section re8
variable {A B C V W A' V' : mj_M} {e : Nat}
theorem z_RR_27 (h : z_RR e A V) {k : Nat} (v : Int) (w : q_wr (mj_up A 27 k v)) : z_RR e (mj_up A 27 k v) (mj_up V 27 k v) := by
  obtain ⟨hR, hR2, hQ, hO, w0⟩ := h
  have o : ∀ (X : mj_M) a, a ≠ 27 → mj_up X 27 k v a = X a := fun X a h => mj_up_ne h
  refine ⟨⟨by rw [o V 22 (by omega), o A 22 (by omega)]; exact hR.1, ?_⟩, ?_, ?_, ⟨?_, ?_⟩, w⟩
  · intro r hr
    obtain ⟨r1, r2, r3, r4, r5, r6, r7, r8⟩ := hR.2 r hr
    rw [o V 23 (by omega), o A 23 (by omega), o V 24 (by omega), o A 24 (by omega), o V 25 (by omega), o A 25 (by omega), o V 26 (by omega), o A 26 (by omega), o V 28 (by omega), o A 28 (by omega), o V 29 (by omega), o A 29 (by omega), o V 30 (by omega), o A 30 (by omega), o V 31 (by omega), o A 31 (by omega), mj_up_at, mj_up_at]
    refine ⟨r1, r2, r3, ?_, r5, r6, r7, r8⟩
    split
    · rfl
    · exact r4
  · intro r hr
    rw [o V 32 (by omega), o A 32 (by omega), o V 33 (by omega), o A 33 (by omega), o V 35 (by omega), o A 35 (by omega), o A 24 (by omega), o A 31 (by omega)]
    exact hR2 r hr
  · intro r hr
    rw [o A 22 (by omega)] at hr
    rw [o A 22 (by omega), o A 24 (by omega), o A 28 (by omega), o A 29 (by omega), o A 30 (by omega), o A 34 (by omega)]
    exact hQ r hr
  · intro r q hr hq
    rw [o A 22 (by omega)] at hr hq
    rw [o A 24 (by omega), o A 34 (by omega), o V 34 (by omega)]
    exact hO.1 r q hr hq
  · intro r hr
    rw [o A 22 (by omega)] at hr
    rw [o A 24 (by omega), o V 34 (by omega), o V 201 (by omega)]
    exact hO.2 r hr
/-- what a lost gate leaves as it was -/
def z_fr2 (A B : mj_M) : Prop := (∀ o, o < 24 ∨ 30 < o → B o = A o) ∧ (∀ k, B 28 k ≠ -1 → B 28 k = A 28 k) ∧ (∀ k, A 24 k = 4 → B 24 k = 4) ∧ (∀ k, A 29 k = -1 → B 29 k = -1) ∧ (∀ k, B 27 k ≠ -1 → B 27 k = A 27 k)
theorem z_fr2_r : z_fr2 A A := ⟨fun _ _ => rfl, fun _ _ => rfl, fun _ h => h, fun _ h => h, fun _ _ => rfl⟩
theorem z_fr2_t (h : z_fr2 A B) (k : z_fr2 B C) : z_fr2 A C := by
  obtain ⟨h1, h2, h3, h4, h5⟩ := h
  obtain ⟨k1, k2, k3, k4, k5⟩ := k
  refine ⟨fun o q => by rw [k1 o q, h1 o q], fun q hq => ?_, fun q hq => k3 q (h3 q hq), fun q hq => k4 q (h4 q hq), fun q hq => ?_⟩
  · have := k2 q hq
    rw [this] at hq ⊢
    exact h2 q hq
  · have := k5 q hq
    rw [this] at hq ⊢
    exact h5 q hq
theorem z_fr_2 (h : z_fr A B) : z_fr2 A B := ⟨fun o q => h.1 o (by omega), h.2.1, h.2.2.1, h.2.2.2, fun k _ => by rw [h.1 27 (by omega)]⟩
theorem z_fr2_27 {k : Nat} : z_fr2 A (mj_up A 27 k (-1)) := by
  refine ⟨fun o q => mj_up_ne (by omega), fun q _ => by rw [mj_up_ne (by omega)], fun q h => by rw [mj_up_ne (by omega)]; exact h, fun q h => by rw [mj_up_ne (by omega)]; exact h, fun q h => ?_⟩
  rw [mj_up_at] at h ⊢
  split at h
  · exact absurd rfl h
  · rename_i c; rw [if_neg c]
theorem z_ex_t2 (h : z_ex e A B V W) (k : z_ex e B C W A') (hb : z_fr2 A B) : z_ex e A C V A' := by
  intro he h29
  obtain ⟨a1, a2, a3, a4⟩ := h he h29
  obtain ⟨b1, b2, b3, b4⟩ := k he (hb.2.2.2.1 e h29)
  exact ⟨by rw [b1, a1], by rw [b2, a2], by rw [b3, a3], by rw [b4, a4]⟩
/-- the order of the two does not matter -/
theorem z_en_27 {r i : Nat} {s v : Int} (h : z_en V (mj_up W 27 i (V 27 i)) r s) : True := trivial
theorem z_stopAt {y k : Int} (hk : k = 2 ∨ k = 3) (hy : y ≠ -1) (h : z_RR e A V) :
    z_RR e (q_stopAt A y) (m_gtR V y k) ∧ z_fr2 A (q_stopAt A y) ∧ (∀ o, o < 24 ∨ 30 < o → m_gtR V y k o = V o) ∧ z_ex e A (q_stopAt A y) V (m_gtR V y k) ∧ (∀ r : Nat, (r : Int) < A 22 13 → q_stopAt A y 28 r ≠ y ∧ q_stopAt A y 27 r ≠ y) := by
  have w := h.2.2.2.2
  have hsz := q_w22_13 w
  have key := q_for2 (N := (A 22 13).toNat) (F := f_58 y) (G := f_m200r y k)
    (P := fun i B W => z_RR e B W ∧ z_fr2 A B ∧ (∀ o, o < 24 ∨ 30 < o → W o = V o) ∧ z_ex e A B V W ∧ (∀ r : Nat, r < i → (r : Int) < A 22 13 → B 28 r ≠ y ∧ B 27 r ≠ y))
    (by
      intro i B W hi hP
      obtain ⟨p1, p2, p3, p4, p5⟩ := hP
      have hQ := p1.2.2.1
      have wB := p1.2.2.2.2
      have hR := p1.1
      have e22 : B 22 13 = A 22 13 := by rw [p2.1 22 (by omega)]
      have hi8 : i < 8 := by omega
      have hir : (i : Int) < B 22 13 := by rw [e22]; omega
      obtain ⟨r1, r2, r3, r4, r5, r6, r7, r8⟩ := hR.2 i hi8
      have hQi := (hQ i hir).2.1
      have h27 := q_w27 (i := i) wB hi8
      -- the keeper first
      have hKK : ∃ B1 W1, z_RR e B1 W1 ∧ z_fr2 B B1 ∧ (∀ o, o < 24 ∨ 30 < o → W1 o = W o) ∧ z_ex e B B1 W W1 ∧ B1 27 i ≠ y ∧ f_m200k y i W = W1 ∧ (∀ a, a ≠ 27 → B1 a = B a) ∧ (∀ a, a ≠ 27 → W1 a = W a) ∧ f_58b y i B = B1 := by
        by_cases c : B 27 i = y
        · refine ⟨mj_up B 27 i (-1), mj_up W 27 i (-1), z_RR_27 p1 (-1) (q_wr_up wB (by simp [q_okv])), z_fr2_27, fun o ho => mj_up_ne (by omega), fun _ _ => ⟨by rw [mj_up_ne (by omega)], by rw [mj_up_ne (by omega)], by rw [mj_up_ne (by omega)], by rw [mj_up_ne (by omega)]⟩, ?_, ?_, fun a ha => mj_up_ne ha, fun a ha => mj_up_ne ha, ?_⟩
          · rw [mj_up_at, if_pos rfl]; omega
          · unfold f_m200k; rw [if_pos (by rw [r4]; exact c)]
          · unfold f_58b; rw [if_pos c]
        · refine ⟨B, W, p1, z_fr2_r, fun _ _ => rfl, fun _ _ => ⟨rfl, rfl, rfl, rfl⟩, c, ?_, fun _ _ => rfl, fun _ _ => rfl, ?_⟩
          · unfold f_m200k; rw [if_neg (by rw [r4]; exact c)]
          · unfold f_58b; rw [if_neg c]
      obtain ⟨B1, W1, k1, k2, k3, k4, k5, k6, k7, k8, k9⟩ := hKK
      have n1 : ¬ k = 1 := by omega
      unfold f_m200r
      rw [if_neg n1, if_pos hk, k6]
      have fin : ∀ C X, z_RR e C X → z_fr2 B1 C → (∀ o, o < 24 ∨ 30 < o → X o = W1 o) → z_ex e B1 C W1 X → C 28 i ≠ y → z_RR e C X ∧ z_fr2 A C ∧ (∀ o, o < 24 ∨ 30 < o → X o = V o) ∧ z_ex e A C V X ∧ (∀ r : Nat, r < i + 1 → (r : Int) < A 22 13 → C 28 r ≠ y ∧ C 27 r ≠ y) := by
        intro C X c1 c2 c3 c4 c5
        refine ⟨c1, z_fr2_t p2 (z_fr2_t k2 c2), fun o ho => by rw [c3 o ho, k3 o ho, p3 o ho], z_ex_t2 p4 (z_ex_t2 k4 c4 k2) p2, ?_⟩
        intro r hr1 hr2
        by_cases e1 : r = i
        · subst e1
          refine ⟨c5, fun q => ?_⟩
          have := c2.2.2.2.2 r (by omega)
          rw [q] at this
          exact k5 this.symm
        · obtain ⟨g1, g2⟩ := p5 r (by omega) hr2
          have t2 := z_fr2_t k2 c2
          refine ⟨fun q => ?_, fun q => ?_⟩
          · have := t2.2.1 r (by omega)
            rw [q] at this
            exact g1 this.symm
          · have := t2.2.2.2.2 r (by omega)
            rw [q] at this
            exact g2 this.symm
      by_cases c : B 28 i = y
      · have hst := hQi.mp (by omega)
        have cond : (W 24 i = 1 ∨ W 24 i = 2) ∧ W 28 i = y := ⟨by rw [r2]; exact hst, by rw [r5]; exact c⟩
        rw [if_pos cond]
        have hir1 : (i : Int) < B1 22 13 := by rw [k7 22 (by omega)]; exact hir
        have hQ1 := k1.2.2.1
        have w1 := k1.2.2.2.2
        have hu := fun q => (z_Q_u hQ1 w1 hir1 q).1
        have hA := z_endA (A := B1) (r := i) (s := 3) hu
        have hV := z_endV (A := W1) (r := i) (s := 3) (by rw [(k1.1.2 i hi8).2.2.2.2.2.2.1]; exact hu)
        have hrel := z_end_rel k1 hir1 (Or.inl rfl) hA hV (q_end_w w1)
        have hfr := z_en_fr hQ1 w1 hir1 (Or.inl rfl) (fun q => by rw [k7 24 (by omega)] at q; omega) hA
        have hex := z_en_ex k1 hir1 hA hV
        -- the class: end, then keeper
        have hcom : f_58 y i B = q_end B1 (i : Int) 3 := by
          unfold f_58 f_58a
          rw [if_pos c]
          have hQB := fun q => (z_Q_u hQ wB hir q).1
          have hA0 := z_endA (A := B) (r := i) (s := 3) hQB
          by_cases c2 : B 27 i = y
          · have eB1 : B1 = mj_up B 27 i (-1) := by rw [← k9]; unfold f_58b; rw [if_pos c2]
            unfold f_58b
            rw [if_pos (by rw [hA0.1 27 (by omega)]; exact c2)]
            funext a j
            by_cases ha : a = 27
            · subst ha
              rw [mj_up_at, hA.1 27 (by omega), eB1, mj_up_at, hA0.1 27 (by omega)]
            · rw [mj_up_ne ha]
              have e30 : B1 30 = B 30 := k7 30 (by omega)
              have e29 : B1 29 = B 29 := k7 29 (by omega)
              by_cases h1 : a < 24 ∨ a = 27 ∨ 30 < a
              · rw [hA0.1 a h1, hA.1 a h1, k7 a ha]
              · have : a = 24 ∨ a = 25 ∨ a = 26 ∨ a = 28 ∨ a = 29 ∨ a = 30 := by omega
                rcases this with h2 | h2 | h2 | h2 | h2 | h2
                · subst h2; rw [hA0.2.1, hA.2.1, e30, k7 24 (by omega)]
                · subst h2; rw [hA0.2.2.1, hA.2.2.1, e30, k7 25 (by omega)]
                · subst h2; rw [hA0.2.2.2.1, hA.2.2.2.1, e30, k7 26 (by omega)]
                · subst h2; rw [hA0.2.2.2.2.1, hA.2.2.2.2.1, e30, k7 28 (by omega)]
                · subst h2; rw [hA0.2.2.2.2.2.1, hA.2.2.2.2.2.1, e30, e29]
                · subst h2; rw [hA0.2.2.2.2.2.2, hA.2.2.2.2.2.2, e30, e29]
          · have eB1 : B1 = B := by rw [← k9]; unfold f_58b; rw [if_neg c2]
            unfold f_58b
            rw [if_neg (by rw [hA0.1 27 (by omega)]; exact c2), eB1]
        rw [hcom]
        exact fin _ _ hrel (z_fr_2 hfr) (fun o ho => hV.1 o (by omega)) hex (by rw [hA.2.2.2.2.1, if_pos rfl]; omega)
      · have cond : ¬ ((W 24 i = 1 ∨ W 24 i = 2) ∧ W 28 i = y) := fun q => c (by rw [← r5]; exact q.2)
        rw [if_neg cond]
        have hcom : f_58 y i B = B1 := by
          unfold f_58 f_58a
          rw [if_neg c]; exact k9
        rw [hcom]
        exact fin _ _ k1 z_fr2_r (fun _ _ => rfl) (fun _ _ => ⟨rfl, rfl, rfl, rfl⟩) (by rw [k7 28 (by omega)]; exact c))
    (A 22 13).toNat 0 A V (by omega) ⟨h, z_fr2_r, fun _ _ => rfl, fun _ _ => ⟨rfl, rfl, rfl, rfl⟩, fun r hr => by omega⟩
  have e22 : V 22 13 = A 22 13 := h.1.1
  have eV : m_gtR V y k = q_for (f_m200r y k) (A 22 13).toNat 0 V := by unfold m_gtR; rw [e22]
  rw [eV]
  exact ⟨key.1, key.2.1, key.2.2.1, key.2.2.2.1, fun r hr => key.2.2.2.2 r (by omega) hr⟩
theorem z_gtR_no {y k : Int} (hk : k ≠ 1 ∧ k ≠ 2 ∧ k ≠ 3) (hn : ∀ r : Nat, (r : Int) < V 22 13 → V 27 r ≠ y) : m_gtR V y k = V := by
  have h := q_for_inv (N := (V 22 13).toNat) (F := f_m200r y k) (P := fun _ W => W = V) (fun t W ht hW => by
    subst hW
    unfold f_m200r f_m200k
    rw [if_neg hk.1, if_neg (by omega), if_neg (hn t (by omega))]) (V 22 13).toNat 0 V (by omega) rfl
  exact h
end re8
