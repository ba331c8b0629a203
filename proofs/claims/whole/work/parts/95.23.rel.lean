section re23
variable {A B C V W A' V' : mj_M} {e : Nat}
/-- one that waits or calls, and is not linked, is woken -/
def z_wk1 (A A' : mj_M) (u : Nat) (a : Int) : Prop := (∀ o, o < 24 ∨ o = 27 ∨ 29 < o → A' o = A o) ∧ (∀ k, A' 24 k = if k = u then 0 else A 24 k) ∧ (∀ k, A' 25 k = if k = u then mj_w (A 25 k + 1) else A 25 k) ∧
    (∀ k, A' 26 k = if k = u then a else A 26 k) ∧ (∀ k, A' 28 k = if k = u then -1 else A 28 k) ∧ (∀ k, A' 29 k = if k = u then -1 else A 29 k)
theorem z_wake_rel {u : Nat} {a : Int} (h : z_RR e A V) (hu : (u : Int) < A 22 13) (h29 : A 29 u = -1) (hA : z_wk1 A A' u a) (hV : z_wk1 V V' u a) (w' : q_wr A') : z_RR e A' V' := by
  obtain ⟨hR, hR2, hQ, hO, w⟩ := h
  have hsz := q_w22_13 w
  obtain ⟨a0, a1, a2, a3, a4, a5⟩ := hA
  obtain ⟨b0, b1, b2, b3, b4, b5⟩ := hV
  have s22 : A' 22 13 = A 22 13 := by rw [a0 22 (by omega)]
  refine ⟨⟨by rw [b0 22 (by omega), s22]; exact hR.1, ?_⟩, ?_, ?_, ⟨?_, ?_⟩, w'⟩
  · intro k hk
    obtain ⟨r1, r2, r3, r4, r5, r6, r7, r8⟩ := hR.2 k hk
    exact ⟨by rw [b0 23 (by omega), a0 23 (by omega)]; exact r1, by rw [a1, b1, r2], fun q => ⟨by rw [a2, b2, (r3 q).1], by rw [a3, b3, (r3 q).2]⟩, by rw [b0 27 (by omega), a0 27 (by omega)]; exact r4, by rw [a4, b4, r5], by rw [a5, b5, r6], by rw [a0 30 (by omega), b0 30 (by omega), r7], by rw [a0 31 (by omega), b0 31 (by omega), r8]⟩
  · intro k hk
    obtain ⟨r1, r2, r3⟩ := hR2 k hk
    rw [a1, a0 31 (by omega), a0 32 (by omega), a0 33 (by omega), a0 35 (by omega), b0 32 (by omega), b0 33 (by omega), b0 35 (by omega)]
    refine ⟨fun q => ?_, fun q => ?_, r3⟩
    · split at q
      · omega
      · exact r1 q
    · split at q
      · omega
      · exact r2 q
  · intro k hk
    rw [s22] at hk
    obtain ⟨q1, q2, q3, q4, q5⟩ := hQ k hk
    have p30 : A' 30 k ≠ -1 → A' 30 k < A 22 13 ∧ A' 24 (A' 30 k).toNat = 2 ∧ A' 29 (A' 30 k).toNat = k := by
      rw [a0 30 (by omega)]
      intro q
      obtain ⟨k1, k2, k3⟩ := q4 q
      have n1 : (A 30 k).toNat ≠ u := fun g => by rw [g] at k3; omega
      exact ⟨k1, by rw [a1, if_neg n1]; exact k2, by rw [a5, if_neg n1]; exact k3⟩
    rw [s22]
    refine ⟨?_, ?_, ?_, p30, ?_⟩
    · rw [a1]; split
      · omega
      · exact q1
    · rw [a1, a4]
      by_cases c : k = u
      · rw [if_pos c, if_pos c]; omega
      · rw [if_neg c, if_neg c]; exact q2
    · rw [a5, a1, a0 30 (by omega)]
      by_cases c : k = u
      · rw [if_pos c]; exact fun q => absurd rfl q
      · rw [if_neg c, if_neg c]; exact q3
    · rw [a5, a0 34 (by omega)]
      by_cases c : k = u
      · rw [if_pos c]; exact fun q => absurd rfl q
      · rw [if_neg c]
        intro q
        rw [a1]
        split
        · intro g; omega
        · exact q5 q
  · intro r q hr hq
    rw [s22] at hr hq
    rw [a1, a1, a0 34 (by omega), b0 34 (by omega)]
    intro g1 g2
    split at g1
    · omega
    · split at g2
      · omega
      · exact hO.1 r q hr hq g1 g2
  · intro r hr
    rw [s22] at hr
    rw [a1, b0 34 (by omega), b0 201 (by omega)]
    intro g1
    split at g1
    · omega
    · exact hO.2 r hr g1
/-- one that was ready waits or calls from now on -/
def z_goA (A A' : mj_M) (r : Nat) (s g b c n : Int) : Prop := (∀ o, o ≠ 24 → o ≠ 28 → o ≠ 32 → o ≠ 33 → o ≠ 34 → A' o = A o) ∧ (∀ k, A' 24 k = if k = r then s else A 24 k) ∧ (∀ k, A' 28 k = if k = r then g else A 28 k) ∧
    (∀ k, A' 32 k = if k = r then b else A 32 k) ∧ (∀ k, A' 33 k = if k = r then c else A 33 k) ∧ (∀ k, A' 34 k = if k = r then n else A 34 k)
def z_goV (V V' : mj_M) (r : Nat) (s g b c : Int) : Prop := (∀ o, o ≠ 24 → o ≠ 28 → o ≠ 32 → o ≠ 33 → o ≠ 34 → o ≠ 201 → V' o = V o) ∧ (∀ k, V' 24 k = if k = r then s else V 24 k) ∧ (∀ k, V' 28 k = if k = r then g else V 28 k) ∧
    (∀ k, V' 32 k = if k = r then b else V 32 k) ∧ (∀ k, k ≠ r → V' 33 k = V 33 k) ∧ (s = 2 → V' 33 r = c) ∧ (∀ k, k ≠ r → V' 34 k = V 34 k)
theorem z_goes_rel {r : Nat} {s g b c n : Int} (h : z_RR e A V) (hr : (r : Int) < A 22 13) (h24 : A 24 r = 0) (hg : g ≠ -1) (hA : z_goA A A' r s g b c n) (hV : z_goV V V' r s g b c)
    (hs : (s = 1 ∧ V' 201 0 = V 201 0) ∨ (s = 2 ∧ V' 34 r = V' 201 0 ∧ V' 201 0 = V 201 0 + 1 ∧ (∀ q : Nat, (q : Int) < A 22 13 → A 24 q = 2 → A 34 q < n))) (w' : q_wr A') : z_RR e A' V' := by
  obtain ⟨hR, hR2, hQ, hO, w⟩ := h
  have hsz := q_w22_13 w
  have h29 : A 29 r = -1 := by
    have := (hQ r hr).2.2.1
    by_cases q : A 29 r = -1
    · exact q
    · have := this q; omega
  obtain ⟨a0, a1, a2, a3, a4, a5⟩ := hA
  obtain ⟨b0, b1, b2, b3, b4, b5, b6⟩ := hV
  have x : ∀ o, o < 24 ∨ o = 25 ∨ o = 26 ∨ o = 27 ∨ (29 ≤ o ∧ o ≤ 31) ∨ (35 ≤ o ∧ o < 201) → A' o = A o ∧ V' o = V o := fun o ho => ⟨a0 o (by omega) (by omega) (by omega) (by omega) (by omega), b0 o (by omega) (by omega) (by omega) (by omega) (by omega) (by omega)⟩
  have s22 : A' 22 13 = A 22 13 := by rw [(x 22 (by omega)).1]
  refine ⟨⟨by rw [(x 22 (by omega)).2, s22]; exact hR.1, ?_⟩, ?_, ?_, ⟨?_, ?_⟩, w'⟩
  · intro k hk
    obtain ⟨r1, r2, r3, r4, r5, r6, r7, r8⟩ := hR.2 k hk
    rw [(x 23 (by omega)).1, (x 23 (by omega)).2, (x 25 (by omega)).1, (x 25 (by omega)).2, (x 26 (by omega)).1, (x 26 (by omega)).2, (x 27 (by omega)).1, (x 27 (by omega)).2, (x 29 (by omega)).1, (x 29 (by omega)).2, (x 30 (by omega)).1, (x 30 (by omega)).2, (x 31 (by omega)).1, (x 31 (by omega)).2]
    exact ⟨r1, by rw [a1, b1, r2], r3, r4, by rw [a2, b2, r5], r6, r7, r8⟩
  · intro k hk
    obtain ⟨r1, r2, r3⟩ := hR2 k hk
    rw [(x 31 (by omega)).1, (x 35 (by omega)).1, (x 35 (by omega)).2, a1, a3, b3, a4]
    by_cases c1 : k = r
    · rw [if_pos c1, if_pos c1, if_pos c1, if_pos c1]
      refine ⟨fun _ => rfl, fun q => ?_, r3⟩
      rw [c1]; exact b5 q
    · rw [if_neg c1, if_neg c1, if_neg c1, if_neg c1, b4 k c1]
      exact ⟨r1, r2, r3⟩
  · intro k hk
    rw [s22] at hk
    obtain ⟨q1, q2, q3, q4, q5⟩ := hQ k hk
    rw [s22, (x 29 (by omega)).1, (x 30 (by omega)).1]
    have nr : A 30 k ≠ -1 → (A 30 k).toNat ≠ r := fun q g => by
      have := (q4 q).2.1
      rw [g] at this; omega
    have p30 : A 30 k ≠ -1 → A 30 k < A 22 13 ∧ A' 24 (A 30 k).toNat = 2 ∧ A 29 (A 30 k).toNat = k := fun q => by
      obtain ⟨k1, k2, k3⟩ := q4 q
      exact ⟨k1, by rw [a1, if_neg (nr q)]; exact k2, k3⟩
    by_cases c1 : k = r
    · rw [a1, a2, if_pos c1, if_pos c1]
      refine ⟨by omega, by omega, fun q => ?_, p30, fun q => ?_⟩
      · rw [c1] at q; exact absurd h29 q
      · rw [c1] at q; exact absurd h29 q
    · rw [a1, a2, a5, if_neg c1, if_neg c1, if_neg c1]
      refine ⟨q1, q2, q3, p30, fun q => ?_⟩
      rw [a1, a5]
      by_cases c2 : (A 29 k).toNat = r
      · rw [if_pos c2, if_pos c2]
        intro g
        rcases hs with hs | hs
        · omega
        · exact hs.2.2.2 k hk (q3 q).1
      · rw [if_neg c2, if_neg c2]; exact q5 q
  · intro p q hp hq
    rw [s22] at hp hq
    rw [a1, a1, a5, a5]
    intro g1 g2
    rcases hs with hs | hs
    · rw [hs.1] at g1 g2
      by_cases c1 : p = r
      · rw [if_pos c1] at g1; omega
      · by_cases c2 : q = r
        · rw [if_pos c2] at g2; omega
        · rw [if_neg c1] at g1; rw [if_neg c2] at g2
          rw [if_neg c1, if_neg c2, b6 p c1, b6 q c2]
          exact hO.1 p q hp hq g1 g2
    · obtain ⟨hs1, hs2, hs3, hs4⟩ := hs
      by_cases c1 : p = r
      · by_cases c2 : q = r
        · rw [if_pos c1, if_pos c2, c1, c2]; omega
        · rw [if_neg c2] at g2
          have := hO.2 q hq g2
          have := hs4 q hq g2
          rw [if_pos c1, if_neg c2, c1, b6 q c2]; omega
      · rw [if_neg c1] at g1
        have := hO.2 p hp g1
        have := hs4 p hp g1
        by_cases c2 : q = r
        · rw [if_neg c1, if_pos c2, c2, b6 p c1]; omega
        · rw [if_neg c2] at g2
          rw [if_neg c1, if_neg c2, b6 p c1, b6 q c2]
          exact hO.1 p q hp hq g1 g2
  · intro p hp
    rw [s22] at hp
    rw [a1]
    intro g1
    rcases hs with hs | hs
    · rw [hs.1] at g1
      by_cases c1 : p = r
      · rw [if_pos c1] at g1; omega
      · rw [if_neg c1] at g1
        have := hO.2 p hp g1
        rw [b6 p c1]; omega
    · by_cases c1 : p = r
      · rw [c1]; omega
      · rw [if_neg c1] at g1
        have := hO.2 p hp g1
        rw [b6 p c1]; omega
/-- one that calls is linked with the one that serves it, or freed of it -/
def z_lk (A A' : mj_M) (c u : Nat) (x y : Int) : Prop := (∀ o, o ≠ 29 → o ≠ 30 → A' o = A o) ∧ (∀ k, A' 29 k = if k = c then x else A 29 k) ∧ (∀ k, A' 30 k = if k = u then y else A 30 k)
theorem z_lk_rel {c u : Nat} {x y : Int} (h : z_RR e A V) (hc : (c : Int) < A 22 13) (hu : (u : Int) < A 22 13) (hA : z_lk A A' c u x y) (hV : z_lk V V' c u x y)
    (hs : (x = u ∧ y = c ∧ A 24 c = 2 ∧ A 24 u ≠ 2 ∧ A 29 c = -1 ∧ A 30 u = -1) ∨ (x = -1 ∧ y = -1 ∧ A 29 c = u ∧ A 30 u = c)) (w' : q_wr A') : z_RR e A' V' := by
  obtain ⟨hR, hR2, hQ, hO, w⟩ := h
  have hsz := q_w22_13 w
  obtain ⟨a0, a1, a2⟩ := hA
  obtain ⟨b0, b1, b2⟩ := hV
  have xx : ∀ o, o ≠ 29 → o ≠ 30 → A' o = A o ∧ V' o = V o := fun o h1 h2 => ⟨a0 o h1 h2, b0 o h1 h2⟩
  have s22 : A' 22 13 = A 22 13 := by rw [(xx 22 (by omega) (by omega)).1]
  refine ⟨⟨by rw [(xx 22 (by omega) (by omega)).2, s22]; exact hR.1, ?_⟩, ?_, ?_, ⟨?_, ?_⟩, w'⟩
  · intro k hk
    obtain ⟨r1, r2, r3, r4, r5, r6, r7, r8⟩ := hR.2 k hk
    rw [(xx 23 (by omega) (by omega)).1, (xx 23 (by omega) (by omega)).2, (xx 24 (by omega) (by omega)).1, (xx 24 (by omega) (by omega)).2, (xx 25 (by omega) (by omega)).1, (xx 25 (by omega) (by omega)).2, (xx 26 (by omega) (by omega)).1, (xx 26 (by omega) (by omega)).2, (xx 27 (by omega) (by omega)).1, (xx 27 (by omega) (by omega)).2, (xx 28 (by omega) (by omega)).1, (xx 28 (by omega) (by omega)).2, (xx 31 (by omega) (by omega)).1, (xx 31 (by omega) (by omega)).2]
    exact ⟨r1, r2, r3, r4, r5, by rw [a1, b1, r6], by rw [a2, b2, r7], r8⟩
  · intro k hk
    rw [(xx 24 (by omega) (by omega)).1, (xx 31 (by omega) (by omega)).1, (xx 32 (by omega) (by omega)).1, (xx 32 (by omega) (by omega)).2, (xx 33 (by omega) (by omega)).1, (xx 33 (by omega) (by omega)).2, (xx 35 (by omega) (by omega)).1, (xx 35 (by omega) (by omega)).2]
    exact hR2 k hk
  · intro k hk
    rw [s22] at hk
    obtain ⟨q1, q2, q3, q4, q5⟩ := hQ k hk
    have h29 := q_w29 (i := k) w (by omega)
    have h30 := q_w30 (i := k) w (by omega)
    rw [s22, (xx 24 (by omega) (by omega)).1, (xx 28 (by omega) (by omega)).1, (xx 34 (by omega) (by omega)).1]
    refine ⟨q1, q2, ?_, ?_, ?_⟩
    · rw [a1]
      by_cases c1 : k = c
      · rw [if_pos c1]
        rcases hs with hs | hs
        · intro _
          rw [c1, a2, if_pos (by omega)]
          exact ⟨hs.2.2.1, by omega, by omega⟩
        · intro q; exact absurd hs.1 q
      · rw [if_neg c1]
        intro q
        obtain ⟨k1, k2, k3⟩ := q3 q
        rw [a2, if_neg]
        · exact ⟨k1, k2, k3⟩
        · intro g
          rw [g] at k3
          omega
    · rw [a2]
      by_cases c1 : k = u
      · rw [if_pos c1]
        rcases hs with hs | hs
        · intro _
          rw [c1, a1, if_pos (by omega)]
          exact ⟨by omega, by rw [show y.toNat = c by omega]; exact hs.2.2.1, by omega⟩
        · intro q; exact absurd hs.2.1 q
      · rw [if_neg c1]
        intro q
        obtain ⟨k1, k2, k3⟩ := q4 q
        rw [a1, if_neg]
        · exact ⟨k1, k2, k3⟩
        · intro g
          rw [g] at k3
          omega
    · rw [a1]
      by_cases c1 : k = c
      · rw [if_pos c1]
        rcases hs with hs | hs
        · intro _ g
          rw [show x.toNat = u by omega] at g
          exact absurd g hs.2.2.2.1
        · intro q; exact absurd hs.1 q
      · rw [if_neg c1]; exact q5
  · intro p q hp hq
    rw [s22] at hp hq
    rw [(xx 24 (by omega) (by omega)).1, (xx 34 (by omega) (by omega)).1, (xx 34 (by omega) (by omega)).2]
    exact hO.1 p q hp hq
  · intro p hp
    rw [s22] at hp
    rw [(xx 24 (by omega) (by omega)).1, (xx 34 (by omega) (by omega)).2, (xx 201 (by omega) (by omega)).2]
    exact hO.2 p hp
end re23
