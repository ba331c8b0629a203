section rea4
variable {A B C D E M N V W : mj_M} {a : Nat}
theorem q_meet_e {g : Nat} (hg : g < 40) : q_meet A (g : Int) = 1 ↔ (A 14 g = 2 ∨ A 14 g = 3) := by
  unfold q_meet
  simp only [Int.toNat_natCast]
  by_cases c : A 14 g = 2 ∨ A 14 g = 3
  · rw [if_pos ⟨by omega, by omega, c⟩]; exact ⟨fun _ => c, fun _ => rfl⟩
  · rw [if_neg (fun q => c q.2.2)]; exact ⟨fun q => by omega, fun q => absurd q c⟩
theorem q_of_e {g : Nat} (hg : g < 40) {v : Int} : q_of A (g : Int) v = 1 ↔ A 14 g = v := by
  rw [q_of_1]
  simp only [Int.toNat_natCast]
  exact ⟨fun q => q.2.2, fun q => ⟨by omega, by omega, q⟩⟩
theorem q_tht_n {g : Nat} (hg : g < 40) : q_tht A (g : Int) = 1 ↔ A 14 g ≠ -1 := by
  unfold q_tht
  simp only [Int.toNat_natCast]
  by_cases c : A 14 g = -1
  · rw [if_neg (fun q => q.2.2 c)]; exact ⟨fun q => by omega, fun q => absurd c q⟩
  · rw [if_pos ⟨by omega, by omega, c⟩]; exact ⟨fun _ => c, fun _ => rfl⟩
/-- both ways of giving are one -/
theorem z_same {H : Nat → Int} (hA : ∀ j, j < 1600 → A 153 j = H j) {j : Nat} {k : Int} (hj : j < 1600) :
    (mj_and (H j) k ≠ 0 ∨ ∃ y : Nat, 0 ≤ y ∧ y < 40 ∧ ∃ z : Nat, 0 ≤ z ∧ z < 40 ∧ z_bxs A y z ∧ z_pr A y z j k) ↔ (mj_and (H j) k ≠ 0 ∨ ∃ y : Nat, 0 ≤ y ∧ y < 40 ∧ ∃ g : Nat, 0 ≤ g ∧ g < 40 ∧ (q_of A (y : Int) 1 = 1 ∧ q_tht A (g : Int) = 1) ∧ z_prV A H y g j k) := by
  have gv : ∀ f g, f < 40 → (z_gv (A 153) f g j k ↔ z_gv H f g j k) := fun f g hf => by
    unfold z_gv
    constructor
    · intro ⟨t, h1, h2, h3, h4⟩; exact ⟨t, h1, h2, by rw [← hA _ (by omega)]; exact h3, by rw [← hA _ (by omega)]; exact h4⟩
    · intro ⟨t, h1, h2, h3, h4⟩; exact ⟨t, h1, h2, by rw [hA _ (by omega)]; exact h3, by rw [hA _ (by omega)]; exact h4⟩
  have self : ∀ f, z_gv H f f j k → mj_and (H j) k ≠ 0 := fun f ⟨t, h1, h2, h3, h4⟩ => by rw [h2]; exact h4
  constructor
  · intro q
    rcases q with q | ⟨y, _, hy, z, _, hz, ⟨b1, b2, b3⟩, p⟩
    · exact Or.inl q
    · right
      have bz : A 14 z = 1 := (q_of_e hz).mp b3
      have tz : q_tht A (z : Int) = 1 := (q_tht_n hz).mpr (by omega)
      rcases p with ⟨p1, p2⟩ | ⟨p1, p2⟩
      · rw [gv y z hy] at p2
        rcases p1 with ⟨g, g1, g2, g3, g4⟩ | p1
        · have k14 := (q_meet_e g1).mp g2
          refine ⟨y, by omega, hy, g, by omega, g1, ⟨b2, (q_tht_n g1).mpr (by omega)⟩, Or.inr (Or.inr ⟨⟨k14, by rw [← hA _ (by omega)]; exact g3⟩, z, by omega, hz, ⟨b3, by rw [← hA _ (by omega)]; exact g4⟩, Or.inl p2⟩)⟩
        · exact ⟨y, by omega, hy, z, by omega, hz, ⟨b2, tz⟩, Or.inl ⟨⟨bz, by rw [← hA _ (by omega)]; exact p1⟩, p2⟩⟩
      · rw [gv z y hz] at p2
        rcases p1 with ⟨g, g1, g2, g3, g4⟩ | p1
        · have k14 := (q_meet_e g1).mp g2
          refine ⟨y, by omega, hy, g, by omega, g1, ⟨b2, (q_tht_n g1).mpr (by omega)⟩, Or.inr (Or.inr ⟨⟨k14, by rw [← hA _ (by omega)]; exact g3⟩, z, by omega, hz, ⟨b3, by rw [← hA _ (by omega)]; exact g4⟩, Or.inr p2⟩)⟩
        · exact ⟨y, by omega, hy, z, by omega, hz, ⟨b2, tz⟩, Or.inr (Or.inl ⟨⟨bz, by rw [← hA _ (by omega)]; exact p1⟩, p2⟩)⟩
  · intro q
    rcases q with q | ⟨y, _, hy, g, _, hg, ⟨b1, b2⟩, p⟩
    · exact Or.inl q
    · have self2 : ∀ f q, f < 40 → q < 40 → f = q → z_gv H f q j k → mj_and (H j) k ≠ 0 := fun f q _ _ e r => by subst e; exact self f r
      rcases p with ⟨⟨p1, p2⟩, p3⟩ | ⟨⟨p1, p2⟩, p3⟩ | ⟨⟨p1, p2⟩, z, _, hz, ⟨p3, p4⟩, p5⟩
      · by_cases c : y = g
        · exact Or.inl (self2 y g hy hg c p3)
        · exact Or.inr ⟨y, by omega, hy, g, by omega, hg, ⟨c, b1, (q_of_e hg).mpr p1⟩, Or.inl ⟨Or.inr (by rw [hA _ (by omega)]; exact p2), (gv y g hy).mpr p3⟩⟩
      · by_cases c : y = g
        · exact Or.inl (self2 g y hg hy c.symm p3)
        · exact Or.inr ⟨y, by omega, hy, g, by omega, hg, ⟨c, b1, (q_of_e hg).mpr p1⟩, Or.inr ⟨Or.inr (by rw [hA _ (by omega)]; exact p2), (gv g y hg).mpr p3⟩⟩
      · by_cases c : y = z
        · subst c
          rcases p5 with p5 | p5
          · exact Or.inl (self y p5)
          · exact Or.inl (self y p5)
        · have me : z_me A y z := ⟨g, hg, (q_meet_e hg).mpr p1, by rw [hA _ (by omega)]; exact p2, by rw [hA _ (by omega)]; exact p4⟩
          rcases p5 with p5 | p5
          · exact Or.inr ⟨y, by omega, hy, z, by omega, hz, ⟨c, b1, p3⟩, Or.inl ⟨Or.inl me, (gv y z hy).mpr p5⟩⟩
          · exact Or.inr ⟨y, by omega, hy, z, by omega, hz, ⟨c, b1, p3⟩, Or.inr ⟨Or.inl me, (gv z y hz).mpr p5⟩⟩
/-- what is held, on both sides -/
def z_hh (M N : mj_M) : Prop := ∀ j : Nat, j < 1600 → M 153 j = N 177 j ∧ q_r4 (M 153 j)
theorem z_go0 (h : z_Rl 8 M V) (hh : z_hh M N) : ∀ j, j < 1600 → q_go0 M 154 j = m_g0 V N 178 j ∧ q_r4 (q_go0 M 154 j) ∧ (∀ k, mj_and (N 177 j) k ≠ 0 → mj_and (q_go0 M 154 j) k ≠ 0) := by
  have hC := mj_cpy_at (M := M) (a := 153) (b := 154) (s := 0) (t := 0) (N := 1600)
  have hD := q_for_row (N := 1600) (F := f_r1) (a := 178) (o := 0) (g := fun t A => A 177 t) (fun t A _ => by unfold f_r1; rw [Nat.zero_add]) (fun t A B hb => by show B 177 t = A 177 t; rw [hb 177 (by omega)]) 1600 0 N rfl
  unfold q_go0 m_g0
  generalize mj_cpy M 153 154 0 0 1600 = M1 at *
  generalize q_for f_r1 1600 0 N = N1 at *
  have c1 : ∀ b, b ≠ 154 → M1 b = M b := hC.1
  have d1 : ∀ b, b ≠ 178 → N1 b = N b := hD.1
  have b0 : ∀ j, j < 1600 → M1 154 j = M 153 j ∧ N1 178 j = N 177 j := fun j hj => by
    refine ⟨by rw [hC.2 j, if_pos (by omega), show 0 + (j - 0) = j by omega], by rw [hD.2 j, if_pos (by omega), Nat.sub_zero]⟩
  have h1 := z_slA h (B := M1) c1
  have h2 := z_slV h (C := N1) (N := N) d1
  generalize q_for f_132 120 0 M1 = M2 at *
  generalize q_for (f_r2 V) 120 0 N1 = N2 at *
  have c2 : ∀ b, b ≠ 154 → M2 b = M b := fun b q => by rw [h1.1 b q, c1 b q]
  have d2 : ∀ b, b ≠ 178 → N2 b = N b := fun b q => by rw [h2.1 b q, d1 b q]
  obtain ⟨m1, m2⟩ := z_m133 (A := M2)
  generalize q_for f_133 40 0 M2 = M3 at *
  have c3 : ∀ b, b ≠ 154 → b ≠ 155 → b ≠ 156 → M3 b = M b := fun b q1 q2 q3 => by rw [m1 b q2 q3, c2 b q1]
  have hr : q_hr (M 153) := fun j hj => (hh j hj).2
  have hrN : q_hr (N 177) := fun j hj => by rw [← (hh j hj).1]; exact (hh j hj).2
  have gd : ∀ k y i, z_gd M2 k y i ↔ z_gd M3 k y i := fun k y i => by unfold z_gd q_meet; rw [m1 14 (by omega) (by omega), m1 153 (by omega) (by omega)]
  have h3 := z_allA (A := M3) (by rw [c3 153 (by omega) (by omega) (by omega)]; exact hr) (fun y hy i hi => by rw [← gd, ← gd]; exact m2 y hy i hi)
  have h4 := z_allV h (N := N) hrN d2
  generalize q_for f_131 40 0 M3 = M4 at *
  generalize q_for (f_r3 V) 40 0 N2 = N4 at *
  intro j hj
  have hA3 : ∀ i, i < 1600 → M3 153 i = N 177 i := fun i hi => by rw [c3 153 (by omega) (by omega) (by omega)]; exact (hh i hi).1
  have s := fun k => z_same (A := M3) (H := N 177) hA3 (j := j) (k := k) hj
  have o14 : M3 14 = M 14 := c3 14 (by omega) (by omega) (by omega)
  have qo : ∀ i v, q_of M3 i v = q_of M i v := fun i v => by unfold q_of; rw [o14]
  have qt : ∀ i, q_tht M3 i = q_tht M i := fun i => by unfold q_tht; rw [o14]
  have pV : ∀ y g k, z_prV M3 (N 177) y g j k ↔ z_prV M (N 177) y g j k := fun y g k => by unfold z_prV; rw [o14]; simp only [qo]
  have sl : ∀ t, t < 120 → ∀ k, z_sl M (M 153) t j k ↔ z_sl M (N 177) t j k := fun t ht k => by
    unfold z_sl
    have w8 := q_w8 (i := t) h.1.1.1 ht
    have w10 := q_w10 (i := t) h.1.1.1 ht
    constructor
    · intro ⟨⟨q1, q2, q3, q4, q5, q6⟩, q7⟩
      exact ⟨⟨q1, q2, q3, q4, q5, by rw [← (hh _ (by omega)).1]; exact q6⟩, q7⟩
    · intro ⟨⟨q1, q2, q3, q4, q5, q6⟩, q7⟩
      exact ⟨⟨q1, q2, q3, q4, q5, by rw [(hh _ (by omega)).1]; exact q6⟩, q7⟩
  have bits : ∀ k, mj_and (M4 154 j) k ≠ 0 ↔ mj_and (N4 178 j) k ≠ 0 := by
    intro k
    have eN : mj_and (M1 154 j) k ≠ 0 ↔ mj_and (N 177 j) k ≠ 0 := by rw [(b0 j hj).1, (hh j hj).1]
    have eN2 : mj_and (N1 178 j) k ≠ 0 ↔ mj_and (N 177 j) k ≠ 0 := by rw [(b0 j hj).2]
    have e154 : M3 154 = M2 154 := m1 154 (by omega) (by omega)
    have s2 := s k
    simp only [qo, qt, pV] at s2
    rw [h3.2.2 j k, h4.2.2 j k, e154, h1.2.2 j k, h2.2.2 j k, eN, eN2]
    have S : (∃ t : Nat, 0 ≤ t ∧ t < 120 ∧ z_sl M (M 153) t j k) ↔ (∃ t : Nat, 0 ≤ t ∧ t < 120 ∧ z_sl M (N 177) t j k) := ⟨fun ⟨t, q1, q2, q3⟩ => ⟨t, q1, q2, (sl t q2 k).mp q3⟩, fun ⟨t, q1, q2, q3⟩ => ⟨t, q1, q2, (sl t q2 k).mpr q3⟩⟩
    constructor
    · intro q
      rcases q with (q | q) | q
      · exact Or.inl (Or.inl q)
      · exact Or.inl (Or.inr (S.mp q))
      · rcases s2.mp (Or.inr q) with r | r
        · exact Or.inl (Or.inl r)
        · exact Or.inr r
    · intro q
      rcases q with (q | q) | q
      · exact Or.inl (Or.inl q)
      · exact Or.inl (Or.inr (S.mpr q))
      · rcases s2.mpr (Or.inr q) with r | r
        · exact Or.inl (Or.inl r)
        · exact Or.inr r
  have r1 : q_r4 (M4 154 j) := h3.2.1 j (by rw [m1 154 (by omega) (by omega)]; exact h1.2.1 j (by rw [(b0 j hj).1]; exact hr j hj))
  have r2 : q_r4 (N4 178 j) := h4.2.1 j (h2.2.1 j (by rw [(b0 j hj).2]; exact hrN j hj))
  refine ⟨q_eq_b r1 r2 (fun k _ => bits k), r1, fun k q => ?_⟩
  rw [bits k, h4.2.2 j k, h2.2.2 j k, (b0 j hj).2]
  exact Or.inl (Or.inl q)
end rea4
