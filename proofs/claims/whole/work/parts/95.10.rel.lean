section re10
variable {A B C V W A' V' : mj_M} {e : Nat}
/-- what stands in a lost box is marked -/
theorem z_marks {y : Nat} (hy : y < 40) (w : q_wr A) (h42 : ∀ i : Nat, i < 400 → V 42 i = A 42 i) (hth : ∀ i : Nat, i < 400 → A 42 i ≠ -1 → A 3 (A 42 i).toNat ≠ -1) (hm : ∀ k : Nat, k < 120 → A 131 k ≠ 0 → A 3 k ≠ -1) (hmk : z_Mk A V) (hF : z_F A) :
    (∀ a, a ≠ 130 → a ≠ 131 → q_for (f_57 y) 10 0 A a = A a) ∧ (∀ a, a ≠ 131 → q_for (f_m200s y) 10 0 V a = V a) ∧ z_Mk (q_for (f_57 y) 10 0 A) (q_for (f_m200s y) 10 0 V) ∧
    (∀ k : Nat, k < 120 → q_for (f_57 y) 10 0 A 131 k ≠ 0 → A 3 k ≠ -1) ∧ (∀ k : Nat, A 131 k ≠ 0 → q_for (f_57 y) 10 0 A 131 k ≠ 0) ∧
    (∀ j : Nat, j < 10 → A 42 (10 * y + j) ≠ -1 → q_for (f_57 y) 10 0 A 131 (A 42 (10 * y + j)).toNat ≠ 0) ∧ z_F (q_for (f_57 y) 10 0 A) := by
  have key := q_for2 (N := 10) (F := f_57 y) (G := f_m200s y) (P := fun i B W => (∀ a, a ≠ 130 → a ≠ 131 → B a = A a) ∧ (∀ a, a ≠ 131 → W a = V a) ∧ z_Mk B W ∧
      (∀ k : Nat, k < 120 → B 131 k ≠ 0 → A 3 k ≠ -1) ∧ (∀ k : Nat, A 131 k ≠ 0 → B 131 k ≠ 0) ∧ (∀ j : Nat, j < i → j < 10 → A 42 (10 * y + j) ≠ -1 → B 131 (A 42 (10 * y + j)).toNat ≠ 0) ∧ z_F B)
    (by
      intro i B W hi hP
      obtain ⟨p1, p2, p3, p4, p5, p6, p7⟩ := hP
      have e42 : B 42 = A 42 := p1 42 (by omega) (by omega)
      have e3 : B 3 = A 3 := p1 3 (by omega) (by omega)
      have f42 : W 42 = V 42 := p2 42 (by omega)
      have hidx : (10 * (y : Int) + (i : Int)).toNat = 10 * y + i := by omega
      unfold f_57 f_m200s
      rw [hidx, e42, f42, h42 (10 * y + i) (by omega)]
      by_cases c : A 42 (10 * y + i) = -1
      · rw [if_neg (by omega), if_pos c]
        refine ⟨p1, p2, p3, p4, p5, ?_, p7⟩
        intro j hj hj2 hj3
        by_cases ej : j = i
        · subst ej; exact absurd c hj3
        · exact p6 j (by omega) hj2 hj3
      · rw [if_pos c, if_neg c]
        have hb := q_w42 (i := 10 * y + i) w (by omega)
        have ht := hth (10 * y + i) (by omega) c
        unfold q_mark m_mk
        have g131 : ∀ k, mj_up (mj_up B 131 (A 42 (10 * y + i)).toNat 1) 130 2 1 131 k = if k = (A 42 (10 * y + i)).toNat then 1 else B 131 k := fun k => by rw [mj_up_ne (by omega), mj_up_at]
        refine ⟨fun a h1 h2 => by rw [mj_up_ne h1, mj_up_ne h2]; exact p1 a h1 h2, fun a h1 => by rw [mj_up_ne h1]; exact p2 a h1, ?_, ?_, ?_, ?_, ?_⟩
        · intro k hk h3
          rw [mj_up_ne (by omega), mj_up_ne (by omega)] at h3
          rw [g131, mj_up_at]
          by_cases ek : k = (A 42 (10 * y + i)).toNat
          · rw [if_pos ek, if_pos ek]; simp
          · rw [if_neg ek, if_neg ek]; exact p3 k hk h3
        · intro k hk h
          rw [g131] at h
          by_cases ek : k = (A 42 (10 * y + i)).toNat
          · rw [ek]; exact ht
          · rw [if_neg ek] at h; exact p4 k hk h
        · intro k h
          rw [g131]
          split
          · omega
          · exact p5 k h
        · intro j hj hj2 hj3
          rw [g131]
          split
          · omega
          · rename_i hne
            by_cases ej : j = i
            · subst ej; exact absurd rfl hne
            · exact p6 j (by omega) hj2 hj3
        · refine ⟨Or.inr (by rw [mj_up_at, if_pos rfl]), fun q => ?_⟩
          rw [mj_up_at, if_pos rfl] at q; omega)
    10 0 A V rfl ⟨fun _ _ _ => rfl, fun _ _ => rfl, hmk, hm, fun _ h => h, fun j hj => by omega, hF⟩
  obtain ⟨k1, k2, k3, k4, k5, k6, k7⟩ := key
  exact ⟨k1, k2, k3, k4, k5, fun j hj h => k6 j hj hj h, k7⟩
/-- a thing is lost, on both sides -/
theorem z_lost {y : Nat} (hy : y < 40) (h : z_SW e A V) (hF : z_F A) (h14 : A 14 y ≠ -1) (hno : ∀ t : Nat, t < 120 → A 3 t ≠ -1 → A 4 t ≠ y) :
    z_SW e (q_lt A y) (m_gt V y) ∧ z_F (q_lt A y) ∧ z_ex e A (q_lt A y) V (m_gt V y) ∧ (∀ k, A 29 k = -1 → q_lt A y 29 k = -1) ∧ q_lt A y 3 = A 3 ∧ q_lt A y 4 = A 4 ∧ (∀ k, q_lt A y 14 k = if k = y then -1 else A 14 k) := by
  obtain ⟨s1, s2, s3, s4, s5, s6, s7, s8, s9, s10, s11, s12, s13, s14, s15, s16, s17, s18⟩ := h
  have w := s1.1
  have hsz := q_w22_13 w
  obtain ⟨a1, a2, a3, a4, a5, a6, a7⟩ := z_lt1 (A := A) hy
  obtain ⟨b1, b2, b3, b4, b5, b6⟩ := z_gt1 (V := V) (y := y)
  have hHy := s8 y hy
  have hV14 : V 14 y = A 14 y := by omega
  have hV15 : V 15 y = A 15 y := by omega
  have hk := q_w14 (i := y) w hy
  have h15 := q_w15 (i := y) w hy
  have hpr : A 9001 (A 14 y).toNat = m_ro (V 14 y) := by
    have := s18 (A 14 y).toNat (by omega)
    rw [this, hV14, show ((A 14 y).toNat : Int) = A 14 y by omega]
  have w1 : q_wr (q_lt1 A y) := q_lt1_w w
  have RR1 : z_RR e (q_lt1 A y) (q_for (f_m200t y) 120 0 (m_gtA V y)) := z_RR_o s11 w1 (fun a h1 h2 => a1 a (by omega) (by omega) (by omega) (by omega) (by omega)) (fun a h1 h2 => b1 a (by omega) (by omega) (by omega) (by omega)) (by rw [b1 201 (by omega) (by omega) (by omega) (by omega)])
  -- runners
  have stage : ∃ A2 V2, z_RR e A2 V2 ∧ z_fr2 (q_lt1 A y) A2 ∧ (∀ o, o < 24 ∨ 30 < o → V2 o = q_for (f_m200t y) 120 0 (m_gtA V y) o) ∧ z_ex e (q_lt1 A y) A2 (q_for (f_m200t y) 120 0 (m_gtA V y)) V2 ∧
      (∀ r : Nat, (r : Int) < A 22 13 → (A2 24 r ≠ 4 → (A 23 r).toNat ≠ y) ∧ (A2 28 r ≠ -1 → (A2 28 r).toNat ≠ y) ∧ (A2 27 r ≠ -1 → (A2 27 r).toNat ≠ y)) ∧
      q_lt A y = (if A 14 y = 1 then q_for (f_57 y) 10 0 A2 else A2) ∧ m_gt V y = (if A 14 y = 1 then q_for (f_m200s y) 10 0 V2 else V2) := by
    have e22 : q_lt1 A y 22 13 = A 22 13 := by rw [a1 22 (by omega) (by omega) (by omega) (by omega) (by omega)]
    have e27 : q_lt1 A y 27 = A 27 := a1 27 (by omega) (by omega) (by omega) (by omega) (by omega)
    have e28 : q_lt1 A y 28 = A 28 := a1 28 (by omega) (by omega) (by omega) (by omega) (by omega)
    have e23 : q_lt1 A y 23 = A 23 := a1 23 (by omega) (by omega) (by omega) (by omega) (by omega)
    have e24 : q_lt1 A y 24 = A 24 := a1 24 (by omega) (by omega) (by omega) (by omega) (by omega)
    unfold q_lt m_gt m_gtS
    simp only [Int.toNat_natCast, hV14]
    by_cases c1 : A 14 y = 1
    · obtain ⟨k1, k2, k3, k4, k5⟩ := z_endIn (y := (y : Int)) RR1 (by
        intro r hr q
        rw [e22] at hr
        rw [e27] at q
        have := (s12 r hr).2.2 (by omega)
        rw [q] at this
        simp only [Int.toNat_natCast] at this
        omega)
      have k2' := z_fr_2 k2
      refine ⟨q_endIn (q_lt1 A y) y, m_gtR (q_for (f_m200t y) 120 0 (m_gtA V y)) y 1, k1, k2', fun o ho => k3 o (by omega), k4, ?_, by rw [if_pos c1, if_pos c1], by rw [if_pos c1, if_pos c1, c1]⟩
      intro r hr
      have hQ := s12 r hr
      refine ⟨fun q hh => ?_, fun q hh => ?_, fun q hh => ?_⟩
      · have h23 := q_w23 (i := r) w (by omega)
        exact q (k5 r (by rw [e22]; exact hr) (by rw [e23]; omega))
      · have g := k2'.2.1 r q
        rw [e28] at g
        have := hQ.2.1 (by rw [← g]; exact q)
        rw [← g, hh] at this
        omega
      · have g := k2'.2.2.2.2 r q
        rw [e27] at g
        have := hQ.2.2 (by rw [← g]; exact q)
        rw [← g, hh] at this
        omega
    · by_cases c2 : A 14 y = 2 ∨ A 14 y = 3
      · obtain ⟨k1, k2, k3, k4, k5⟩ := z_stopAt (y := (y : Int)) (k := A 14 y) c2 (by omega) RR1
        refine ⟨q_stopAt (q_lt1 A y) y, m_gtR (q_for (f_m200t y) 120 0 (m_gtA V y)) y (A 14 y), k1, k2, k3, k4, ?_, by rw [if_neg c1, if_neg c1, if_pos c2], by first | rw [if_neg c1] | rw [if_neg c1, if_neg c1]⟩
        intro r hr
        have hQ := s12 r hr
        have w2 := k1.2.2.2.2
        have h28 := q_w28 (i := r) w2 (by omega)
        have h27 := q_w27 (i := r) w2 (by omega)
        have g := k5 r (by rw [e22]; exact hr)
        refine ⟨fun q hh => ?_, fun q hh => ?_, fun q hh => ?_⟩
        · have : A 24 r ≠ 4 := fun q2 => q (k2.2.2.1 r (by rw [e24]; exact q2))
          have := hQ.1 this
          rw [hh] at this
          omega
        · exact g.1 (by omega)
        · exact g.2 (by omega)
      · have hnok : ∀ r : Nat, (r : Int) < A 22 13 → (A 24 r ≠ 4 → (A 23 r).toNat ≠ y) ∧ (A 28 r ≠ -1 → (A 28 r).toNat ≠ y) ∧ (A 27 r ≠ -1 → (A 27 r).toNat ≠ y) := by
          intro r hr
          have hQ := s12 r hr
          refine ⟨fun q hh => ?_, fun q hh => ?_, fun q hh => ?_⟩
          · have := hQ.1 q; rw [hh] at this; omega
          · have := hQ.2.1 q; rw [hh] at this; omega
          · have := hQ.2.2 q; rw [hh] at this; omega
        have hgt : m_gtR (q_for (f_m200t y) 120 0 (m_gtA V y)) y (A 14 y) = q_for (f_m200t y) 120 0 (m_gtA V y) := by
          refine z_gtR_no ⟨by omega, by omega, by omega⟩ ?_
          intro r hr q
          have f22 : q_for (f_m200t y) 120 0 (m_gtA V y) 22 13 = A 22 13 := by rw [b1 22 (by omega) (by omega) (by omega) (by omega)]; exact s11.1.1
          have f27 : q_for (f_m200t y) 120 0 (m_gtA V y) 27 r = A 27 r := by rw [b1 27 (by omega) (by omega) (by omega) (by omega)]; exact (s11.1.2 r (by omega)).2.2.2.1
          rw [f22] at hr
          rw [f27] at q
          exact (hnok r hr).2.2 (by omega) (by omega)
        refine ⟨q_lt1 A y, q_for (f_m200t y) 120 0 (m_gtA V y), RR1, z_fr2_r, fun _ _ => rfl, fun _ _ => ⟨rfl, rfl, rfl, rfl⟩, ?_, by rw [if_neg c1, if_neg c1, if_neg c2], by rw [if_neg c1, if_neg c1, hgt]⟩
        intro r hr
        rw [e24, e28, e27]
        exact hnok r hr
  obtain ⟨A2, V2, r1, r2, r3, r4, r5, r6, r7⟩ := stage
  have o2 : ∀ a, a ≠ 1 → a ≠ 6 → a ≠ 14 → a ≠ 10 → a ≠ 41 → (a < 24 ∨ 30 < a) → A2 a = A a := fun a h1 h2 h3 h4 h5 h6 => by rw [r2.1 a h6, a1 a h1 h2 h3 h4 h5]
  have p2 : ∀ a, a ≠ 1 → a ≠ 6 → a ≠ 210 → a ≠ 10 → (a < 24 ∨ 30 < a) → V2 a = V a := fun a h1 h2 h3 h4 h5 => by rw [r3 a h5, b1 a h1 h2 h3 h4]
  have F2 : z_F A2 := by unfold z_F; rw [o2 130 (by omega) (by omega) (by omega) (by omega) (by omega) (by omega), o2 131 (by omega) (by omega) (by omega) (by omega) (by omega) (by omega)]; exact hF
  have Mk2 : z_Mk A2 V2 := by unfold z_Mk; rw [o2 3 (by omega) (by omega) (by omega) (by omega) (by omega) (by omega), o2 131 (by omega) (by omega) (by omega) (by omega) (by omega) (by omega), p2 131 (by omega) (by omega) (by omega) (by omega) (by omega)]; exact s6
  -- marks
  have stage3 : (∀ a, a ≠ 130 → a ≠ 131 → q_lt A y a = A2 a) ∧ (∀ a, a ≠ 131 → m_gt V y a = V2 a) ∧ z_Mk (q_lt A y) (m_gt V y) ∧ (∀ k : Nat, k < 120 → q_lt A y 131 k ≠ 0 → A 3 k ≠ -1) ∧ (∀ k : Nat, A 131 k ≠ 0 → q_lt A y 131 k ≠ 0) ∧
      (A 14 y = 1 → ∀ j : Nat, j < 10 → A 42 (10 * y + j) ≠ -1 → q_lt A y 131 (A 42 (10 * y + j)).toNat ≠ 0) ∧ z_F (q_lt A y) := by
    have e3 : A2 3 = A 3 := o2 3 (by omega) (by omega) (by omega) (by omega) (by omega) (by omega)
    have e42 : A2 42 = A 42 := o2 42 (by omega) (by omega) (by omega) (by omega) (by omega) (by omega)
    have e131 : A2 131 = A 131 := o2 131 (by omega) (by omega) (by omega) (by omega) (by omega) (by omega)
    rw [r6, r7]
    by_cases c1 : A 14 y = 1
    · rw [if_pos c1, if_pos c1]
      obtain ⟨m1, m2, m3, m4, m5, m6, m7⟩ := z_marks (A := A2) (V := V2) hy r1.2.2.2.2 (fun i hi => by rw [e42, p2 42 (by omega) (by omega) (by omega) (by omega) (by omega)]; exact s5 i hi) (fun i hi => by rw [e42, e3]; exact fun q => (s3.2 i hi q).1) (fun k hk => by rw [e131, e3]; exact s1.2.2.1 k hk) Mk2 F2
      rw [e3] at m4
      rw [e131] at m5
      rw [e42] at m6
      exact ⟨m1, m2, m3, m4, m5, fun _ => m6, m7⟩
    · rw [if_neg c1, if_neg c1]
      exact ⟨fun _ _ _ => rfl, fun _ _ => rfl, Mk2, fun k hk => by rw [e131]; exact s1.2.2.1 k hk, fun k => by rw [e131]; exact fun q => q, fun q => absurd q c1, F2⟩
  obtain ⟨m1, m2, m3, m4, m5, m6, m7⟩ := stage3
  have o3 : ∀ a, a ≠ 1 → a ≠ 6 → a ≠ 14 → a ≠ 10 → a ≠ 41 → (a < 24 ∨ 30 < a) → a ≠ 130 → a ≠ 131 → q_lt A y a = A a := fun a h1 h2 h3 h4 h5 h6 h7 h8 => by rw [m1 a h7 h8, o2 a h1 h2 h3 h4 h5 h6]
  have p3 : ∀ a, a ≠ 1 → a ≠ 6 → a ≠ 210 → a ≠ 10 → (a < 24 ∨ 30 < a) → a ≠ 131 → m_gt V y a = V a := fun a h1 h2 h3 h4 h5 h6 => by rw [m2 a h6, p2 a h1 h2 h3 h4 h5]
  have x14 : ∀ k, q_lt A y 14 k = if k = y then -1 else A 14 k := fun k => by rw [m1 14 (by omega) (by omega), r2.1 14 (by omega)]; exact a3 k
  have x6 : ∀ k, q_lt A y 6 k = if A 15 y ≠ -1 ∧ k = (A 15 y).toNat then mj_w (A 6 k + m_ro (V 14 y)) else A 6 k := fun k => by rw [m1 6 (by omega) (by omega), r2.1 6 (by omega), a6 k, hpr]
  have x10 : ∀ k : Nat, k < 120 → q_lt A y 10 k = if A 3 k ≠ -1 ∧ A 10 k = y then 40 else A 10 k := fun k hk => by rw [m1 10 (by omega) (by omega), r2.1 10 (by omega)]; exact a4 k hk
  have x41 : ∀ k : Nat, (k : Int) < A 36 5 → q_lt A y 41 k = if A 38 k = y ∨ A 39 k = y then 1 else A 41 k := fun k hk => by rw [m1 41 (by omega) (by omega), r2.1 41 (by omega)]; exact a5 k hk
  have x1 : ∀ j, j ≠ 8 → q_lt A y 1 j = A 1 j := fun j hj => by rw [m1 1 (by omega) (by omega), r2.1 1 (by omega)]; exact a2 j hj
  have x18 : q_lt A y 1 8 = (if A 15 y = -1 then mj_w (A 1 8 + m_ro (V 14 y)) else A 1 8) := by rw [m1 1 (by omega) (by omega), r2.1 1 (by omega), a7, hpr]
  have z210 : ∀ k, m_gt V y 210 k = if k = y then 0 else V 210 k := fun k => by rw [m2 210 (by omega), r3 210 (by omega)]; exact b3 k
  have z6 : ∀ k, m_gt V y 6 k = if A 15 y ≠ -1 ∧ k = (A 15 y).toNat then mj_w (V 6 k + m_ro (V 14 y)) else V 6 k := fun k => by rw [m2 6 (by omega), r3 6 (by omega), b5 k, hV15]
  have z10 : ∀ k : Nat, k < 120 → m_gt V y 10 k = if V 212 k = 1 ∧ V 10 k = y then 40 else V 10 k := fun k hk => by rw [m2 10 (by omega), r3 10 (by omega)]; exact b4 k hk
  have z1 : ∀ j, j ≠ 8 → m_gt V y 1 j = V 1 j := fun j hj => by rw [m2 1 (by omega), r3 1 (by omega)]; exact b2 j hj
  have z18 : m_gt V y 1 8 = (if A 15 y = -1 then mj_w (V 1 8 + m_ro (V 14 y)) else V 1 8) := by rw [m2 1 (by omega), r3 1 (by omega), b6, hV15]
  have o3' : ∀ a, (a = 3 ∨ a = 4 ∨ a = 5 ∨ a = 7 ∨ a = 8 ∨ a = 9 ∨ a = 11 ∨ a = 12 ∨ a = 15 ∨ a = 16 ∨ a = 17 ∨ a = 18 ∨ a = 19 ∨ a = 20 ∨ a = 21 ∨ a = 22 ∨ a = 23 ∨ a = 31 ∨ a = 36 ∨ a = 37 ∨ a = 38 ∨ a = 39 ∨ a = 40 ∨ a = 42 ∨ a = 43 ∨ a = 9001) → q_lt A y a = A a := fun a h => o3 a (by omega) (by omega) (by omega) (by omega) (by omega) (by omega) (by omega) (by omega)
  have p3' : ∀ a, (a = 3 ∨ a = 4 ∨ a = 5 ∨ a = 7 ∨ a = 8 ∨ a = 9 ∨ a = 11 ∨ a = 12 ∨ a = 14 ∨ a = 15 ∨ a = 16 ∨ a = 17 ∨ a = 18 ∨ a = 19 ∨ a = 20 ∨ a = 21 ∨ a = 36 ∨ a = 37 ∨ a = 38 ∨ a = 39 ∨ a = 40 ∨ a = 42 ∨ a = 43 ∨ a = 201 ∨ a = 211 ∨ a = 212 ∨ a = 214 ∨ a = 215) → m_gt V y a = V a := fun a h => p3 a (by omega) (by omega) (by omega) (by omega) (by omega) (by omega)
  have wL : q_wr (q_lt A y) := q_lt_w w
  obtain ⟨_, hl, hm, ρ, ha⟩ := s1
  refine ⟨⟨⟨wL, ?_, ?_, ρ, ha.1, ?_⟩, ?_, ⟨?_, ?_⟩, ⟨?_, ?_⟩, ?_, m3, ?_, ?_, ?_, ?_, ?_, ?_, ?_, ?_, ?_, ?_, ?_, ?_⟩, m7, ?_, ?_, o3' 3 (by omega), o3' 4 (by omega), x14⟩
  · unfold z_lt; rw [o3' 3 (by omega), o3' 7 (by omega)]; exact hl
  · rw [o3' 3 (by omega)]; exact m4
  · rw [o3' 3 (by omega), o3' 7 (by omega)]; exact ha.2
  · intro t ht
    have hTt := s2 t ht
    rw [o3' 3 (by omega), o3' 4 (by omega), o3' 5 (by omega), o3' 7 (by omega), o3' 8 (by omega), o3' 9 (by omega), o3' 11 (by omega), o3' 12 (by omega), p3' 212 (by omega), p3' 3 (by omega), p3' 4 (by omega), p3' 5 (by omega), p3' 7 (by omega), p3' 8 (by omega), p3' 9 (by omega), p3' 11 (by omega), p3' 12 (by omega), x6, z6, x10 t ht, z10 t ht]
    rcases hTt with q | ⟨q1, q2, q3, q4, q5, q6, q7, q8, q9, q10, q11, q12⟩
    · exact Or.inl q
    · right
      refine ⟨q1, q2, q3, q4, q5, by rw [q6], q7, q8, q9, ?_, q11, q12⟩
      rw [q10]
      by_cases c : A 10 t = y
      · rw [if_pos ⟨q2, c⟩, if_pos ⟨q1, c⟩]
      · rw [if_neg (fun q => c q.2), if_neg (fun q => c q.2)]
  · rw [o3' 3 (by omega), o3' 42 (by omega), o3' 8 (by omega), o3' 9 (by omega)]; exact s3.1
  · rw [o3' 3 (by omega), o3' 42 (by omega), o3' 8 (by omega), o3' 9 (by omega)]; exact s3.2
  · intro k hk
    rw [o3' 3 (by omega), x6]
    intro q
    split
    · exact mj_w_w
    · exact s4.1 k hk q
  · rw [x18]
    split
    · exact mj_w_w
    · exact s4.2
  · rw [o3' 42 (by omega), p3' 42 (by omega)]; exact s5
  · exact m_ok_same s7 (m_gt_w s7.1) (p3' 7 (by omega)) (p3' 212 (by omega))
  · intro k hk'
    rw [x14, z210, p3' 14 (by omega), p3' 15 (by omega), p3' 16 (by omega), p3' 17 (by omega), p3' 18 (by omega), p3' 19 (by omega), o3' 15 (by omega), o3' 16 (by omega), o3' 17 (by omega), o3' 18 (by omega), o3' 19 (by omega)]
    by_cases ek : k = y
    · rw [if_pos ek, if_pos ek]; exact Or.inl ⟨rfl, rfl⟩
    · rw [if_neg ek, if_neg ek]; exact s8 k hk'
  · intro k hk'
    rw [x14, o3' 15 (by omega), o3' 16 (by omega), o3' 17 (by omega), o3' 18 (by omega), o3' 19 (by omega), o3' 3 (by omega)]
    by_cases ek : k = y
    · rw [if_pos ek]; exact fun q => absurd rfl q
    · rw [if_neg ek]; exact s9 k hk'
  · intro k hk'
    rw [x14, o3' 17 (by omega), o3' 18 (by omega), o3' 20 (by omega), o3' 21 (by omega), p3' 20 (by omega), p3' 21 (by omega)]
    by_cases ek : k = y
    · rw [if_pos ek]; exact fun q => absurd rfl q
    · rw [if_neg ek]; exact s10 k hk'
  · exact z_RR_o r1 wL (fun a h1 h2 => m1 a (by omega) (by omega)) (fun a h1 h2 => m2 a (by omega)) (by rw [m2 201 (by omega)])
  · intro r hr
    rw [o3' 22 (by omega)] at hr
    have hQ := s12 r hr
    obtain ⟨g1, g2, g3⟩ := r5 r hr
    rw [m1 24 (by omega) (by omega), m1 28 (by omega) (by omega), m1 27 (by omega) (by omega), o3' 23 (by omega)]
    have e24 : q_lt1 A y 24 = A 24 := a1 24 (by omega) (by omega) (by omega) (by omega) (by omega)
    have e27 : q_lt1 A y 27 = A 27 := a1 27 (by omega) (by omega) (by omega) (by omega) (by omega)
    have e28 : q_lt1 A y 28 = A 28 := a1 28 (by omega) (by omega) (by omega) (by omega) (by omega)
    refine ⟨fun q => ?_, fun q => ?_, fun q => ?_⟩
    · rw [x14, if_neg (g1 q)]
      exact hQ.1 (fun q2 => q (r2.2.2.1 r (by rw [e24]; exact q2)))
    · have := r2.2.1 r q
      rw [e28] at this
      rw [x14, if_neg (g2 q), this]
      exact hQ.2.1 (by rw [← this]; exact q)
    · have := r2.2.2.2.2 r q
      rw [e27] at this
      rw [x14, if_neg (g3 q), this]
      exact hQ.2.2 (by rw [← this]; exact q)
  · obtain ⟨w1', w2', w3'⟩ := s13
    refine ⟨by rw [p3' 36 (by omega), o3' 36 (by omega)]; exact w1', ?_, ?_⟩
    · intro k hk' hk2
      rw [z210] at hk2
      rw [p3' 211 (by omega), p3' 201 (by omega)]
      split at hk2
      · omega
      · exact w2' k hk' hk2
    · intro u hu
      rw [o3' 36 (by omega)] at hu
      obtain ⟨u1, u2, u3, u4, u5, u6, u7, u8, u9, u10⟩ := w3' u hu
      rw [p3' 37 (by omega), o3' 37 (by omega), p3' 38 (by omega), o3' 38 (by omega), p3' 39 (by omega), o3' 39 (by omega), p3' 40 (by omega), o3' 40 (by omega), p3' 214 (by omega), p3' 215 (by omega), p3' 201 (by omega), x41 u hu]
      refine ⟨u1, u2, u3, u4, u5, u6, u7, ?_, u9, u10⟩
      unfold z_al at u8 ⊢
      rw [p3' 38 (by omega), p3' 39 (by omega), p3' 214 (by omega), p3' 215 (by omega), p3' 211 (by omega), z210, z210, u3, u4]
      rw [u3, u4] at u8
      by_cases c : A 38 u = y ∨ A 39 u = y
      · rw [if_pos c]
        constructor
        · intro q; omega
        · rintro ⟨q1, q2, -⟩
          exfalso
          rcases c with c | c
          · rw [if_pos (by omega)] at q1; omega
          · rw [if_pos (by omega)] at q2; omega
      · rw [if_neg c, if_neg (by omega), if_neg (by omega)]
        exact u8
  · obtain ⟨g1, g2, g3, g4, g5, g6, g7⟩ := s14
    refine ⟨by rw [z1 6 (by omega), x1 6 (by omega)]; exact g1, by rw [z1 7 (by omega), x1 7 (by omega)]; exact g2, by rw [z18, x18, g3], rfl, by rw [z1 10 (by omega), x1 10 (by omega)]; exact g5, by rw [z1 11 (by omega), x1 11 (by omega)]; exact g6, by rw [p3' 43 (by omega), o3' 43 (by omega)]; exact g7⟩
  · intro t ht
    rw [o3' 3 (by omega), o3' 4 (by omega), x14]
    intro q1 q2
    have h4 := q_w4 (i := t) w ht
    have := hno t ht q1
    rw [if_neg (by omega)]
    exact s15 t ht q1 q2
  · intro t ht
    rw [o3' 3 (by omega), o3' 8 (by omega), x14]
    intro q1
    rcases s16 t ht q1 with q | q
    · by_cases c : (A 8 t).toNat = y
      · right
        have h8 := q_w8 (i := t) w ht
        have h9 := q_w9 (i := t) w ht
        have hcell := s3.1 t ht q1
        rw [show (10 * A 8 t + A 9 t).toNat = 10 * y + (A 9 t).toNat by omega] at hcell
        have := m6 (by rw [← c]; exact q) (A 9 t).toNat (by omega) (by omega)
        rw [hcell] at this
        simpa using this
      · rw [if_neg c]; exact Or.inl q
    · exact Or.inr (m5 t q)
  · unfold z_TR; rw [o3' 3 (by omega), o3' 4 (by omega), o3' 5 (by omega), o3' 12 (by omega)]; exact s17
  · unfold z_PR; rw [o3' 9001 (by omega)]; exact s18
  · intro he h29
    have e25 : q_lt1 A y 25 = A 25 := a1 25 (by omega) (by omega) (by omega) (by omega) (by omega)
    have e26 : q_lt1 A y 26 = A 26 := a1 26 (by omega) (by omega) (by omega) (by omega) (by omega)
    have e29 : q_lt1 A y 29 = A 29 := a1 29 (by omega) (by omega) (by omega) (by omega) (by omega)
    have f25 := b1 25 (by omega) (by omega) (by omega) (by omega)
    have f26 := b1 26 (by omega) (by omega) (by omega) (by omega)
    obtain ⟨g1, g2, g3, g4⟩ := r4 he (by rw [e29]; exact h29)
    rw [m1 25 (by omega) (by omega), m1 26 (by omega) (by omega), m2 25 (by omega), m2 26 (by omega), g1, g2, g3, g4, e25, e26, f25, f26]
    exact ⟨rfl, rfl, rfl, rfl⟩
  · intro k q
    have e29 : q_lt1 A y 29 = A 29 := a1 29 (by omega) (by omega) (by omega) (by omega) (by omega)
    rw [m1 29 (by omega) (by omega)]
    exact r2.2.2.2.1 k (by rw [e29]; exact q)
end re10
