section re26
variable {A B C V W A' V' : mj_M} {e e' : Nat}
theorem m_clF_cg {a : Nat} {r g : Int} (h : B a = A a) (h2 : B 201 0 = A 201 0) : m_clF B r g a = m_clF A r g a := by
  unfold m_clF
  rw [h2]
  exact mj_up_cg (mj_up_cg (mj_up_cg (mj_up_cg h)))
/-- who calls and finds one that waits -/
theorem z_goes2s {r u : Nat} {g b c n : Int} (hS : z_SW 8 A V) (hr : (r : Int) < A 22 13) (h24 : A 24 r = 0) (hu : (u : Int) < A 22 13) (hu24 : A 24 u = 1) (hu30 : A 30 u = -1) (hg : 0 ≤ g ∧ g < 40) (hg2 : A 14 g.toNat = 2 ∨ A 14 g.toNat = 3) (hb : V 32 r = b) (hc : V 33 r = c)
    (hn : ∀ q : Nat, (q : Int) < A 22 13 → A 24 q = 2 → A 34 q < n) (hC : -2147483648 ≤ V 201 0 ∧ V 201 0 < 2147483647) :
    z_SW 8 (q_goes (q_serve A u r) r 2 g b c n) (m_clF (m_clW (mj_up (mj_up (mj_up V 29 r u) 30 u r) 26 u (V 26 r)) u) r g) := by
  have hRR := hS.2.2.2.2.2.2.2.2.2.2.1
  have hQH := hS.2.2.2.2.2.2.2.2.2.2.2.1
  have hG := hS.2.2.2.2.2.2.2.2.2.2.2.2.2.1
  have hsz := q_w22_13 hS.1.1
  obtain ⟨hr8, hr29, -⟩ := z_rdy hS hr h24
  have hne : r ≠ u := fun q => by rw [q] at h24; omega
  have hu29 : A 29 u = -1 := by
    have := (hRR.2.2.1 u hu).2.2.1
    by_cases q : A 29 u = -1
    · exact q
    · have := this q; omega
  have e26 : V 26 r = A 26 r := ((hRR.1.2 r hr8).2.2.1 (by omega)).2
  have eu29 : V 29 u = A 29 u := (hRR.1.2 u (by omega)).2.2.2.2.2.1
  rw [e26]
  generalize hx : A 26 r = x
  -- woken
  have k1 := z_wk (A := A) (u := (u : Int)) (a := x)
  simp only [Int.toNat_natCast] at k1
  have kV : z_wk1 V (m_clW (mj_up V 26 u x) u) u x := by
    unfold m_clW
    simp only [Int.toNat_natCast]
    refine ⟨fun o ho => by rw [mj_up_ne (by omega), mj_up_ne (by omega), mj_up_ne (by omega), mj_up_ne (by omega)], fun k => ?_, fun k => ?_, fun k => ?_, fun k => ?_, fun k => ?_⟩
    · rw [mj_up_ne (by omega), mj_up_ne (by omega), mj_up_at, mj_up_ne (by omega)]
    · rw [mj_up_at]
      simp only [mj_up_ne (show (25 : Nat) ≠ 24 by decide), mj_up_ne (show (25 : Nat) ≠ 26 by decide), mj_up_ne (show (25 : Nat) ≠ 28 by decide)]
      by_cases q : k = u
      · rw [if_pos q, if_pos q, q]
      · rw [if_neg q, if_neg q]
    · rw [mj_up_ne (by omega), mj_up_ne (by omega), mj_up_ne (by omega), mj_up_at]
    · rw [mj_up_ne (by omega), mj_up_at, mj_up_ne (by omega), mj_up_ne (by omega)]
    · rw [mj_up_ne (by omega), mj_up_ne (by omega), mj_up_ne (by omega), mj_up_ne (by omega)]
      by_cases q : k = u
      · rw [if_pos q, q, eu29]; exact hu29
      · rw [if_neg q]
  have w1 : q_wr (q_wake A u x) := q_wake_w hS.1.1
  have RR1 := z_wake_rel hRR hu hu29 k1 kV w1
  have wV1 : q_wr (m_clW (mj_up V 26 u x) u) := (m_clW_ok (m_ok_same hS.2.2.2.2.2.2.1 (q_wr_up hS.2.2.2.2.2.2.1.1 (by simp [q_okv])) (mj_up_ne (by omega)) (mj_up_ne (by omega)))).1
  have QH1 : z_QH (q_wake A u x) := by
    refine z_QH_s hQH (fun a ha => k1.1 a (by omega)) ?_ ?_
    · intro k hk
      rw [k1.2.1]
      by_cases q : k = u
      · intro _; rw [q]; omega
      · rw [if_neg q]; exact id
    · intro k hk
      rw [k1.2.2.2.2.1]
      by_cases q : k = u
      · rw [if_pos q]; exact fun q => absurd rfl q
      · rw [if_neg q]; exact fun _ => Or.inl rfl
  have S1 : z_SW 8 (q_wake A u x) (m_clW (mj_up V 26 u x) u) := by
    refine z_SW_rn hS w1 wV1 (fun a h1 h2 => k1.1 a (by omega)) (fun a h1 h2 _ => kV.1 a (by omega)) (fun j _ _ => by rw [k1.1 1 (by omega), kV.1 1 (by omega)]; exact ⟨rfl, rfl⟩) ?_ (by rw [kV.1 201 (by omega)]) RR1 QH1
    rw [k1.1 1 (by omega), kV.1 1 (by omega)]
    exact ⟨hG.2.2.2.2.1, hG.2.2.2.2.2.1⟩
  -- goes
  have f22 : q_wake A u x 22 = A 22 := k1.1 22 (by omega)
  have S2 := z_goes2 (g := g) (b := b) (c := c) (n := n) S1 (r := r) (by rw [f22]; exact hr) (by rw [k1.2.1, if_neg hne]; exact h24) hg (by rw [k1.1 14 (by omega)]; exact hg2) (by rw [kV.1 32 (by omega)]; exact hb) (by rw [kV.1 33 (by omega)]; exact hc)
    (by
      intro q hq
      rw [f22] at hq
      rw [k1.2.1, k1.1 34 (by omega)]
      intro g2
      split at g2
      · omega
      · exact hn q hq g2) (by rw [kV.1 201 (by omega)]; exact hC)
  -- linked
  have hs1 : ∀ o, o ≠ 29 → o ≠ 30 → q_serve A u r o = q_wake A u x o := by
    intro o h1 h2
    unfold q_serve
    simp only [Int.toNat_natCast]
    rw [mj_up_ne h1, mj_up_ne h2, hx]
  have gA := q_goesA (A := q_wake A u x) (r := r) (s := 2) (g := g) (b := b) (c := c) (n := n)
  have gB := q_goesA (A := q_serve A u r) (r := r) (s := 2) (g := g) (b := b) (c := c) (n := n)
  have lA : z_lk (q_goes (q_wake A u x) r 2 g b c n) (q_goes (q_serve A u r) r 2 g b c n) r u u r := by
    refine ⟨fun o h1 h2 => q_goes_cg (hs1 o h1 h2), fun k => ?_, fun k => ?_⟩
    · rw [gA.1 29 (by omega) (by omega) (by omega) (by omega) (by omega), gB.1 29 (by omega) (by omega) (by omega) (by omega) (by omega)]
      unfold q_serve
      simp only [Int.toNat_natCast]
      rw [mj_up_at, mj_up_ne (by omega), hx]
    · rw [gA.1 30 (by omega) (by omega) (by omega) (by omega) (by omega), gB.1 30 (by omega) (by omega) (by omega) (by omega) (by omega)]
      unfold q_serve
      simp only [Int.toNat_natCast]
      rw [mj_up_ne (by omega), mj_up_at, hx]
  have hV1 : ∀ o, o ≠ 29 → o ≠ 30 → m_clW (mj_up (mj_up (mj_up V 29 r u) 30 u r) 26 u x) u o = m_clW (mj_up V 26 u x) u o := by
    intro o h1 h2
    unfold m_clW
    simp only [Int.toNat_natCast]
    rw [show mj_up (mj_up (mj_up V 29 r u) 30 u r) 26 u x 25 u = mj_up V 26 u x 25 u from by rw [mj_up_ne (by omega), mj_up_ne (by omega), mj_up_ne (by omega), mj_up_ne (by omega)]]
    exact mj_up_cg (mj_up_cg (mj_up_cg (mj_up_cg (by rw [mj_up_ne h2, mj_up_ne h1]))))
  have cV : ∀ W : mj_M, ∀ o, (o = 29 ∨ o = 30) → m_clW W u o = W o := by
    intro W o ho
    unfold m_clW
    rw [mj_up_ne (by omega), mj_up_ne (by omega), mj_up_ne (by omega)]
  have lV : z_lk (m_clF (m_clW (mj_up V 26 u x) u) r g) (m_clF (m_clW (mj_up (mj_up (mj_up V 29 r u) 30 u r) 26 u x) u) r g) r u u r := by
    refine ⟨fun o h1 h2 => m_clF_cg (hV1 o h1 h2) (by rw [hV1 201 (by omega) (by omega)]), fun k => ?_, fun k => ?_⟩
    · rw [m_clFV.1 29 (by omega) (by omega) (by omega) (by omega), m_clFV.1 29 (by omega) (by omega) (by omega) (by omega), cV _ 29 (by omega), cV _ 29 (by omega), mj_up_ne (by omega), mj_up_ne (by omega), mj_up_at, mj_up_ne (by omega)]
    · rw [m_clFV.1 30 (by omega) (by omega) (by omega) (by omega), m_clFV.1 30 (by omega) (by omega) (by omega) (by omega), cV _ 30 (by omega), cV _ 30 (by omega), mj_up_ne (by omega), mj_up_at, mj_up_ne (by omega), mj_up_ne (by omega)]
  have w3 : q_wr (q_goes (q_serve A u r) r 2 g b c n) := q_goes_w (q_serve_w hS.1.1 (by omega) (by omega)) (by omega)
  have g22 : q_goes (q_wake A u x) r 2 g b c n 22 = A 22 := by rw [gA.1 22 (by omega) (by omega) (by omega) (by omega) (by omega), f22]
  have RR3 := z_lk_rel S2.2.2.2.2.2.2.2.2.2.2.1 (by rw [g22]; exact hr) (by rw [g22]; exact hu) lA lV (Or.inl ⟨rfl, rfl, by rw [gA.2.1, if_pos rfl], by rw [gA.2.1, if_neg (fun q => hne q.symm), k1.2.1, if_pos rfl]; omega,
    by rw [gA.1 29 (by omega) (by omega) (by omega) (by omega) (by omega), k1.2.2.2.2.2, if_neg hne]; exact hr29, by rw [gA.1 30 (by omega) (by omega) (by omega) (by omega) (by omega), k1.1 30 (by omega)]; exact hu30⟩) w3
  have QH3 := z_QH_c S2.2.2.2.2.2.2.2.2.2.2.2.1 (lA.1 22 (by omega) (by omega)) (lA.1 24 (by omega) (by omega)) (lA.1 14 (by omega) (by omega)) (lA.1 23 (by omega) (by omega)) (lA.1 28 (by omega) (by omega)) (lA.1 27 (by omega) (by omega))
  have hG2 := S2.2.2.2.2.2.2.2.2.2.2.2.2.2.1
  have ok3 : m_ok (m_clF (m_clW (mj_up (mj_up (mj_up V 29 r u) 30 u r) 26 u x) u) r g) := by
    refine m_clF_ok (m_clW_ok (m_ok_same hS.2.2.2.2.2.2.1 (q_wr_up (q_wr_up (q_wr_up hS.2.2.2.2.2.2.1.1 ?_) ?_) (by simp [q_okv])) ?_ ?_)) (by omega)
    · simp [q_okv]; omega
    · simp [q_okv]; omega
    · rw [mj_up_ne (by omega), mj_up_ne (by omega), mj_up_ne (by omega)]
    · rw [mj_up_ne (by omega), mj_up_ne (by omega), mj_up_ne (by omega)]
  refine z_SW_rn S2 w3 ok3.1 (fun a h1 h2 => lA.1 a (by omega) (by omega)) (fun a h1 h2 _ => lV.1 a (by omega) (by omega)) (fun j _ _ => by rw [lA.1 1 (by omega) (by omega), lV.1 1 (by omega) (by omega)]; exact ⟨rfl, rfl⟩) ?_ (by rw [lV.1 201 (by omega) (by omega)]) RR3 QH3
  rw [lA.1 1 (by omega) (by omega), lV.1 1 (by omega) (by omega)]
  exact ⟨hG2.2.2.2.2.1, hG2.2.2.2.2.2.1⟩
end re26
