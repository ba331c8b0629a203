section re28
variable {A B C V W A' V' : mj_M} {e e' : Nat}
/-- where a runner stands after a step that was done -/
def z_post (r : Nat) (Y : Int) (V : mj_M) : mj_M := if Y = 0 then mj_up V 25 r (mj_w (V 25 r + 1)) else V
theorem z_fault_fr {u r : Nat} (hQ : z_Q A) (w : q_wr A) (hu : (u : Int) < A 22 13) : (∀ o, o < 24 ∨ o = 27 ∨ 30 < o → o ≠ 1 → q_fault A u o = A o) ∧ (∀ j, j ≠ 11 → q_fault A u 1 j = A 1 j) ∧ (A 24 r = 0 → r ≠ u → q_fault A u 24 r = 0) ∧ (A 30 r = -1 → q_fault A u 30 r = -1) := by
  unfold q_fault
  have r22 : mj_up A 1 11 (mj_w (A 1 11 + 1)) 22 = A 22 := mj_up_ne (by omega)
  have h1 : ∀ o, o ≠ 1 → mj_up A 1 11 (mj_w (A 1 11 + 1)) o = A o := fun o h => mj_up_ne h
  have h11 : ∀ j, j ≠ 11 → mj_up A 1 11 (mj_w (A 1 11 + 1)) 1 j = A 1 j := fun j h => by rw [mj_up_at, if_neg h]
  have hQ1 : z_Q (mj_up A 1 11 (mj_w (A 1 11 + 1))) := by
    unfold z_Q at hQ ⊢
    rw [h1 22 (by omega), h1 24 (by omega), h1 28 (by omega), h1 29 (by omega), h1 30 (by omega), h1 34 (by omega)]
    exact hQ
  have w1 : q_wr (mj_up A 1 11 (mj_w (A 1 11 + 1))) := q_wr_up w (by simp [q_okv])
  have hQu := fun q => z_Q_u hQ1 w1 (r := u) (by rw [r22]; exact hu) q
  have eA := z_endA (A := mj_up A 1 11 (mj_w (A 1 11 + 1))) (r := u) (s := 3) (fun q => (hQu q).1)
  have e24 := h1 24 (by omega)
  have e30 := h1 30 (by omega)
  generalize mj_up A 1 11 (mj_w (A 1 11 + 1)) = A1 at *
  have b0 : ∀ o, o < 24 ∨ o = 27 ∨ 30 < o → o ≠ 1 → q_end A1 u 3 o = A o := fun o ho h => by rw [eA.1 o ho, h1 o h]
  have b1 : ∀ j, j ≠ 11 → q_end A1 u 3 1 j = A 1 j := fun j h => by rw [eA.1 1 (by omega), h11 j h]
  have b24 : A 24 r = 0 → r ≠ u → q_end A1 u 3 24 r = 0 := by
    intro q1 q2
    rw [eA.2.1, if_neg q2, e24]
    split
    · rfl
    · exact q1
  have b30 : A 30 r = -1 → q_end A1 u 3 30 r = -1 := by
    intro q
    rw [eA.2.2.2.2.2.2, e30]
    split
    · rfl
    · split
      · rfl
      · exact q
  split
  · exact ⟨b0, b1, b24, b30⟩
  · split
    · exact ⟨b0, b1, b24, b30⟩
    · generalize q_leastW (q_end A1 u 3) (q_end A1 u 3 27 (u : Int).toNat) = v
      obtain ⟨d0, d1, d2, d3, d4, d5⟩ := z_wk (A := q_end A1 u 3) (u := v) (a := 100 + (u : Int))
      refine ⟨fun o ho h => by rw [d0 o (by omega)]; exact b0 o ho h, fun j h => by rw [d0 1 (by omega)]; exact b1 j h, fun q1 q2 => ?_, fun q => by rw [d0 30 (by omega)]; exact b30 q⟩
      rw [d1]
      split
      · rfl
      · exact b24 q1 q2
theorem m_wsEV {r : Nat} {g b : Int} : (∀ o, o ≠ 24 → o ≠ 28 → o ≠ 32 → m_wsE V r g b o = V o) ∧ (∀ k, m_wsE V r g b 24 k = if k = r then 1 else V 24 k) ∧ (∀ k, m_wsE V r g b 28 k = if k = r then g else V 28 k) ∧ (∀ k, m_wsE V r g b 32 k = if k = r then b else V 32 k) := by
  unfold m_wsE
  simp only [Int.toNat_natCast]
  refine ⟨fun o h1 h2 h3 => by rw [mj_up_ne h3, mj_up_ne h2, mj_up_ne h1], fun k => ?_, fun k => ?_, fun k => ?_⟩
  · rw [mj_up_ne (by omega), mj_up_ne (by omega), mj_up_at]
  · rw [mj_up_ne (by omega), mj_up_at, mj_up_ne (by omega)]
  · rw [mj_up_at, mj_up_ne (by omega), mj_up_ne (by omega)]
/-- who waits with nobody calling -/
theorem z_goes1 {r : Nat} {g b c n : Int} (hS : z_SW 8 A V) (hr : (r : Int) < A 22 13) (h24 : A 24 r = 0) (hg : 0 ≤ g ∧ g < 40) (hg2 : A 14 g.toNat = 2 ∨ A 14 g.toNat = 3) : z_SW 8 (q_goes A r 1 g b c n) (m_wsE V r g b) := by
  have hRR := hS.2.2.2.2.2.2.2.2.2.2.1
  have hQH := hS.2.2.2.2.2.2.2.2.2.2.2.1
  have hG := hS.2.2.2.2.2.2.2.2.2.2.2.2.2.1
  have eA := q_goesA (A := A) (r := r) (s := 1) (g := g) (b := b) (c := c) (n := n)
  obtain ⟨f0, f24, f28, f32⟩ := m_wsEV (V := V) (r := r) (g := g) (b := b)
  have eV : z_goV V (m_wsE V r g b) r 1 g b c := by
    refine ⟨fun o h1 h2 h3 h4 h5 h6 => f0 o h1 h2 h3, f24, f28, f32, fun k _ => by rw [f0 33 (by omega) (by omega) (by omega)], fun q => by omega, fun k hk => by rw [f0 34 (by omega) (by omega) (by omega)]⟩
  have w' : q_wr (q_goes A r 1 g b c n) := q_goes_w hS.1.1 (by omega)
  have RR := z_goes_rel hRR hr h24 (by omega) eA eV (Or.inl ⟨rfl, by rw [f0 201 (by omega) (by omega) (by omega)]⟩) w'
  have QH : z_QH (q_goes A r 1 g b c n) := by
    refine z_QH_s hQH (fun a ha => eA.1 a (by omega) (by omega) (by omega) (by omega) (by omega)) ?_ ?_
    · intro k hk
      rw [eA.2.1]
      by_cases q : k = r
      · intro _; rw [q]; omega
      · rw [if_neg q]; exact id
    · intro k hk
      rw [eA.2.2.1]
      by_cases q : k = r
      · rw [if_pos q]; exact fun _ => Or.inr hg2
      · rw [if_neg q]; exact fun _ => Or.inl rfl
  refine z_SW_rn hS w' (m_wsE_ok hS.2.2.2.2.2.2.1 (by omega)).1 (fun a h1 h2 => eA.1 a (by omega) (by omega) (by omega) (by omega) (by omega)) (fun a h1 h2 h3 => f0 a (by omega) (by omega) (by omega)) (fun j _ _ => by rw [eA.1 1 (by omega) (by omega) (by omega) (by omega) (by omega), f0 1 (by omega) (by omega) (by omega)]; exact ⟨rfl, rfl⟩) ?_ (by rw [f0 201 (by omega) (by omega) (by omega)]) RR QH
  rw [eA.1 1 (by omega) (by omega) (by omega) (by omega) (by omega), f0 1 (by omega) (by omega) (by omega)]
  exact ⟨hG.2.2.2.2.1, hG.2.2.2.2.2.1⟩
/-- behind what a token was used for: sweep, then the place -/
theorem z_useP {r : Nat} (hS : z_SW r B W) (hF : z_F B) (hH : z_HT B 40) (h0 : B 130 2 = 0) (hr : r < 8) (h29 : B 29 r = -1) (h26 : W 26 r = B 26 r) (h25 : B 25 r = mj_w (W 25 r + 1)) {t : Int} (ht : 0 ≤ t ∧ t < 120) (h3 : B 3 t.toNat ≠ -1) :
    z_Rl 8 (q_sweep (q_use B t)) (z_post r 0 (m_use W t)) := by
  obtain ⟨X, h1, h2, h3, h4, h5, h6, -⟩ := z_use_af (A := B) (V := W) hS hF hH h0 ht h3 (fun _ _ _ => rfl) (fun _ _ _ => rfl) rfl rfl
  obtain ⟨f1, f2, f3⟩ := z_fin h2 h3 h4 hr (by rw [h5 29 (by omega) (by omega)]; exact h29)
  unfold z_post
  rw [if_pos rfl, h1, f2, h6 25 (by omega) (by omega)]
  have es : mj_up (m_swp X) 26 r (B 26 r) = m_swp X := mj_up_self (by rw [f3, h6 26 (by omega) (by omega)]; exact h26)
  rw [h5 26 (by omega) (by omega), h5 25 (by omega) (by omega), es, h25] at f1
  exact f1
/-- who waits takes up one that calls -/
theorem z_wserve {r u : Nat} {T : Int} (h : z_Rl 8 A V) (hr : (r : Int) < A 22 13) (h24 : A 24 r = 0) (hr30 : A 30 r = -1) (hu : (u : Int) < A 22 13) (hu24 : A 24 u = 2) (hu29 : A 29 u = -1) (hT : 0 ≤ T ∧ T < 120 ∧ A 3 T.toNat ≠ -1) :
    z_Rl 8 (q_sweep (q_use (q_serve A r u) T)) (z_post r 0 (m_use (mj_up (mj_up (mj_up V 29 u r) 30 r u) 26 r (V 26 u)) T)) := by
  obtain ⟨hS, hF, hH, h0⟩ := h
  have hRR := hS.2.2.2.2.2.2.2.2.2.2.1
  have hG := hS.2.2.2.2.2.2.2.2.2.2.2.2.2.1
  have hsz := q_w22_13 hS.1.1
  obtain ⟨hr8, hr29, hr28, -⟩ := z_rdy hS hr h24
  have hne : r ≠ u := fun q => by rw [q] at h24; omega
  have lA : z_lk A (mj_up (mj_up A 30 r u) 29 u r) u r r u := by
    refine ⟨fun o h1 h2 => by rw [mj_up_ne h1, mj_up_ne h2], fun k => by rw [mj_up_at, mj_up_ne (by omega)], fun k => by rw [mj_up_ne (by omega), mj_up_at]⟩
  have lV : z_lk V (mj_up (mj_up V 29 u r) 30 r u) u r r u := by
    refine ⟨fun o h1 h2 => by rw [mj_up_ne h2, mj_up_ne h1], fun k => by rw [mj_up_ne (by omega), mj_up_at], fun k => by rw [mj_up_at, mj_up_ne (by omega)]⟩
  have wA : q_wr (mj_up (mj_up A 30 r u) 29 u r) := by
    refine q_wr_up (q_wr_up hS.1.1 ?_) ?_
    · simp [q_okv]; omega
    · simp [q_okv]; omega
  have wV : q_wr (mj_up (mj_up V 29 u r) 30 r u) := by
    refine q_wr_up (q_wr_up hS.2.2.2.2.2.2.1.1 ?_) ?_
    · simp [q_okv]; omega
    · simp [q_okv]; omega
  have RR := z_lk_rel hRR hu hr lA lV (Or.inl ⟨rfl, rfl, hu24, by omega, hu29, hr30⟩) wA
  have QH := z_QH_c hS.2.2.2.2.2.2.2.2.2.2.2.1 (lA.1 22 (by omega) (by omega)) (lA.1 24 (by omega) (by omega)) (lA.1 14 (by omega) (by omega)) (lA.1 23 (by omega) (by omega)) (lA.1 28 (by omega) (by omega)) (lA.1 27 (by omega) (by omega))
  have S1 : z_SW 8 (mj_up (mj_up A 30 r u) 29 u r) (mj_up (mj_up V 29 u r) 30 r u) := by
    refine z_SW_rn hS wA wV (fun a h1 h2 => lA.1 a (by omega) (by omega)) (fun a h1 h2 _ => lV.1 a (by omega) (by omega)) (fun j _ _ => by rw [lA.1 1 (by omega) (by omega), lV.1 1 (by omega) (by omega)]; exact ⟨rfl, rfl⟩) ?_ (by rw [lV.1 201 (by omega) (by omega)]) RR QH
    rw [lA.1 1 (by omega) (by omega), lV.1 1 (by omega) (by omega)]
    exact ⟨hG.2.2.2.2.1, hG.2.2.2.2.2.1⟩
  have hR := fun k hk => ((hRR.1.2 k hk).2.2.1 (by omega))
  obtain ⟨d0, d1, d2, d3, d4, d5⟩ := z_wk (A := A) (u := (r : Int)) (a := A 26 u)
  simp only [Int.toNat_natCast] at d1 d2 d3 d4 d5
  have hsv : q_serve A r u = mj_up (mj_up (q_wake A r (A 26 u)) 30 r u) 29 u r := by unfold q_serve; simp only [Int.toNat_natCast]
  have hwk : ∀ o, o ≠ 25 → o ≠ 26 → q_wake A r (A 26 u) o = A o := by
    intro o h1 h2
    by_cases c : o < 24 ∨ o = 27 ∨ 29 < o
    · exact d0 o c
    · have : o = 24 ∨ o = 28 ∨ o = 29 := by omega
      rcases this with q | q | q
      · subst q; funext k; rw [d1]; split
        · rename_i g; rw [g]; exact h24.symm
        · rfl
      · subst q; funext k; rw [d4]; split
        · rename_i g; rw [g]; exact hr28.symm
        · rfl
      · subst q; funext k; rw [d5]; split
        · rename_i g; rw [g]; exact hr29.symm
        · rfl
  have s25 : ∀ k, q_serve A r u 25 k = if k = r then mj_w (A 25 k + 1) else A 25 k := fun k => by rw [hsv, mj_up_ne (by omega), mj_up_ne (by omega), d2]
  have s26 : ∀ k, q_serve A r u 26 k = if k = r then A 26 u else A 26 k := fun k => by rw [hsv, mj_up_ne (by omega), mj_up_ne (by omega), d3]
  have so : ∀ o, o ≠ 25 → o ≠ 26 → q_serve A r u o = mj_up (mj_up A 30 r u) 29 u r o := fun o h1 h2 => by rw [hsv]; exact mj_up_cg (mj_up_cg (hwk o h1 h2))
  have v25 : ∀ k, mj_up (mj_up (mj_up V 29 u r) 30 r u) 26 r (V 26 u) 25 k = V 25 k := fun k => by rw [mj_up_ne (by omega), mj_up_ne (by omega), mj_up_ne (by omega)]
  have v26 : ∀ k, mj_up (mj_up (mj_up V 29 u r) 30 r u) 26 r (V 26 u) 26 k = if k = r then V 26 u else V 26 k := fun k => by rw [mj_up_at, mj_up_ne (by omega), mj_up_ne (by omega)]
  have w3 : q_wr (q_serve A r u) := q_serve_w hS.1.1 (by omega) (by omega)
  have S2 : z_SW r (q_serve A r u) (mj_up (mj_up (mj_up V 29 u r) 30 r u) 26 r (V 26 u)) := by
    refine z_SW_pa S1 w3 (q_wr_up wV (by simp [q_okv])) so (fun o h1 h2 => mj_up_ne h2) ?_
    intro k hk hkr
    rw [v25, v26, s25, s26, if_neg hkr, if_neg hkr, if_neg hkr]
    exact hR k hk
  have sr : ∀ o, o < 24 ∨ 30 < o → q_serve A r u o = A o := fun o ho => q_serve_o ho
  exact z_useP S2 (z_F_c hF (sr 130 (by omega)) (sr 131 (by omega))) (z_HT_c hH (sr 14 (by omega)) (sr 3 (by omega)) (sr 4 (by omega))) (by rw [sr 130 (by omega)]; exact h0) hr8
    (by rw [so 29 (by omega) (by omega), lA.2.1, if_neg hne]; exact hr29) (by rw [v26, s26, if_pos rfl, if_pos rfl]; exact (hR u (by omega)).2) (by rw [v25, s25, if_pos rfl, (hR r hr8).1]) ⟨hT.1, hT.2.1⟩ (by rw [sr 3 (by omega)]; exact hT.2.2)
theorem z_wloop {r : Nat} {b c g T : Int} (hg : 0 ≤ g ∧ g < 40) (hT : 0 ≤ T ∧ T < 120) : ∀ (n : Nat) (A V : mj_M), z_Rl 8 A V → (r : Int) < A 22 13 → A 24 r = 0 → A 30 r = -1 → m_nC V < n → A 3 T.toNat ≠ -1 → (A 14 g.toNat = 2 ∨ A 14 g.toNat = 3) →
    (m_wsY r b g (n + 1) V (q_firstC V g) = 0 ∨ m_wsY r b g (n + 1) V (q_firstC V g) = 2) ∧
    z_Rl 8 (q_sweep (q_wF (q_wM r g b n A (q_firstC A g)) r g b c T (q_wC r g b n A (q_firstC A g)))) (z_post r (m_wsY r b g (n + 1) V (q_firstC V g)) (m_wsM r b g T (n + 1) V (q_firstC V g))) := by
  intro n
  induction n with
  | zero => intro A V _ _ _ _ h; have := m_nC_b (V := V); omega
  | succ n ih =>
    intro A V h hr h24 h30 hn hT3 hg2
    have hS := h.1
    have hRR := hS.2.2.2.2.2.2.2.2.2.2.1
    have hsz := q_w22_13 hS.1.1
    rw [z_firstC hRR]
    have hu := q_firstC_in (g := g) hS.1.1
    rw [m_wsY, m_wsM, q_wC, q_wM]
    by_cases c1 : q_firstC A g = -1
    · simp only [c1, if_true]
      refine ⟨Or.inr trivial, ?_⟩
      unfold q_wF z_post
      rw [if_pos rfl, if_neg (by omega)]
      have S6 := z_goes1 (r := r) (g := g) (b := b) (c := c) (n := A 1 7) hS hr h24 hg hg2
      have gA := q_goesA (A := A) (r := r) (s := 1) (g := g) (b := b) (c := c) (n := A 1 7)
      exact z_use8 S6 (z_F_c h.2.1 (gA.1 130 (by omega) (by omega) (by omega) (by omega) (by omega)) (gA.1 131 (by omega) (by omega) (by omega) (by omega) (by omega))) (z_HT_c h.2.2.1 (gA.1 14 (by omega) (by omega) (by omega) (by omega) (by omega)) (gA.1 3 (by omega) (by omega) (by omega) (by omega) (by omega)) (gA.1 4 (by omega) (by omega) (by omega) (by omega) (by omega)))
        (by rw [gA.1 130 (by omega) (by omega) (by omega) (by omega) (by omega)]; exact h.2.2.2) hT (by rw [gA.1 3 (by omega) (by omega) (by omega) (by omega) (by omega)]; exact hT3)
    · have hu : 0 ≤ q_firstC A g ∧ q_firstC A g < A 22 13 ∧ A 24 (q_firstC A g).toNat = 2 ∧ A 29 (q_firstC A g).toNat = -1 := by
        rcases hu with q | q
        · exact absurd q c1
        · exact ⟨q.1, q.2.1, q.2.2.1, q.2.2.2.2⟩
      simp only [if_neg c1]
      generalize q_firstC A g = u at *
      obtain ⟨u, rfl⟩ : ∃ n : Nat, u = (n : Int) := ⟨u.toNat, by omega⟩
      simp only [Int.toNat_natCast] at hu ⊢
      have hne : r ≠ u := fun q => by rw [q] at h24; omega
      have e32 : V 32 u = A 32 u := (hRR.2.1 u (by omega)).1 (Or.inr hu.2.2.1)
      obtain ⟨k1, k2, k3, k4, k5, k6, k7, k8⟩ := z_tak h (x := u) (z := r) (s := b) (p := A 32 u) hu.2.1 hr (by omega) (by omega) e32
      by_cases c2 : A 32 u = -1
      · have g1 := k1 c2
        simp only [c2, if_true, g1, true_or]
        simp only [c2, if_true] at k3 k4
        refine ⟨trivial, ?_⟩
        unfold q_wF m_takM
        rw [if_neg (by omega), g1, if_pos rfl]
        simp only [Int.toNat_natCast]
        exact z_wserve k3 hr h24 h30 hu.2.1 hu.2.2.1 hu.2.2.2 ⟨hT.1, hT.2, hT3⟩
      · have g1 := k2 c2
        simp only [if_neg c2, g1]
        simp only [if_neg c2] at k3 k4 k8
        by_cases c3 : m_tak V u r b = 1
        · simp only [c3, if_true, true_or]
          refine ⟨trivial, ?_⟩
          unfold q_wF m_takM
          rw [if_neg (by omega), c3, if_pos rfl]
          simp only [Int.toNat_natCast]
          exact z_wserve k3 (by rw [k4 22 (by omega) (by omega)]; exact hr) (by rw [k4 24 (by omega) (by omega)]; exact h24) (by rw [k4 30 (by omega) (by omega)]; exact h30) (by rw [k4 22 (by omega) (by omega)]; exact hu.2.1) (by rw [k4 24 (by omega) (by omega)]; exact hu.2.2.1) (by rw [k4 29 (by omega) (by omega)]; exact hu.2.2.2) ⟨hT.1, hT.2, by rw [(k8 _ hT3).1]; exact hT3⟩
        · simp only [if_neg c3]
          obtain ⟨f0, f1, f24, f30⟩ := z_fault_fr (r := r) hRR.2.2.1 hS.1.1 hu.2.1
          have SF := z_fault hS hu.2.1 (by omega)
          have RF : z_Rl 8 (q_fault A u) (m_fa V u) := ⟨SF, z_F_c h.2.1 (f0 130 (by omega) (by omega)) (f0 131 (by omega) (by omega)), z_HT_c h.2.2.1 (f0 14 (by omega) (by omega)) (f0 3 (by omega) (by omega)) (f0 4 (by omega) (by omega)), by rw [f0 130 (by omega) (by omega)]; exact h.2.2.2⟩
          have hc := m_nC_fa (V := V) (r := (u : Int)) (by omega) (by simp only [Int.toNat_natCast]; rw [(hRR.1.2 u (by omega)).2.1]; exact hu.2.2.1)
          exact ih (q_fault A u) (m_fa V u) RF (by rw [f0 22 (by omega) (by omega)]; exact hr) (f24 h24 hne) (f30 h30) (by omega) (by rw [f0 3 (by omega) (by omega)]; exact hT3) (by rw [f0 14 (by omega) (by omega)]; exact hg2)
theorem z_wait {r : Nat} {a b c : Int} (h : z_Rl 8 A V) (hr : (r : Int) < A 22 13) (h24 : A 24 r = 0) (hb : -1 ≤ b ∧ b ≤ 9) :
    (q_wt A r a = 1 → (m_waY V r a b = 0 ∨ m_waY V r a b = 2) ∧ z_Rl 8 (q_sweep (q_wtM A r a b c)) (z_post r (m_waY V r a b) (m_waM V r a b))) ∧ (q_wt A r a ≠ 1 → m_waY V r a b = 1 ∧ q_wtM A r a b c = A ∧ m_waM V r a b = V) := by
  have hS := h.1
  have hRR := hS.2.2.2.2.2.2.2.2.2.2.1
  have hsz := q_w22_13 hS.1.1
  obtain ⟨hr8, hr29, hr28, hy, hy14⟩ := z_rdy hS hr h24
  have e23 : V 23 r = A 23 r := (hRR.1.2 r hr8).1
  have e30 : V 30 r = A 30 r := (z_R_30 hRR.1 hr8).1
  have hfg := z_fg hS (s := a) (r := 1) hy hy14
  have zz : ∀ P : Prop, ¬ ((-1 : Int) ≠ -1 ∧ P) := fun P q => q.1 rfl
  unfold q_wtM q_wt q_wtG q_wtT m_waY m_waM m_waG
  simp only [Int.toNat_natCast]
  simp only [e23, e30, hfg]
  by_cases g0 : q_og A (q_ta A (A 23 r) a) 1 = 1
  · have gog := q_og_1.mp g0
    have nT := q_fits_ne gog.1
    have tha := z_ta_th hS.1.1 hS.2.2.1 (b := A 23 r) (s := a)
    have hT : 0 ≤ q_ta A (A 23 r) a ∧ q_ta A (A 23 r) a < 120 ∧ A 3 (q_ta A (A 23 r) a).toNat ≠ -1 := by rcases tha with q | q; exact absurd q nT; exact q
    have t4 := (z_thf hS hT (by omega)).1
    simp only [if_pos g0, t4]
    by_cases g2 : A 30 r = -1
    · have p1 : q_og A (q_ta A (A 23 r) a) 1 = 1 ∧ A 30 r = -1 := ⟨g0, g2⟩
      have p2 : q_ta A (A 23 r) a ≠ -1 ∧ (-1 ≤ b ∧ b ≤ 9) ∧ A 30 r = -1 := ⟨nT, hb, g2⟩
      simp only [if_pos p1, if_pos p2, if_true]
      refine ⟨fun _ => ?_, fun q => absurd rfl q⟩
      have hnc : m_nC V < ((8 : Nat) : Int) := by
        unfold m_nC
        have := q_sum_lt (f := fun k => if V 24 k = 2 then (1 : Int) else 0) (g := fun _ => 1) (fun k => by show (if V 24 k = 2 then (1 : Int) else 0) ≤ 1; split <;> omega) 8 0 r (by omega) (by omega) (by show (if V 24 r = 2 then (1 : Int) else 0) < 1; rw [(hRR.1.2 r hr8).2.1, if_neg (by omega)]; omega)
        have h8 : q_sum (fun _ => (1 : Int)) 8 0 = 8 := by decide
        omega
      exact z_wloop ⟨gog.2.1, gog.2.2.1⟩ ⟨hT.1, hT.2.1⟩ 8 A V h hr h24 g2 hnc hT.2.2 gog.2.2.2
    · have p1 : ¬ (q_og A (q_ta A (A 23 r) a) 1 = 1 ∧ A 30 r = -1) := fun q => g2 q.2
      have p2 : ¬ (q_ta A (A 23 r) a ≠ -1 ∧ (-1 ≤ b ∧ b ≤ 9) ∧ A 30 r = -1) := fun q => g2 q.2.2
      have h01 : ¬ ((0 : Int) = 1) := by omega
      simp only [if_neg p1, if_neg p2, if_neg h01]
      exact ⟨fun q => absurd q h01, fun _ => by simp⟩
  · simp only [if_neg g0]
    rw [if_neg (fun q => g0 q.1), if_neg (zz _)]
    exact ⟨fun q => by omega, fun _ => ⟨by simp, by simp, by simp⟩⟩
end re28
