section re29
variable {A B C V W A' V' : mj_M} {e e' : Nat}
/-- behind a step that was done -/
theorem z_finP {r : Nat} (hS : z_SW r B W) (hF : z_F B) (hH : z_HT B 40) (hr : r < 8) (h29 : B 29 r = -1) (h26 : W 26 r = B 26 r) (h25 : B 25 r = mj_w (W 25 r + 1)) :
    z_Rl 8 (q_sweep B) (mj_up (m_swp W) 25 r (mj_w (m_swp W 25 r + 1))) := by
  obtain ⟨f1, f2, f3⟩ := z_fin hS hF hH hr h29
  rw [f2]
  have es : mj_up (m_swp W) 26 r (B 26 r) = m_swp W := mj_up_self (by rw [f3]; exact h26)
  rw [es, h25] at f1
  exact f1
/-- a box of the gate goes with all its tokens -/
theorem z_mkg {g : Int} (hS : z_SW e A V) (hF : z_F A) : z_SW e (q_for (f_111 g) 120 0 A) (q_for (f_an g) 120 0 V) ∧ z_F (q_for (f_111 g) 120 0 A) ∧ (∀ o, o ≠ 130 → o ≠ 131 → q_for (f_111 g) 120 0 A o = A o) ∧ (∀ o, o ≠ 131 → q_for (f_an g) 120 0 V o = V o) := by
  have key := q_for2 (N := 120) (F := f_111 g) (G := f_an g) (P := fun _ B W => z_SW e B W ∧ z_F B ∧ (∀ o, o ≠ 130 → o ≠ 131 → B o = A o) ∧ (∀ o, o ≠ 131 → W o = V o)) ?_ 120 0 A V rfl ⟨hS, hF, fun _ _ _ => rfl, fun _ _ => rfl⟩
  · exact key
  · intro t B W ht ⟨h1, h2, h3, h4⟩
    have hT := h1.2.1 t ht
    unfold f_111 f_an
    by_cases c : B 3 t ≠ -1 ∧ B 4 t = g
    · have c2 : W 212 t = 1 ∧ W 4 t = g := by
        rcases hT with q | q
        · exact absurd q.1 c.1
        · exact ⟨q.2.1, by rw [q.2.2.2.1]; exact c.2⟩
      rw [if_pos c, if_pos c2]
      obtain ⟨m1, m2⟩ := z_SW_mark h1 (t := (t : Int)) (by omega) (by simp only [Int.toNat_natCast]; exact c.1)
      refine ⟨m1, m2, fun o h5 h6 => ?_, fun o h5 => ?_⟩
      · rw [← h3 o h5 h6]; unfold q_mark; rw [mj_up_ne (by omega), mj_up_ne (by omega)]
      · rw [← h4 o h5]; unfold m_mk; rw [mj_up_ne (by omega)]
    · have c2 : ¬ (W 212 t = 1 ∧ W 4 t = g) := by
        intro q
        rcases hT with q2 | q2
        · omega
        · exact c ⟨q2.1, by rw [← q2.2.2.2.1]; exact q.2⟩
      rw [if_neg c, if_neg c2]
      exact ⟨h1, h2, h3, h4⟩
/-- who answers goes on, and who is answered -/
theorem z_ansW {r u : Nat} (h : z_Rl 8 A V) (hr : (r : Int) < A 22 13) (h24 : A 24 r = 0) (hu : A 30 r = u) :
    z_Rl 8 (q_sweep (q_anP (q_anW A r u) (A 28 u))) (mj_up (m_anP (m_anW V r u) (A 28 u)) 25 r (mj_w (m_anP (m_anW V r u) (A 28 u) 25 r + 1))) := by
  obtain ⟨hS, hF, hH, h0⟩ := h
  have hRR := hS.2.2.2.2.2.2.2.2.2.2.1
  have hQ := hRR.2.2.1
  have hQH := hS.2.2.2.2.2.2.2.2.2.2.2.1
  have hG := hS.2.2.2.2.2.2.2.2.2.2.2.2.2.1
  have hsz := q_w22_13 hS.1.1
  obtain ⟨hr8, hr29, hr28, -⟩ := z_rdy hS hr h24
  have q30 := (hQ r hr).2.2.2.1 (by omega)
  rw [hu] at q30
  simp only [Int.toNat_natCast] at q30
  obtain ⟨hu22, hu24, hu29⟩ := q30
  have hne : r ≠ u := fun q => by rw [q] at h24; omega
  have hu28 : A 28 u ≠ -1 := (hQ u hu22).2.1.mpr (Or.inr hu24)
  have hg2 := (hQH u hu22).2.1 hu28
  have hg := q_w28 (i := u) hS.1.1 (by omega)
  have hR := fun k hk => ((hRR.1.2 k hk).2.2.1 (by omega))
  generalize hgg : A 28 u = g at *
  -- the link is gone
  have lA : z_lk A (mj_up (mj_up A 29 u (-1)) 30 r (-1)) u r (-1) (-1) := by
    refine ⟨fun o h1 h2 => by rw [mj_up_ne h2, mj_up_ne h1], fun k => by rw [mj_up_ne (by omega), mj_up_at], fun k => by rw [mj_up_at, mj_up_ne (by omega)]⟩
  have lV : z_lk V (mj_up (mj_up V 29 u (-1)) 30 r (-1)) u r (-1) (-1) := by
    refine ⟨fun o h1 h2 => by rw [mj_up_ne h2, mj_up_ne h1], fun k => by rw [mj_up_ne (by omega), mj_up_at], fun k => by rw [mj_up_at, mj_up_ne (by omega)]⟩
  have w1 : q_wr (mj_up (mj_up A 29 u (-1)) 30 r (-1)) := q_wr_up (q_wr_up hS.1.1 (by simp [q_okv])) (by simp [q_okv])
  have RR1 := z_lk_rel hRR hu22 hr lA lV (Or.inr ⟨rfl, rfl, hu29, hu⟩) w1
  -- who is answered goes on
  have wB : q_wr (q_wake (mj_up A 30 r (-1)) u (A 26 r)) := q_wake_w (q_wr_up hS.1.1 (by simp [q_okv]))
  obtain ⟨d0, d1, d2, d3, d4, d5⟩ := z_wk (A := mj_up A 30 r (-1)) (u := (u : Int)) (a := A 26 r)
  simp only [Int.toNat_natCast] at d1 d2 d3 d4 d5
  have kA : z_wk1 (mj_up (mj_up A 29 u (-1)) 30 r (-1)) (q_wake (mj_up A 30 r (-1)) u (A 26 r)) u (A 26 r) := by
    refine ⟨fun o ho => ?_, fun k => ?_, fun k => ?_, fun k => ?_, fun k => ?_, fun k => ?_⟩
    · rw [d0 o ho]; exact mj_up_cg (mj_up_ne (by omega)).symm
    · rw [d1, mj_up_ne (by omega), mj_up_ne (by omega), mj_up_ne (by omega)]
    · rw [d2, mj_up_ne (by omega), mj_up_ne (by omega), mj_up_ne (by omega)]
    · rw [d3, mj_up_ne (by omega), mj_up_ne (by omega), mj_up_ne (by omega)]
    · rw [d4, mj_up_ne (by omega), mj_up_ne (by omega), mj_up_ne (by omega)]
    · rw [d5, mj_up_ne (by omega), mj_up_ne (by omega), mj_up_at]
      by_cases c : k = u
      · rw [if_pos c, if_pos c]
      · rw [if_neg c, if_neg c]
  obtain ⟨f0, f1, f2, f3, f4⟩ := z_rdV (A := mj_up (mj_up V 26 u (V 26 r)) 30 r (-1)) (u := (u : Int))
  simp only [Int.toNat_natCast] at f1 f2 f3 f4
  have eW : m_anW V r u = m_rd (mj_up (mj_up V 26 u (V 26 r)) 30 r (-1)) u := by unfold m_anW; simp only [Int.toNat_natCast]
  have eC : ∀ o, o ≠ 25 → q_anW A r u o = q_wake (mj_up A 30 r (-1)) u (A 26 r) o := by
    intro o ho; unfold q_anW; simp only [Int.toNat_natCast]; exact mj_up_ne ho
  have eC25 : ∀ k, q_anW A r u 25 k = if k = r then mj_w (q_wake (mj_up A 30 r (-1)) u (A 26 r) 25 r + 1) else q_wake (mj_up A 30 r (-1)) u (A 26 r) 25 k := by
    intro k; unfold q_anW; simp only [Int.toNat_natCast]; rw [mj_up_at]
  have wC : q_wr (q_anW A r u) := by
    unfold q_anW; simp only [Int.toNat_natCast]; exact q_wr_up wB (q_okv_o (by decide))
  have okW : m_ok (m_anW V r u) := m_anW_ok hS.2.2.2.2.2.2.1
  have wV2 := okW.1
  have kV : z_wk1 (mj_up (mj_up V 29 u (-1)) 30 r (-1)) (m_anW V r u) u (A 26 r) := by
    rw [eW]
    refine ⟨fun o ho => ?_, fun k => ?_, fun k => ?_, fun k => ?_, fun k => ?_, fun k => ?_⟩
    · rw [f0 o (by omega)]; exact mj_up_cg (by rw [mj_up_ne (by omega), mj_up_ne (by omega)])
    · rw [f1, mj_up_ne (by omega), mj_up_ne (by omega), mj_up_ne (by omega), mj_up_ne (by omega)]
    · rw [f2, mj_up_ne (by omega), mj_up_ne (by omega), mj_up_ne (by omega), mj_up_ne (by omega)]
    · rw [f0 26 (by omega), mj_up_ne (by omega), mj_up_at, mj_up_ne (by omega), mj_up_ne (by omega), (hR r hr8).2]
    · rw [f3, mj_up_ne (by omega), mj_up_ne (by omega), mj_up_ne (by omega), mj_up_ne (by omega)]
    · rw [f4, mj_up_ne (by omega), mj_up_ne (by omega), mj_up_ne (by omega), mj_up_at]
      by_cases c : k = u
      · rw [if_pos c, if_pos c]
      · rw [if_neg c, if_neg c]
  have h29' : mj_up (mj_up A 29 u (-1)) 30 r (-1) 29 u = -1 := by rw [lA.2.1, if_pos rfl]
  have RR2 := z_wake_rel RR1 (by rw [lA.1 22 (by omega) (by omega)]; exact hu22) h29' kA kV wB
  generalize q_wake (mj_up A 30 r (-1)) u (A 26 r) = A2 at *
  have oA2 : ∀ o, o < 22 ∨ o = 22 ∨ o = 23 ∨ o = 27 ∨ 30 < o → A2 o = A o := fun o ho => by rw [d0 o (by omega), mj_up_ne (by omega)]
  have oV2 : ∀ o, o < 22 ∨ o = 22 ∨ o = 23 ∨ o = 27 ∨ 30 < o → m_anW V r u o = V o := fun o ho => by rw [eW, f0 o (by omega), mj_up_ne (by omega), mj_up_ne (by omega)]
  have QH2 : z_QH A2 := by
    refine z_QH_s hQH (fun a ha => oA2 a (by omega)) ?_ ?_
    · intro k hk
      rw [d1, mj_up_ne (by omega)]
      by_cases c : k = u
      · intro _; rw [c]; omega
      · rw [if_neg c]; exact id
    · intro k hk
      rw [d4, mj_up_ne (by omega)]
      by_cases c : k = u
      · rw [if_pos c]; exact fun q => absurd rfl q
      · rw [if_neg c]; exact fun _ => Or.inl rfl
  have S2 : z_SW 8 A2 (m_anW V r u) := by
    refine z_SW_rn hS wB wV2 (fun a h1 h2 => oA2 a (by omega)) (fun a h1 h2 _ => oV2 a (by omega)) (fun j _ _ => by rw [oA2 1 (by omega), oV2 1 (by omega)]; exact ⟨rfl, rfl⟩) ?_ (by rw [oV2 201 (by omega)]) RR2 QH2
    rw [oA2 1 (by omega), oV2 1 (by omega)]
    exact ⟨hG.2.2.2.2.1, hG.2.2.2.2.2.1⟩
  have S3 : z_SW r (q_anW A r u) (m_anW V r u) := by
    refine z_SW_pa S2 wC wV2 (fun o h1 h2 => eC o h1) (fun o _ _ => rfl) ?_
    intro k hk hkr
    have := (RR2.1.2 k hk).2.2.1 (by omega)
    rw [eC 26 (by omega), eC25, if_neg hkr]
    exact this
  have hF3 : z_F (q_anW A r u) := z_F_c hF (by rw [eC 130 (by omega), oA2 130 (by omega)]) (by rw [eC 131 (by omega), oA2 131 (by omega)])
  have hH3 : z_HT (q_anW A r u) 40 := z_HT_c hH (by rw [eC 14 (by omega), oA2 14 (by omega)]) (by rw [eC 3 (by omega), oA2 3 (by omega)]) (by rw [eC 4 (by omega), oA2 4 (by omega)])
  have c29 : q_anW A r u 29 r = -1 := by rw [eC 29 (by omega), d5, if_neg hne, mj_up_ne (by omega)]; exact hr29
  have c26 : m_anW V r u 26 r = q_anW A r u 26 r := by
    rw [eC 26 (by omega)]; exact ((RR2.1.2 r hr8).2.2.1 (by omega)).2
  have c25 : q_anW A r u 25 r = mj_w (m_anW V r u 25 r + 1) := by
    rw [eC25, if_pos rfl, ((RR2.1.2 r hr8).2.2.1 (by omega)).1]
  have c130 : q_anW A r u 130 2 = 0 := by rw [eC 130 (by omega), oA2 130 (by omega)]; exact h0
  have c14 : q_anW A r u 14 = A 14 := by rw [eC 14 (by omega), oA2 14 (by omega)]
  have v14 : m_anW V r u 14 g.toNat = A 14 g.toNat := by
    rw [oV2 14 (by omega)]
    rcases hS.2.2.2.2.2.2.2.1 g.toNat (by omega) with q | q
    · omega
    · exact q.2.2.1
  generalize q_anW A r u = C at *
  generalize m_anW V r u = W at *
  unfold q_anP m_anP
  rw [v14]
  by_cases c : A 14 g.toNat = 3
  · have c2 : q_of C g 3 = 1 := q_of_1.mpr ⟨by omega, by omega, by rw [c14]; exact c⟩
    rw [if_pos c, if_pos c2]
    obtain ⟨m1, m2, m3, m4⟩ := z_mkg (g := g) S3 hF3
    exact z_finP m1 m2 (z_HT_c hH3 (m3 14 (by omega) (by omega)) (m3 3 (by omega) (by omega)) (m3 4 (by omega) (by omega))) hr8 (by rw [m3 29 (by omega) (by omega)]; exact c29)
      (by rw [m3 26 (by omega) (by omega), m4 26 (by omega)]; exact c26) (by rw [m3 25 (by omega) (by omega), m4 25 (by omega)]; exact c25)
  · have c2 : q_of C g 3 ≠ 1 := fun q => c (by have := (q_of_1.mp q).2.2; rw [c14] at this; exact this)
    rw [if_neg c, if_neg c2]
    have := z_finP S3 hF3 hH3 hr8 c29 c26 c25
    rw [z_swp_no S3 hF3 hH3 c130] at this
    exact this
theorem z_ans {r : Nat} {b : Int} (h : z_Rl 8 A V) (hr : (r : Int) < A 22 13) (h24 : A 24 r = 0) (hb : -1 ≤ b ∧ b ≤ 9) :
    (q_anY A r b = 1 → m_anY V r b = 0 ∧ z_Rl 8 (q_sweep (q_anM A r b)) (mj_up (m_anM V r b) 25 r (mj_w (m_anM V r b 25 r + 1)))) ∧ (q_anY A r b ≠ 1 → m_anY V r b = 1 ∧ q_anM A r b = A ∧ m_anM V r b = V) := by
  have hS := h.1
  have hRR := hS.2.2.2.2.2.2.2.2.2.2.1
  have hQ := hRR.2.2.1
  have hQH := hS.2.2.2.2.2.2.2.2.2.2.2.1
  have hsz := q_w22_13 hS.1.1
  obtain ⟨hr8, hr29, hr28, hy, hy14⟩ := z_rdy hS hr h24
  have e23 : V 23 r = A 23 r := (hRR.1.2 r hr8).1
  have e30 : V 30 r = A 30 r := (z_R_30 hRR.1 hr8).1
  have w30 := q_w30 (i := r) hS.1.1 hr8
  have D0 : q_anY A r b = 0 → m_anG V r b = 0 → ((q_anY A r b = 1 → m_anY V r b = 0 ∧ z_Rl 8 (q_sweep (q_anM A r b)) (mj_up (m_anM V r b) 25 r (mj_w (m_anM V r b 25 r + 1)))) ∧ (q_anY A r b ≠ 1 → m_anY V r b = 1 ∧ q_anM A r b = A ∧ m_anM V r b = V)) := by
    intro g1 g2
    unfold q_anM m_anM m_anY
    rw [if_neg (by omega), if_neg (by omega), if_neg (by omega)]
    exact ⟨fun q => by omega, fun _ => ⟨rfl, rfl, rfl⟩⟩
  have D1 : ∀ X Y, q_anY A r b = 1 → m_anG V r b = 1 → q_anP (q_anW (q_anL A r b) r (A 30 r)) (A 28 (A 30 r).toNat) = X → m_anP (m_anW (m_anL V r b) r (V 30 r)) (V 28 (V 30 r).toNat) = Y → z_Rl 8 (q_sweep X) (mj_up Y 25 r (mj_w (Y 25 r + 1))) →
      ((q_anY A r b = 1 → m_anY V r b = 0 ∧ z_Rl 8 (q_sweep (q_anM A r b)) (mj_up (m_anM V r b) 25 r (mj_w (m_anM V r b 25 r + 1)))) ∧ (q_anY A r b ≠ 1 → m_anY V r b = 1 ∧ q_anM A r b = A ∧ m_anM V r b = V)) := by
    intro X Y g1 g2 g3 g4 g5
    have h1 : q_anM A r b = X := by unfold q_anM; rw [if_pos g1]; exact g3
    have h2 : m_anM V r b = Y := by unfold m_anM; rw [if_pos g2]; exact g4
    have h3 : m_anY V r b = 0 := by unfold m_anY; rw [if_pos g2]
    rw [h1, h2, h3]
    exact ⟨fun _ => ⟨rfl, g5⟩, fun q => absurd g1 q⟩
  by_cases c0 : A 30 r = -1
  · refine D0 ?_ ?_
    · unfold q_anY; simp only [Int.toNat_natCast]; rw [if_pos c0]
    · unfold m_anG; simp only [Int.toNat_natCast]; rw [if_neg (fun q => q.1 (by rw [e30]; exact c0))]
  · obtain ⟨u, hu⟩ : ∃ u : Nat, A 30 r = u := ⟨(A 30 r).toNat, by omega⟩
    have q30 := (hQ r hr).2.2.2.1 (by omega)
    rw [hu] at q30
    simp only [Int.toNat_natCast] at q30
    obtain ⟨hu22, hu24, hu29⟩ := q30
    have v23 : V 23 u = A 23 u := (hRR.1.2 u (by omega)).1
    have v28 : V 28 u = A 28 u := (hRR.1.2 u (by omega)).2.2.2.2.1
    have v33 : V 33 u = A 33 u := (hRR.2.1 u (by omega)).2.1 hu24
    have hyu := q_w23 (i := u) hS.1.1 (by omega)
    have hyu14 := (hQH u hu22).1 (by omega)
    have v30 : V 30 r = u := e30.trans hu
    have hu1 : V 30 ((r : Int)).toNat ≠ -1 := by simp only [Int.toNat_natCast]; omega
    by_cases c1 : b = -1
    · refine D1 _ _ ?_ ?_ rfl rfl ?_
      · unfold q_anY; simp only [Int.toNat_natCast]; rw [if_neg c0, if_pos c1]
      · unfold m_anG; rw [if_pos ⟨hu1, hb, Or.inl c1⟩]
      · have L1 : q_anL A r b = A := by unfold q_anL; rw [if_pos c1]
        have L2 : m_anL V r b = V := by unfold m_anL; rw [if_pos c1]
        rw [L1, L2, hu, v30]
        simp only [Int.toNat_natCast]
        rw [v28]
        exact z_ansW h hr h24 hu
    · obtain ⟨l1, l2, l3, l4, l5, l6, -⟩ := z_lend h (b := A 23 r) (a := b) (u := A 23 u) (s := A 33 u) (k := 1) (mask := -1) (r := 31) hy hy14 ⟨by omega, by omega⟩ hyu14 (by omega) (fun x hx => by rw [(mj_and_31 hx).1, (mj_and_31 hx).2.1])
      have eK : m_anK V r b = m_ln V (A 23 r) b (A 23 u) (A 33 u) := by
        unfold m_anK; simp only [Int.toNat_natCast, v30, e23, v23, v33]
      have eY : q_anY A r b = m_ln V (A 23 r) b (A 23 u) (A 33 u) := by
        unfold q_anY; simp only [Int.toNat_natCast]; rw [if_neg c0, if_neg c1, hu]; simp only [Int.toNat_natCast]; exact l1
      by_cases c2 : m_ln V (A 23 r) b (A 23 u) (A 33 u) = 1
      · refine D1 _ _ (eY.trans c2) ?_ rfl rfl ?_
        · unfold m_anG; rw [if_pos ⟨hu1, hb, Or.inr (eK.trans c2)⟩]
        · have L1 : q_anL A r b = q_lendM A (q_ta A (A 23 r) b) 1 (-1) (A 23 u) (A 33 u) := by unfold q_anL; rw [if_neg c1]; simp only [Int.toNat_natCast, hu]
          have L2 : m_anL V r b = m_lnM V (A 23 r) b 1 31 (A 23 u) (A 33 u) := by unfold m_anL; rw [if_neg c1]; simp only [Int.toNat_natCast, v30, e23, v23, v33]
          rw [L1, L2, hu, v30]
          simp only [Int.toNat_natCast]
          have := z_ansW l2 (r := r) (u := u) (by rw [l3 22 (by omega) (by omega)]; exact hr) (by rw [l3 24 (by omega) (by omega)]; exact h24) (by rw [l3 30 (by omega) (by omega)]; exact hu)
          rw [l3 28 (by omega) (by omega)] at this
          rw [v28]
          exact this
      · have l01 := m_ln_01 (V := V) (b := A 23 r) (a := b) (u := A 23 u) (s := A 33 u)
        refine D0 (by omega) ?_
        unfold m_anG
        rw [if_neg ?_]
        intro q
        rcases q.2.2 with q | q
        · exact c1 q
        · rw [eK] at q; exact c2 q
end re29
