section re32
variable {A B C V W A' V' : mj_M} {e e' : Nat}
/-- place and what is held are set, then what is marked goes -/
theorem z_paS {r : Nat} {x N : Int} (hS : z_SW 8 A' W) (hF : z_F A') (hH : z_HT A' 40) (hr8 : r < 8) (h29 : A' 29 r = -1) :
    z_Rl 8 (q_sweep (mj_up (mj_up A' 26 r x) 25 r N)) (mj_up (mj_up (m_swp W) 26 r x) 25 r N) := by
  have hR := hS.2.2.2.2.2.2.2.2.2.2.1.1.2
  have w2 : q_wr (mj_up (mj_up A' 26 r x) 25 r N) := q_wr_up (q_wr_up hS.1.1 (q_okv_o (by decide))) (q_okv_o (by decide))
  have o : ∀ a, a ≠ 25 → a ≠ 26 → mj_up (mj_up A' 26 r x) 25 r N a = A' a := fun a h1 h2 => by rw [mj_up_ne h1, mj_up_ne h2]
  have S2 : z_SW r (mj_up (mj_up A' 26 r x) 25 r N) W := by
    refine z_SW_pa hS w2 hS.2.2.2.2.2.2.1.1 o (fun _ _ _ => rfl) ?_
    intro k hk hkr
    rw [mj_up_at, if_neg hkr, mj_up_ne (show (26 : Nat) ≠ 25 by decide), mj_up_at, if_neg hkr, mj_up_ne (show (25 : Nat) ≠ 26 by decide)]
    exact (hR k hk).2.2.1 (by omega)
  obtain ⟨f1, -, -⟩ := z_fin S2 (z_F_c hF (o 130 (by omega) (by omega)) (o 131 (by omega) (by omega))) (z_HT_c hH (o 14 (by omega) (by omega)) (o 3 (by omega) (by omega)) (o 4 (by omega) (by omega))) hr8 (by rw [o 29 (by omega) (by omega)]; exact h29)
  have e25 : mj_up (mj_up A' 26 r x) 25 r N 25 r = N := by rw [mj_up_at, if_pos rfl]
  have e26 : mj_up (mj_up A' 26 r x) 25 r N 26 r = x := by rw [mj_up_ne (by omega), mj_up_at, if_pos rfl]
  rw [e25, e26] at f1
  exact f1
theorem z_paF {r : Nat} {x N : Int} (h : z_af 8 A V A' V') (hr8 : r < 8) (h29 : A 29 r = -1) : z_Rl 8 (q_sweep (mj_up (mj_up A' 26 r x) 25 r N)) (mj_up (mj_up V' 26 r x) 25 r N) := by
  obtain ⟨W, h1, h2, h3, h4, h5, h6, -, -⟩ := h
  rw [h1]
  exact z_paS h2 h3 h4 hr8 (by rw [h5 29 (by omega) (by omega)]; exact h29)
theorem z_af_pa {r : Nat} (hS0 : z_SW 8 A V) (h : z_af 8 A V A' V') (hr8 : r < 8) (h29 : A 29 r = -1) : V' 25 r = A 25 r ∧ V' 26 r = A 26 r ∧ A' 25 r = A 25 r ∧ A' 26 r = A 26 r := by
  obtain ⟨W, h1, h2, h3, h4, h5, h6, -, -⟩ := h
  have hR := (hS0.2.2.2.2.2.2.2.2.2.2.1.1.2 r hr8).2.2.1 (by omega)
  have S2 : z_SW r A' W := z_SW_pa h2 h2.1.1 h2.2.2.2.2.2.2.1.1 (fun _ _ _ => rfl) (fun _ _ _ => rfl) (fun k hk _ => (h2.2.2.2.2.2.2.2.2.2.2.1.1.2 k hk).2.2.1 (by omega))
  obtain ⟨-, f2, f3⟩ := z_fin S2 h3 h4 hr8 (by rw [h5 29 (by omega) (by omega)]; exact h29)
  rw [h1, f2, f3, h6 25 (by omega) (by omega), h6 26 (by omega) (by omega), h5 25 (by omega) (by omega), h5 26 (by omega) (by omega)]
  exact ⟨hR.1, hR.2, rfl, rfl⟩
/-- who ends -/
theorem z_endS {r : Nat} (S1 : z_SW e A V) (hr : (r : Int) < A 22 13) (h4 : A 24 r ≠ 4) : z_SW e (q_end A r 3) (m_en V r 3) ∧ z_en A (q_end A r 3) r 3 ∧ z_en V (m_en V r 3) r 3 := by
  have hRR := S1.2.2.2.2.2.2.2.2.2.2.1
  have hQH := S1.2.2.2.2.2.2.2.2.2.2.2.1
  have hG := S1.2.2.2.2.2.2.2.2.2.2.2.2.2.1
  have wA := S1.1.1
  have wV := S1.2.2.2.2.2.2.1.1
  have hsz := q_w22_13 wA
  have hQu := fun q => z_Q_u hRR.2.2.1 wA hr q
  have eA := z_endA (A := A) (r := r) (s := 3) (fun q => (hQu q).1)
  have e30 := (z_R_30 hRR.1 (r := r) (by omega)).1
  have eV := z_endV (A := V) (r := r) (s := 3) (by rw [e30]; exact fun q => (hQu q).1)
  have wE : q_wr (q_end A r 3) := q_end_w wA
  have wEV : q_wr (m_en V r 3) := m_en_w wV
  have RR2 := z_end_rel hRR hr (Or.inl rfl) eA eV wE
  have QH2 : z_QH (q_end A r 3) := by
    refine z_QH_s hQH (fun a ha => eA.1 a (by omega)) ?_ ?_
    · intro k hk
      rw [eA.2.1]
      by_cases c : k = r
      · intro _; rw [c]; exact h4
      · rw [if_neg c]
        by_cases c2 : A 30 r ≠ -1 ∧ k = (A 30 r).toNat
        · intro _ q
          have := (hQu c2.1).2.2.1
          rw [← c2.2, q] at this
          omega
        · rw [if_neg c2]; exact id
    · intro k hk
      rw [eA.2.2.2.2.1]
      by_cases c : k = r
      · rw [if_pos c]; exact fun q => absurd rfl q
      · rw [if_neg c]
        by_cases c2 : A 30 r ≠ -1 ∧ k = (A 30 r).toNat
        · rw [if_pos c2]; exact fun q => absurd rfl q
        · rw [if_neg c2]; exact fun _ => Or.inl rfl
  refine ⟨z_SW_rn S1 wE wEV (fun a h1 h2 => eA.1 a (by omega)) (fun a h1 h2 _ => eV.1 a (by omega)) (fun j _ _ => by rw [eA.1 1 (by omega), eV.1 1 (by omega)]; exact ⟨rfl, rfl⟩) ?_ (by rw [eV.1 201 (by omega)]) RR2 QH2, eA, eV⟩
  rw [eA.1 1 (by omega), eV.1 1 (by omega)]
  exact ⟨hG.2.2.2.2.1, hG.2.2.2.2.2.1⟩
/-- what can't be done is a fault -/
theorem z_doF {r : Nat} (h : z_Rl 8 A V) (hr : (r : Int) < A 22 13) (h24 : A 24 r = 0) : z_Rl 8 (q_sweep (q_fault A r)) (m_fa V r) := by
  obtain ⟨hS, hF, hH, h0⟩ := h
  have SF := z_fault hS hr (by omega)
  obtain ⟨f0, f1, -, -⟩ := z_fault_fr (r := r) hS.2.2.2.2.2.2.2.2.2.2.1.2.2.1 hS.1.1 hr
  have hF2 := z_F_c hF (f0 130 (by omega) (by omega)) (f0 131 (by omega) (by omega))
  have hH2 := z_HT_c hH (f0 14 (by omega) (by omega)) (f0 3 (by omega) (by omega)) (f0 4 (by omega) (by omega))
  have := z_fin8 SF hF2 hH2
  rw [z_swp_no SF hF2 hH2 (by rw [f0 130 (by omega) (by omega)]; exact h0)] at this
  exact this
theorem q_mtG_1 {r : Int} : q_mtG A r = 1 ↔ ((-1 ≤ q_pr A r 2 ∧ q_pr A r 2 ≤ 9) ∧ (-1 ≤ q_pr A r 3 ∧ q_pr A r 3 ≤ 9)) := by
  unfold q_mtG q_sn
  by_cases a : -1 ≤ q_pr A r 2 ∧ q_pr A r 2 < 10
  · by_cases b : -1 ≤ q_pr A r 3 ∧ q_pr A r 3 < 10
    · rw [if_pos ⟨if_pos a, if_pos b⟩]
      exact ⟨fun _ => by omega, fun _ => rfl⟩
    · rw [if_neg (fun q => by have := q.2; rw [if_neg b] at this; omega)]
      exact ⟨fun q => by omega, fun q => by omega⟩
  · rw [if_neg (fun q => by have := q.1; rw [if_neg a] at this; omega)]
    exact ⟨fun q => by omega, fun q => by omega⟩
theorem q_anY_no {r b : Int} (h : q_anY A r b ≠ 1) : q_anY A r b = 0 := by
  have := q_anY_01 (M := A) (r := r) (b := b); omega
/-- what one runner does in a tick -/
theorem z_do {r : Nat} (h : z_Rl 8 A V) (hr : (r : Int) < A 22 13) (h24 : A 24 r = 0) (hn : z_now A) (h30 : z_30 A) (hC : 0 ≤ V 201 0 ∧ V 201 0 < 2147483647) (hB : 0 ≤ V 201 1 ∧ V 201 1 < 2147483647)
    (hfA : q_few A 99999999) (hfV : q_few V 99999999) : z_Rl 8 (q_sweep (q_tkD A r)) (m_tkC V r) := by
  have hS := h.1
  have hRR := hS.2.2.2.2.2.2.2.2.2.2.1
  have hsz := q_w22_13 hS.1.1
  obtain ⟨hr8, hr29, hr28, hy, hy14⟩ := z_rdy hS hr h24
  obtain ⟨e23, e24, e25, -, -, -, -, e31⟩ := hRR.1.2 r hr8
  obtain ⟨e25, e26⟩ := e25 (by omega)
  have e35 := (hRR.2.1 r hr8).2.2
  have hsV : q_hs V r = q_hs A r := by unfold q_hs; simp only [Int.toNat_natCast, e25, e31]
  have F : ∀ W, q_tkO A r = 0 → q_tkA A r = A → m_doY V r = 1 → m_doM V r = W → z_Rl 8 A W → z_Rl 8 (q_sweep (q_tkD A r)) (m_tkC V r) := by
    intro W f1 f2 f3 f4 f5
    unfold q_tkD m_tkC
    rw [if_neg (by omega), if_pos f3, f2, f4]
    exact z_doF f5 hr h24
  have G : ∀ X Y, q_tkO A r = 1 → q_tkA A r = X → m_doY V r = 0 → m_doM V r = Y → z_Rl 8 (q_sweep X) (mj_up Y 25 r (mj_w (Y 25 r + 1))) → z_Rl 8 (q_sweep (q_tkD A r)) (m_tkC V r) := by
    intro X Y f1 f2 f3 f4 f5
    unfold q_tkD m_tkC
    rw [if_pos f1, if_neg (by omega), if_pos f3, f2, f4]
    simp only [Int.toNat_natCast]
    exact f5
  have H : ∀ X Y, q_tkO A r = 1 → q_tkA A r = X → m_doY V r = 2 → m_doM V r = Y → z_Rl 8 (q_sweep X) Y → z_Rl 8 (q_sweep (q_tkD A r)) (m_tkC V r) := by
    intro X Y f1 f2 f3 f4 f5
    unfold q_tkD m_tkC
    rw [if_pos f1, if_neg (by omega), if_neg (by omega), f2, f4]
    exact f5
  rcases q_hs_01 (M := A) (r := r) with k | ⟨k, k2, k3⟩
  · exact F V (by simp [q_tkO, k]) (by simp [q_tkA, k]) (by simp [m_doY, hsV, k]) (by simp [m_doM, hsV, k]) h
  simp only [Int.toNat_natCast] at k2 k3
  have h31 := q_w31 (i := r) hS.1.1 hr8
  have pV : ∀ j : Int, 0 ≤ j → j < 4 → q_pr V r j = q_pr A r j := by
    intro j h1 h2
    unfold q_pr q_st
    simp only [Int.toNat_natCast]
    rw [e25]
    have := e35 (4 * A 25 r + j).toNat (by omega) (by omega)
    rw [show (160 * (r : Int) + 4 * A 25 r + j).toNat = 160 * r + (4 * A 25 r + j).toNat by omega]
    exact this
  have pV0 := pV 0 (by omega) (by omega)
  have pV1 := pV 1 (by omega) (by omega)
  have pV2 := pV 2 (by omega) (by omega)
  have pV3 := pV 3 (by omega) (by omega)
  have hG := q_mtG_1 (A := A) (r := r)
  have hN1 : mj_w (A 25 r + 1) = A 25 r + 1 := mj_w_id2 (by omega) (by omega)
  by_cases c15 : q_pr A r 0 = 15
  · by_cases g : q_mtG A r = 1
    · obtain ⟨g2, g3⟩ := hG.mp g
      obtain ⟨z1, z2⟩ := z_call (a := q_pr A r 1) h hr h24 hn h30 ⟨by omega, by omega⟩ g2 g3
      by_cases q : q_cl A r (q_pr A r 1) (q_pr A r 2) = 1
      · obtain ⟨z3, z4⟩ := z1 q
        exact H _ _ (by simp [q_tkO, k, q_im, c15, q_mtY, g, q]) (by simp [q_tkA, k, q_im, c15, q_mtM, g] <;> rfl) (by simp [m_doY, hsV, k, pV0, pV1, pV2, pV3, c15, z3]) (by simp [m_doM, hsV, k, pV0, pV1, pV2, pV3, c15] <;> rfl) z4
      · obtain ⟨z3, z4, z5⟩ := z2 q
        have q0 : q_cl A r (q_pr A r 1) (q_pr A r 2) = 0 := by have := q_cl_01 (M := A) (r := r) (a := q_pr A r 1) (b := q_pr A r 2); omega
        exact F _ (by simp [q_tkO, k, q_im, c15, q_mtY, g, q0]) (by simp [q_tkA, k, q_im, c15, q_mtM, g] <;> exact z4) (by simp [m_doY, hsV, k, pV0, pV1, pV2, pV3, c15, z3]) (by simp [m_doM, hsV, k, pV0, pV1, pV2, pV3, c15] <;> rfl) z5
    · have nG : m_clG V r (q_pr A r 1) (q_pr A r 2) (q_pr A r 3) = 0 := by
        unfold m_clG
        rw [if_neg (fun q => g (hG.mpr ⟨q.2.1, q.2.2.1⟩))]
      refine F V (by simp [q_tkO, k, q_im, c15, q_mtY, g]) (by simp [q_tkA, k, q_im, c15, q_mtM, g]) ?_ ?_ h
      · simp [m_doY, hsV, k, pV0, pV1, pV2, pV3, c15, m_clY, nG]
      · simp [m_doM, hsV, k, pV0, pV1, pV2, pV3, c15, m_clM, nG]
  by_cases c16 : q_pr A r 0 = 16
  · by_cases g : q_mtG A r = 1
    · obtain ⟨g2, g3⟩ := hG.mp g
      obtain ⟨z1, z2⟩ := z_wait (a := q_pr A r 1) (c := q_pr A r 3) h hr h24 g2
      by_cases q : q_wt A r (q_pr A r 1) = 1
      · obtain ⟨z3, z4⟩ := z1 q
        have t1 : q_tkO A r = 1 := by simp [q_tkO, k, q_im, c16, q_mtY, g, q]
        have t2 : q_tkA A r = q_wtM A r (q_pr A r 1) (q_pr A r 2) (q_pr A r 3) := by simp [q_tkA, k, q_im, c16, q_mtM, g]
        have t3 : m_doY V r = m_waY V r (q_pr A r 1) (q_pr A r 2) := by simp [m_doY, hsV, k, pV0, pV1, pV2, pV3, c16, g3.1, g3.2]
        have t4 : m_doM V r = m_waM V r (q_pr A r 1) (q_pr A r 2) := by simp [m_doM, hsV, k, pV0, pV1, pV2, pV3, c16, g3.1, g3.2]
        rcases z3 with z3 | z3
        · refine G _ _ t1 t2 (t3.trans z3) t4 ?_
          rw [z3] at z4
          exact z4
        · refine H _ _ t1 t2 (t3.trans z3) t4 ?_
          rw [z3] at z4
          exact z4
      · obtain ⟨z3, z4, z5⟩ := z2 q
        have q0 : q_wt A r (q_pr A r 1) = 0 := by have := q_wt_01 (M := A) (r := r) (a := q_pr A r 1); omega
        refine F V (by simp [q_tkO, k, q_im, c16, q_mtY, g, q0]) (by simp [q_tkA, k, q_im, c16, q_mtM, g] <;> exact z4) ?_ ?_ h
        · simp [m_doY, hsV, k, pV0, pV1, pV2, pV3, c16, g3.1, g3.2, z3]
        · simp [m_doM, hsV, k, pV0, pV1, pV2, pV3, c16, g3.1, g3.2, z5]
    · refine F V (by simp [q_tkO, k, q_im, c16, q_mtY, g]) (by simp [q_tkA, k, q_im, c16, q_mtM, g]) ?_ ?_ h
      · by_cases g3 : -1 ≤ q_pr A r 3 ∧ q_pr A r 3 ≤ 9
        · have nG : m_waG V r (q_pr A r 1) (q_pr A r 2) = 0 := by
            unfold m_waG
            rw [if_neg (fun q => g (hG.mpr ⟨q.2.1, g3⟩))]
          simp [m_doY, hsV, k, pV0, pV1, pV2, pV3, c16, g3.1, g3.2, m_waY, nG]
        · simp only [m_doY, hsV, k, pV0, pV1, pV2, pV3, c16, if_neg g3]
          simp
      · by_cases g3 : -1 ≤ q_pr A r 3 ∧ q_pr A r 3 ≤ 9
        · have nG : m_waG V r (q_pr A r 1) (q_pr A r 2) = 0 := by
            unfold m_waG
            rw [if_neg (fun q => g (hG.mpr ⟨q.2.1, g3⟩))]
          simp [m_doM, hsV, k, pV0, pV1, pV2, pV3, c16, g3.1, g3.2, m_waM, nG]
        · simp only [m_doM, hsV, k, pV0, pV1, pV2, pV3, c16, if_neg g3]
          simp
  by_cases c17 : q_pr A r 0 = 17
  · by_cases g : q_mtG A r = 1
    · obtain ⟨g2, g3⟩ := hG.mp g
      obtain ⟨z1, z2⟩ := z_ans (b := q_pr A r 2) h hr h24 g2
      by_cases q : q_anY A r (q_pr A r 2) = 1
      · obtain ⟨z3, z4⟩ := z1 q
        refine G _ _ (by simp [q_tkO, k, q_im, c17, q_mtY, g, q]) (by simp [q_tkA, k, q_im, c17, q_mtM, g] <;> rfl) ?_ ?_ z4
        · simp [m_doY, hsV, k, pV0, pV1, pV2, pV3, c17, g3.1, g3.2, z3]
        · simp [m_doM, hsV, k, pV0, pV1, pV2, pV3, c17, g3.1, g3.2]
      · obtain ⟨z3, z4, z5⟩ := z2 q
        have q0 := q_anY_no q
        refine F V (by simp [q_tkO, k, q_im, c17, q_mtY, g, q0]) (by simp [q_tkA, k, q_im, c17, q_mtM, g] <;> exact z4) ?_ ?_ h
        · simp [m_doY, hsV, k, pV0, pV1, pV2, pV3, c17, g3.1, g3.2, z3]
        · simp [m_doM, hsV, k, pV0, pV1, pV2, pV3, c17, g3.1, g3.2, z5]
    · refine F V (by simp [q_tkO, k, q_im, c17, q_mtY, g]) (by simp [q_tkA, k, q_im, c17, q_mtM, g]) ?_ ?_ h
      · by_cases g3 : -1 ≤ q_pr A r 3 ∧ q_pr A r 3 ≤ 9
        · have nG : m_anG V r (q_pr A r 2) = 0 := by
            unfold m_anG
            rw [if_neg (fun q => g (hG.mpr ⟨q.2.1, g3⟩))]
          simp [m_doY, hsV, k, pV0, pV1, pV2, pV3, c17, g3.1, g3.2, m_anY, nG]
        · simp only [m_doY, hsV, k, pV0, pV1, pV2, pV3, c17, if_neg g3]
          simp
      · by_cases g3 : -1 ≤ q_pr A r 3 ∧ q_pr A r 3 ≤ 9
        · have nG : m_anG V r (q_pr A r 2) = 0 := by
            unfold m_anG
            rw [if_neg (fun q => g (hG.mpr ⟨q.2.1, g3⟩))]
          simp [m_doM, hsV, k, pV0, pV1, pV2, pV3, c17, g3.1, g3.2, m_anM, nG]
        · simp only [m_doM, hsV, k, pV0, pV1, pV2, pV3, c17, if_neg g3]
          simp
  have him : q_im A r = 0 := by unfold q_im; rw [if_neg (by omega)]
  have tO : q_tkO A r = q_wkY A r := by simp [q_tkO, k, him]
  have tA : q_tkA A r = q_wkM A r := by simp [q_tkA, k, him]
  have hself : ∀ X : mj_M, mj_up X 26 r (X 26 r) = X := fun X => mj_up_self rfl
  have af0 : z_af 8 A V A V := z_af_no hS h.2.1 h.2.2.1 h.2.2.2 (fun _ _ _ => rfl) (fun _ _ _ => rfl) rfl rfl
  by_cases c0 : q_pr A r 0 = 0
  · obtain ⟨s1, s2, s3⟩ := z_endS hS hr (by omega)
    have hF2 := z_F_c h.2.1 (s2.1 130 (by omega)) (s2.1 131 (by omega))
    have hH2 := z_HT_c h.2.2.1 (s2.1 14 (by omega)) (s2.1 3 (by omega)) (s2.1 4 (by omega))
    have hne : ¬ (A 30 r ≠ -1 ∧ r = (A 30 r).toNat) := fun q => (z_Q_u hRR.2.2.1 hS.1.1 hr q.1).1 q.2.symm
    have e30 := (z_R_30 hRR.1 hr8).1
    have f := z_paS (r := r) (x := q_end A r 3 26 r) (N := A 25 r + 1) s1 hF2 hH2 hr8 (by rw [s2.2.2.2.2.2.1, if_pos rfl])
    rw [hself, z_swp_no s1 hF2 hH2 (by rw [s2.1 130 (by omega)]; exact h.2.2.2)] at f
    have y25 : m_en V r 3 25 r = A 25 r := by rw [s3.2.2.1, e30, if_neg hne]; exact e25
    have y26 : q_end A r 3 26 r = m_en V r 3 26 r := by rw [s3.2.2.2.1, s2.2.2.2.1, e30, if_neg hne, if_neg hne]; exact e26.symm
    rw [y26, hself] at f
    refine G (mj_up (q_end A r 3) 25 r (A 25 r + 1)) (m_en V r 3) ?_ ?_ ?_ ?_ ?_
    · rw [tO]; simp [q_wkY, c0]
    · rw [tA]; simp [q_wkM, q_wkY, q_wkB, q_wkN, c0]
    · simp [m_doY, hsV, k, pV0, c0]
    · simp [m_doM, hsV, k, pV0, c0]
    · rw [y25, hN1]; exact f
  by_cases c1 : q_pr A r 0 = 1
  · refine G (mj_up (mj_up A 26 r (q_pr A r 1)) 25 r (A 25 r + 1)) (mj_up V 26 r (q_pr A r 1)) ?_ ?_ ?_ ?_ ?_
    · rw [tO]; simp [q_wkY, c1]
    · rw [tA]; simp [q_wkM, q_wkY, q_wkB, q_wkN, c1]
    · simp [m_doY, hsV, k, pV0, c1]
    · simp [m_doM, hsV, k, pV0, pV1, c1]
    · rw [mj_up_ne (by omega), e25, hN1]; exact z_paF af0 hr8 hr29
  by_cases c2 : q_pr A r 0 = 2
  · refine G (mj_up (mj_up A 26 r (mj_w (A 26 r + q_pr A r 1))) 25 r (A 25 r + 1)) (mj_up V 26 r (mj_w (A 26 r + q_pr A r 1))) ?_ ?_ ?_ ?_ ?_
    · rw [tO]; simp [q_wkY, c2]
    · rw [tA]; simp [q_wkM, q_wkY, q_wkB, q_wkN, c2]
    · simp [m_doY, hsV, k, pV0, c2]
    · simp [m_doM, hsV, k, pV0, pV1, c2, e26]
    · rw [mj_up_ne (by omega), e25, hN1]; exact z_paF af0 hr8 hr29
  by_cases c3 : q_pr A r 0 = 3
  · by_cases q : A 26 r = 0
    · refine G (mj_up A 25 r (A 25 r + 1)) V ?_ ?_ ?_ ?_ ?_
      · rw [tO]; simp [q_wkY, c3]
      · rw [tA]; simp [q_wkM, q_wkY, q_wkB, q_wkN, c3, q]
      · simp [m_doY, hsV, k, pV0, c3, e26, q]
      · simp [m_doM, hsV, k, pV0, pV1, c3, e26, q]
      · have f := z_paF (r := r) (x := A 26 r) (N := A 25 r + 1) af0 hr8 hr29
        rw [hself, ← e26, hself] at f
        rw [e25, hN1]; exact f
    · refine H (mj_up A 25 r (q_pr A r 1)) (mj_up V 25 r (q_pr A r 1)) ?_ ?_ ?_ ?_ ?_
      · rw [tO]; simp [q_wkY, c3]
      · rw [tA]; simp [q_wkM, q_wkY, q_wkB, q_wkN, c3, q]
      · simp [m_doY, hsV, k, pV0, c3, e26, q]
      · simp [m_doM, hsV, k, pV0, pV1, c3, e26, q]
      · have f := z_paF (r := r) (x := A 26 r) (N := q_pr A r 1) af0 hr8 hr29
        rw [hself, ← e26, hself] at f
        exact f
  by_cases c4 : q_pr A r 0 = 4
  · obtain ⟨z1, z2, z3⟩ := z_load (a := q_pr A r 1) h hy hy14
    by_cases q : q_ro A (A 23 r) (q_pr A r 1) = 1
    · obtain ⟨z4, z5⟩ := z2 q
      have qV := z1.symm.trans q
      obtain ⟨p1, p2, p3, p4⟩ := z_af_pa hS z4 hr8 hr29
      refine G (mj_up (mj_up (q_roM A (A 23 r) (q_pr A r 1)) 26 r (m_ldV V (A 23 r) (q_pr A r 1))) 25 r (A 25 r + 1)) (mj_up (m_ldM V (A 23 r) (q_pr A r 1)) 26 r (m_ldV V (A 23 r) (q_pr A r 1))) ?_ ?_ ?_ ?_ ?_
      · rw [tO]; simp [q_wkY, c4, q]
      · rw [tA, ← z5]; simp [q_wkM, q_wkY, q_wkB, q_wkN, c4, q]
      · simp [m_doY, hsV, k, pV0, pV1, c4, e23, qV]
      · simp [m_doM, hsV, k, pV0, pV1, c4, e23, qV]
      · rw [mj_up_ne (by omega), p1, hN1]; exact z_paF z4 hr8 hr29
    · obtain ⟨z4, z5⟩ := z3 q
      have q0 : q_ro A (A 23 r) (q_pr A r 1) = 0 := by have := q_ro_01 (M := A) (b := A 23 r) (s := q_pr A r 1); omega
      have qV := z1.symm.trans q0
      refine F V ?_ ?_ ?_ ?_ h
      · rw [tO]; simp [q_wkY, c4, q0]
      · rw [tA]; simp [q_wkM, q_wkY, c4, q0]
      · simp [m_doY, hsV, k, pV0, pV1, c4, e23, qV]
      · simp [m_doM, hsV, k, pV0, pV1, c4, e23, qV]
  by_cases c5 : q_pr A r 0 = 5
  · obtain ⟨z1, z2, z3⟩ := z_store (a := q_pr A r 1) (v := A 26 r) h hy hy14 hfA hfV
    by_cases q : q_wi A (A 23 r) (q_pr A r 1) = 1
    · have z4 := z2 q
      have qV := z1.symm.trans q
      obtain ⟨p1, p2, p3, p4⟩ := z_af_pa hS z4 hr8 hr29
      refine G (mj_up (q_wiM A (A 23 r) (q_pr A r 1) (A 26 r)) 25 r (A 25 r + 1)) (m_stM V (A 23 r) (q_pr A r 1) (A 26 r)) ?_ ?_ ?_ ?_ ?_
      · rw [tO]; simp [q_wkY, c5, q]
      · rw [tA]; simp [q_wkM, q_wkY, q_wkB, q_wkN, c5, q]
      · simp [m_doY, hsV, k, pV0, pV1, c5, e23, qV]
      · simp [m_doM, hsV, k, pV0, pV1, c5, e23, e26]
      · have f := z_paF (r := r) (x := A 26 r) (N := A 25 r + 1) z4 hr8 hr29
        rw [mj_up_self p4, mj_up_self p2] at f
        rw [p1, hN1]; exact f
    · obtain ⟨z4, z5⟩ := z3 q
      have q0 : q_wi A (A 23 r) (q_pr A r 1) = 0 := by have := q_wi_01 (M := A) (b := A 23 r) (s := q_pr A r 1); omega
      have qV := z1.symm.trans q0
      refine F V ?_ ?_ ?_ ?_ h
      · rw [tO]; simp [q_wkY, c5, q0]
      · rw [tA]; simp [q_wkM, q_wkY, c5, q0]
      · simp [m_doY, hsV, k, pV0, pV1, c5, e23, qV]
      · simp [m_doM, hsV, k, pV0, pV1, c5, e23, e26, z5]
  -- acts
  have hk0 : ∀ P Q : Int, (if 0 ≤ q_pr A r 0 ∧ q_pr A r 0 ≤ 3 then P else Q) = Q := fun P Q => if_neg (by omega)
  obtain ⟨z1, z2, z3⟩ := z_acts (what := q_pr A r 0) (a := q_pr A r 1) (b := q_pr A r 2) (c := q_pr A r 3) h hy hy14 ⟨by omega, by omega⟩
  by_cases qa : q_act (q_pr A r 0) = 1
  · have c20 : q_pr A r 0 ≠ 20 := by intro q; rw [q] at qa; exact absurd qa (by decide)
    by_cases q : q_prf A (A 23 r) (q_pr A r 0) (q_pr A r 1) (q_pr A r 2) (q_pr A r 3) = 1
    · have z4 := z2 q
      have qV := z1.symm.trans q
      obtain ⟨p1, p2, p3, p4⟩ := z_af_pa hS z4 hr8 hr29
      refine G (mj_up (q_prfM A (A 23 r) (q_pr A r 0) (q_pr A r 1) (q_pr A r 2) (q_pr A r 3)) 25 r (A 25 r + 1)) (m_acM V (A 23 r) (q_pr A r 0) (q_pr A r 1) (q_pr A r 2) (q_pr A r 3)) ?_ ?_ ?_ ?_ ?_
      · rw [tO]; simp [q_wkY, c4, c5, qa, q, hk0]
      · rw [tA]; simp [q_wkM, q_wkY, q_wkB, q_wkN, c0, c1, c2, c3, c4, c5, qa, q, hk0]
      · simp [m_doY, hsV, k, pV0, pV1, pV2, pV3, c0, c1, c2, c3, c4, c5, c15, c16, c17, c20, e23, qV]
      · simp [m_doM, hsV, k, pV0, pV1, pV2, pV3, c0, c1, c2, c3, c4, c5, c15, c16, c17, c20, e23]
      · have f := z_paF (r := r) (x := A 26 r) (N := A 25 r + 1) z4 hr8 hr29
        rw [mj_up_self p4, mj_up_self p2] at f
        rw [p1, hN1]; exact f
    · obtain ⟨z4, z5⟩ := z3 q
      have q0 : q_prf A (A 23 r) (q_pr A r 0) (q_pr A r 1) (q_pr A r 2) (q_pr A r 3) = 0 := by have := q_prf_01 (M := A) (bx := A 23 r) (k := q_pr A r 0) (a := q_pr A r 1) (b := q_pr A r 2) (c := q_pr A r 3); omega
      have qV := z1.symm.trans q0
      refine F V ?_ ?_ ?_ ?_ h
      · rw [tO]; simp [q_wkY, c4, c5, qa, q0, hk0]
      · rw [tA]; simp [q_wkM, q_wkY, c4, c5, qa, q0, hk0]
      · simp [m_doY, hsV, k, pV0, pV1, pV2, pV3, c0, c1, c2, c3, c4, c5, c15, c16, c17, c20, e23, qV]
      · simp [m_doM, hsV, k, pV0, pV1, pV2, pV3, c0, c1, c2, c3, c4, c5, c15, c16, c17, c20, e23, z5]
  · have qn : ¬ ((6 ≤ q_pr A r 0 ∧ q_pr A r 0 ≤ 14) ∨ q_pr A r 0 = 18 ∨ q_pr A r 0 = 19) := by
      intro q; apply qa; unfold q_act; rw [if_pos q]
    have a0 : q_act (q_pr A r 0) = 0 := by have := q_act_01 (k := q_pr A r 0); omega
    have n20 : q_pr A r 0 ≠ 20 → m_ac V (A 23 r) (q_pr A r 0) (q_pr A r 1) (q_pr A r 2) (q_pr A r 3) = 0 ∧ m_acM V (A 23 r) (q_pr A r 0) (q_pr A r 1) (q_pr A r 2) (q_pr A r 3) = V := by
      intro c20
      refine ⟨?_, ?_⟩
      · unfold m_ac
        repeat rw [if_neg (by omega)]
      · unfold m_acM
        repeat rw [if_neg (by omega)]
    refine F V ?_ ?_ ?_ ?_ h
    · rw [tO]; simp [q_wkY, c4, c5, a0, hk0]
    · rw [tA]; simp [q_wkM, q_wkY, c4, c5, a0, hk0]
    · by_cases c20 : q_pr A r 0 = 20
      · simp [m_doY, hsV, k, pV0, c20]
      · simp [m_doY, hsV, k, pV0, pV1, pV2, pV3, c0, c1, c2, c3, c4, c5, c15, c16, c17, c20, e23, (n20 c20).1]
    · by_cases c20 : q_pr A r 0 = 20
      · simp [m_doM, hsV, k, pV0, c20]
      · simp [m_doM, hsV, k, pV0, pV1, pV2, pV3, c0, c1, c2, c3, c4, c5, c15, c16, c17, c20, e23, (n20 c20).2]
end re32
