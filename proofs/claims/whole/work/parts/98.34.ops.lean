section op25
variable {A B C M N S T V W X Y M' V' A' : mj_M} {x : Nat} {n m : Int} {e e' : Nat}
/-- what is read stays -/
theorem mj_up_k {a i b j : Nat} {v : Int} (h : b ≠ a ∨ j ≠ i) : mj_up M a i v b j = M b j := by
  by_cases c : b = a
  · subst c; rw [mj_up_at, if_neg (by omega)]
  · rw [mj_up_ne c]
theorem q_rpA_k {k : Int} {r j : Nat} (h : r ≠ 157) (hj : (r < 158 ∨ 161 < r) ∨ j ≠ (M 157 9).toNat) : q_rpA M k r j = M r j := by unfold q_rpA; exact mj_up_k (by omega)
theorem q_rpB_k {cs : List Int} {k : Int} {r j : Nat} (h : r ≠ 157) (hj : (r < 158 ∨ 161 < r) ∨ j ≠ (M 157 9).toNat) : q_rpB cs M k r j = M r j := by unfold q_rpB; rw [q_wdM_7 h]; exact q_rpA_k h hj
theorem q_rpX_k {r j : Nat} (h : r ≠ 157) (hj : (r < 158 ∨ 161 < r) ∨ j ≠ (M 157 9).toNat) : q_rpX M r j = M r j := by unfold q_rpX; rw [mj_up_k (by omega), q_nmM_7 h]
theorem q_rpY_k {r j : Nat} (h : r ≠ 157) (hj : (r < 158 ∨ 161 < r) ∨ j ≠ (M 157 9).toNat) : q_rpY M r j = M r j := by unfold q_rpY; rw [mj_up_k (by omega), q_nmM_7 h]
theorem q_rpT_k {r j : Nat} (h : r ≠ 157) (hj : (r < 158 ∨ 161 < r) ∨ j ≠ (M 157 9).toNat) : q_rpT M r j = M r j := by unfold q_rpT; rw [mj_up_k (by omega), q_rtM_7 h]
theorem q_rpM_k {cs : List Int} {k : Int} {r j : Nat} (h : r ≠ 157) (hj : (r < 158 ∨ 161 < r) ∨ j ≠ (M 157 9).toNat) : q_rpM cs M k r j = M r j := by
  have eB : q_rpB cs M k 157 9 = M 157 9 := (q_rpB_sp (M := M) (cs := cs) (k := k)).2.1
  have eX : q_rpX (q_rpB cs M k) 157 9 = M 157 9 := (q_rpX_sp (M := q_rpB cs M k)).2.1.trans eB
  have eY : q_rpY (q_rpX (q_rpB cs M k)) 157 9 = M 157 9 := (q_rpY_sp (M := q_rpX (q_rpB cs M k))).2.1.trans eX
  have kB : q_rpB cs M k r j = M r j := q_rpB_k h hj
  have kX : q_rpX (q_rpB cs M k) r j = M r j := (q_rpX_k h (by rw [eB]; exact hj)).trans kB
  have kY : q_rpY (q_rpX (q_rpB cs M k)) r j = M r j := (q_rpY_k h (by rw [eX]; exact hj)).trans kX
  unfold q_rpM
  split
  · exact kB
  · split
    · rw [q_nmM_7 h]; exact kB
    · split
      · rw [q_nmM_7 h]; exact kX
      · split
        · exact kY
        · exact (q_rpT_k h (by rw [eY]; exact hj)).trans kY
theorem q_sttM_k {r j : Nat} (h : r ≠ 157) (hj : (r < 158 ∨ 161 < r) ∨ j ≠ (M 157 9).toNat) : q_sttM M r j = M r j := by
  unfold q_sttM
  split
  · exact q_rpM_k h hj
  · split
    · exact q_rpM_k h hj
    · exact q_rpM_k h hj
theorem q_sz1_7 {r : Nat} (h : r ≠ 157) : q_sz1 M r = M r := mj_up_ne h
theorem q_psM_k {r j : Nat} (h : r ≠ 157) : ∀ (k : Nat) (S : mj_M), 0 ≤ S 157 9 → ((r < 158 ∨ 161 < r) ∨ (j : Int) < S 157 9) → q_psM k S r j = S r j := by
  intro k
  induction k with
  | zero => intro S _ _; rfl
  | succ k ih =>
    intro S h0 hj
    have e : q_sttM S r j = S r j := q_sttM_k h (by omega)
    have e1 : q_sz1 (q_sttM S) r j = S r j := by rw [q_sz1_7 h]; exact e
    have n1 : q_at1 (q_sz1 (q_sttM S)) 157 9 = S 157 9 + 1 := by unfold q_at1 q_sz1; rw [mj_up_at, if_neg (by omega), mj_up_at, if_pos rfl, (q_sttM_sp (M := S)).2.1]
    rw [q_psM]
    split
    · exact e
    · split
      · exact e1
      · split
        · exact e1
        · rw [ih _ (by omega) (by omega), q_at1_7 h]; exact e1
/-- how many statements at most -/
theorem q_psM_9 : ∀ (k : Nat) (S : mj_M), q_psR k S = -1 → 0 ≤ S 157 9 → 2 * S 157 9 ≤ S 157 7 → S 157 7 ≤ S 157 6 → S 157 6 ≤ 160 → q_psM k S 157 9 ≤ 160 := by
  intro k
  induction k with
  | zero => intro S h _ _ _ _; exact absurd h (show ¬ (0 : Int) = -1 by decide)
  | succ k ih =>
    intro S h h9 h7 h76 h6
    have sS := q_sttM_sp (M := S)
    have kS := sS.2.2.2.1 h76
    have e6 : q_sttM S 157 6 = S 157 6 := sS.1
    have e9 : q_sttM S 157 9 = S 157 9 := sS.2.1
    have g7 := sS.2.2.1
    have z9 : q_sz1 (q_sttM S) 157 9 = S 157 9 + 1 := by unfold q_sz1; rw [mj_up_at, if_pos rfl, e9]
    have z7 : q_sz1 (q_sttM S) 157 7 = q_sttM S 157 7 := by unfold q_sz1; rw [mj_up_at, if_neg (by omega)]
    have z6 : q_sz1 (q_sttM S) 157 6 = S 157 6 := by unfold q_sz1; rw [mj_up_at, if_neg (by omega), e6]
    rw [q_psR] at h
    rw [q_psM]
    rcases q_stt_01 (M := S) with c | ⟨c, c4⟩
    · rw [if_pos c] at h; omega
    · have nc : ¬ q_stt S = 0 := by omega
      rw [if_neg nc] at h
      rw [if_neg nc]
      by_cases c1 : q_sz1 (q_sttM S) 157 6 ≤ q_sz1 (q_sttM S) 157 7
      · rw [if_pos c1, z9]; omega
      · rw [if_neg c1] at h
        rw [if_neg c1]
        rcases q_nx_01 (M := q_sz1 (q_sttM S)) (c := 59) with c2 | ⟨c2, c3, -⟩
        · rw [if_pos c2] at h; omega
        · have n2 : ¬ q_nx (q_sz1 (q_sttM S)) 59 = 0 := by omega
          rw [if_neg n2] at h
          rw [if_neg n2]
          have a9 : q_at1 (q_sz1 (q_sttM S)) 157 9 = S 157 9 + 1 := by unfold q_at1; rw [mj_up_at, if_neg (by omega), z9]
          have a7 : q_at1 (q_sz1 (q_sttM S)) 157 7 = q_sttM S 157 7 + 1 := by unfold q_at1; rw [mj_up_at, if_pos rfl, z7]
          have a6 : q_at1 (q_sz1 (q_sttM S)) 157 6 = S 157 6 := by unfold q_at1; rw [mj_up_at, if_neg (by omega), z6]
          exact ih _ h (by omega) (by omega) (by omega) (by omega)
/-- the statements are done, on both sides -/
theorem z_pf : ∀ (k i : Nat) (S X B V : mj_M) (n kk : Int), z_t S X → S 157 9 = (i : Int) → X 172 9 < X 172 10 + k → q_psR k S = -1 → z_I n B V → (∀ r j : Nat, 158 ≤ r → r ≤ 161 → i ≤ j → (j : Int) < q_psM k S 157 9 → B r j = q_psM k S r j) →
    ∃ m : Nat, q_psM k S 157 9 = (i : Int) + m ∧ ((q_pf m i B = 0 ∧ m_gdR k kk V X = -1) ∨ (q_pf m i B = 1 ∧ m_gdR k kk V X = kk + m ∧ z_I n (q_pfM m i B) (m_gdV k V X))) ∧ m_cR V (m_gdV k V X) ∧ (∀ a, (a < 3 ∨ (12 < a ∧ a < 36) ∨ 42 < a) → q_pfM m i B a = B a) := by
  intro k
  induction k with
  | zero => intro i S X B V n kk h _ hl; have := h.2.2.2.1.1; omega
  | succ k ih =>
    intro i S X B V n kk h h9 hl hR hI hrow
    have n10 : ¬ ((1 : Int) = 0) := by omega
    have n01 : ¬ ((0 : Int) = 1) := by omega
    have gt : m_gtM (k + 1) X 172 11 = 0 := by
      rcases z_t_ps (k + 1) i S X h h9 hl with ⟨-, q⟩ | ⟨q1, q2⟩
      · exact q
      · have t := (m_gtM_tx (k + 1) X h.2.2.2.1).1.1
        omega
    have s0 : m_stt X 172 11 = 0 := by
      refine Classical.byContradiction fun q => ?_
      rw [m_gtM, if_neg q] at gt
      exact q gt
    rcases z_t_st h9 h with ⟨s1, s2, s3⟩ | ⟨-, s2, -⟩ | ⟨-, s2⟩
    rotate_left
    · exact absurd s2.2 (by omega)
    · exact absurd s2.2 (by omega)
    have hz : z_t (q_sz1 (q_sttM S)) (m_stt X) := by unfold q_sz1; exact z_t_up s2 (by omega) (by omega)
    have nx := z_t_nx (c := 59) hz (by omega)
    have v : q_psR (k + 1) S = if q_stt S = 0 then q_sttM S 157 7 else if q_sz1 (q_sttM S) 157 6 ≤ q_sz1 (q_sttM S) 157 7 then -1 else if q_nx (q_sz1 (q_sttM S)) 59 = 0 then q_sz1 (q_sttM S) 157 7 else q_psR k (q_at1 (q_sz1 (q_sttM S))) := rfl
    have vM : q_psM (k + 1) S = if q_stt S = 0 then q_sttM S else if q_sz1 (q_sttM S) 157 6 ≤ q_sz1 (q_sttM S) 157 7 then q_sz1 (q_sttM S) else if q_nx (q_sz1 (q_sttM S)) 59 = 0 then q_sz1 (q_sttM S) else q_psM k (q_at1 (q_sz1 (q_sttM S))) := rfl
    rw [s1, if_neg n10, nx, hz.1, hz.2.1] at v vM
    have z9 : q_sz1 (q_sttM S) 157 9 = (i : Int) + 1 := by unfold q_sz1; rw [mj_up_at, if_pos rfl, (q_sttM_sp (M := S)).2.1, h9]
    obtain ⟨v1, v2, v3, v4⟩ := s3
    have dn : (∀ r, 158 ≤ r → r ≤ 161 → B r i = q_sttM S r i) → q_po B i = m_idR V (m_stt X) ∧ (q_po B i = 1 → z_I n (q_poM B i) (m_idV V (m_stt X))) := fun hb =>
      z_po hI (by rw [hb 158 (by omega) (by omega)]; exact v1) (by rw [hb 159 (by omega) (by omega)]; exact v2) (by rw [hb 160 (by omega) (by omega)]; exact v3) (fun q => by rw [hb 161 (by omega) (by omega)]; exact v4 q) m_stt_k m_stt_15
    have gR : m_gdR (k + 1) kk V X = if m_idR V (m_stt X) = 0 then -1 else if m_stt X 172 10 < m_stt X 172 9 then (if m_sg (m_stt X) 59 172 11 = 0 then m_gdR k (kk + 1) (m_idV V (m_stt X)) (m_sg (m_stt X) 59) else kk + 1) else kk + 1 := by
      rw [m_gdR, if_pos s0]
    have gV : m_gdV (k + 1) V X = if m_idR V (m_stt X) = 0 then V else if m_stt X 172 10 < m_stt X 172 9 then (if m_sg (m_stt X) 59 172 11 = 0 then m_gdV k (m_idV V (m_stt X)) (m_sg (m_stt X) 59) else m_idV V (m_stt X)) else m_idV V (m_stt X) := by
      rw [m_gdV, if_pos s0]
    by_cases c2 : m_stt X 172 10 < m_stt X 172 9
    · have c2n : ¬ m_stt X 172 9 ≤ m_stt X 172 10 := by omega
      rw [if_neg c2n] at v vM
      have sg : m_sg (m_stt X) 59 = if m_by (m_stt X) = 59 then m_p1 (m_stt X) else m_bad (m_stt X) := by unfold m_sg; rw [if_neg (by omega)]
      have t0 := (m_stt_tx h.2.2.2.1).1.1
      by_cases c3 : m_by (m_stt X) = 59
      rotate_left
      · exfalso
        rw [if_neg c3, if_pos rfl] at v
        omega
      rw [if_pos c3, if_neg n10] at v vM
      have p := z_t_p1 hz c2
      have p11 : m_p1 (m_stt X) 172 11 = 0 := p.2.2.2.2
      rw [if_pos c3] at sg
      rw [sg, if_pos p11, if_pos c2] at gR gV
      have f9 : m_stt X 172 9 = X 172 9 := m_stt_fs.2 9 (by omega)
      have ps := m_stt_ps (M := X)
      unfold m_pm at ps
      have a9 : q_at1 (q_sz1 (q_sttM S)) 157 9 = ((i + 1 : Nat) : Int) := by
        unfold q_at1
        rw [mj_up_at, if_neg (by omega), z9]
        push_cast
        rfl
      have hl' : m_p1 (m_stt X) 172 9 < m_p1 (m_stt X) 172 10 + k := by rw [m_p1_at, m_p1_at, if_neg (by omega), if_pos rfl, f9]; omega
      have hR' : q_psR k (q_at1 (q_sz1 (q_sttM S))) = -1 := by rw [← v]; exact hR
      rw [vM] at hrow ⊢
      obtain ⟨m, m1, m2, m3, m4⟩ := ih (i + 1) _ _ B V n (kk + 1) p a9 hl' hR' hI (fun r j q1 q2 q3 q4 => hrow r j q1 q2 (by omega) q4)
      have hb : ∀ r, 158 ≤ r → r ≤ 161 → B r i = q_sttM S r i := by
        intro r q1 q2
        rw [hrow r i q1 q2 (by omega) (by rw [m1]; push_cast; omega), q_psM_k (by omega) k _ (by rw [a9]; omega) (by rw [a9]; right; push_cast; omega), q_at1_7 (by omega), q_sz1_7 (by omega)]
      obtain ⟨d1, d2⟩ := dn hb
      have pf : q_pf (m + 1) i B = if q_po B i = 1 then q_pf m (i + 1) (q_poM B i) else 0 := rfl
      have pfM : q_pfM (m + 1) i B = if q_po B i = 1 then q_pfM m (i + 1) (q_poM B i) else q_poM B i := rfl
      refine ⟨m + 1, by rw [m1]; push_cast; omega, ?_⟩
      rcases m_idR_01 (V := V) (M := m_stt X) with c0 | c0
      · rw [if_pos c0] at gR gV
        have nd : ¬ q_po B i = 1 := by omega
        rw [if_neg nd] at pf pfM
        rw [pf, gR, gV, pfM]
        exact ⟨Or.inl ⟨rfl, rfl⟩, m_cR_r, fun a q => q_poM_fr2 q⟩
      · have n0 : ¬ m_idR V (m_stt X) = 0 := by omega
        rw [if_neg n0] at gR gV
        have pd : q_po B i = 1 := by omega
        rw [if_pos pd] at pf pfM
        rw [pf, gR, gV, pfM]
        obtain ⟨m', m1', m2', m3', m4'⟩ := ih (i + 1) _ _ (q_poM B i) (m_idV V (m_stt X)) n (kk + 1) p a9 hl' hR' (d2 pd) (fun r j q1 q2 q3 q4 => by rw [q_poM_fr (by omega)]; exact hrow r j q1 q2 (by omega) q4)
        have em : m' = m := by omega
        rw [em] at m2' m4'
        refine ⟨?_, m_cR_t m_idV_R m3', fun a q => by rw [m4' a q, q_poM_fr2 q]⟩
        rcases m2' with ⟨g1, g2⟩ | ⟨g1, g2, g3⟩
        · exact Or.inl ⟨g1, g2⟩
        · exact Or.inr ⟨g1, by rw [g2]; push_cast; omega, g3⟩
    · have c2n : m_stt X 172 9 ≤ m_stt X 172 10 := by omega
      rw [if_pos c2n] at v vM
      rw [if_neg c2] at gR gV
      rw [vM] at hrow ⊢
      have hb : ∀ r, 158 ≤ r → r ≤ 161 → B r i = q_sttM S r i := by
        intro r q1 q2
        rw [hrow r i q1 q2 (by omega) (by rw [z9]; omega), q_sz1_7 (by omega)]
      obtain ⟨d1, d2⟩ := dn hb
      refine ⟨1, by rw [z9]; rfl, ?_⟩
      have pf : q_pf 1 i B = if q_po B i = 1 then 1 else 0 := rfl
      have pfM : q_pfM 1 i B = if q_po B i = 1 then q_poM B i else q_poM B i := rfl
      rcases m_idR_01 (V := V) (M := m_stt X) with c0 | c0
      · rw [if_pos c0] at gR gV
        have nd : ¬ q_po B i = 1 := by omega
        rw [if_neg nd] at pf pfM
        rw [pf, gR, gV, pfM]
        exact ⟨Or.inl ⟨rfl, rfl⟩, m_cR_r, fun a q => q_poM_fr2 q⟩
      · have n0 : ¬ m_idR V (m_stt X) = 0 := by omega
        rw [if_neg n0] at gR gV
        have pd : q_po B i = 1 := by omega
        rw [if_pos pd] at pf pfM
        rw [pf, gR, gV, pfM]
        exact ⟨Or.inr ⟨rfl, rfl, d2 pd⟩, m_idV_R, fun a q => q_poM_fr2 q⟩
end op25
