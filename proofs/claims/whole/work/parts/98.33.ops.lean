section op24
variable {A B C M N S T V W X Y M' V' A' : mj_M} {x : Nat} {n m : Int} {e e' : Nat}
/-- the wishes change -/
theorem z_SW_ws (h : z_SW e A V) (w : q_wr A') (wV : q_wr V') (oA : ∀ a, (a < 36 ∨ 41 < a) → A' a = A a) (oV : ∀ a, (a < 36 ∨ 41 < a) → a ≠ 214 → a ≠ 215 → V' a = V a) (hW : z_W A' V') : z_SW e A' V' := by
  obtain ⟨s1, s2, s3, s4, s5, s6, s7, s8, s9, s10, s11, s12, s13, s14, s15, s16, s17, s18⟩ := h
  have a : ∀ k, (k < 36 ∨ 41 < k) → k ≠ 1 → A' k = A k := fun k q _ => oA k q
  have v : ∀ k, ((k < 36 ∨ 41 < k) ∧ k ≠ 214 ∧ k ≠ 215) → k ≠ 1 → k ≠ 201 → V' k = V k := fun k q _ _ => oV k q.1 q.2.1 q.2.2
  have h8 : A' 1 8 = A 1 8 := by rw [oA 1 (by omega)]
  refine ⟨z_pre_c s1 w (a 3 (by omega) (by omega)) (a 7 (by omega) (by omega)) (a 131 (by omega) (by omega)), ?_, z_tb_c s3 (a 3 (by omega) (by omega)) (a 8 (by omega) (by omega)) (a 9 (by omega) (by omega)) (a 42 (by omega) (by omega)), z_rm_c s4 (a 3 (by omega) (by omega)) (a 6 (by omega) (by omega)) h8, by rw [a 42 (by omega) (by omega), v 42 (by omega) (by omega) (by omega)]; exact s5,
    z_Mk_c s6 (a 3 (by omega) (by omega)) (a 131 (by omega) (by omega)) (v 131 (by omega) (by omega) (by omega)), m_ok_same s7 wV (v 7 (by omega) (by omega) (by omega)) (v 212 (by omega) (by omega) (by omega)), ?_, ?_, ?_, ?_, ?_, hW, ?_, z_TH_c s15 (a 3 (by omega) (by omega)) (a 4 (by omega) (by omega)) (a 14 (by omega) (by omega)), z_TB_c s16 (a 3 (by omega) (by omega)) (a 14 (by omega) (by omega)) (a 8 (by omega) (by omega)) (a 131 (by omega) (by omega)), z_TR_c s17 (a 3 (by omega) (by omega)) (a 5 (by omega) (by omega)) (a 4 (by omega) (by omega)) (a 12 (by omega) (by omega)), z_PR_c s18 (a 9001 (by omega) (by omega))⟩
  · exact z_T_c s2 (a 3 (by omega) (by omega)) (a 4 (by omega) (by omega)) (a 5 (by omega) (by omega)) (a 6 (by omega) (by omega)) (a 7 (by omega) (by omega)) (a 8 (by omega) (by omega)) (a 9 (by omega) (by omega)) (a 10 (by omega) (by omega)) (a 11 (by omega) (by omega)) (a 12 (by omega) (by omega)) (v 212 (by omega) (by omega) (by omega)) (v 3 (by omega) (by omega) (by omega)) (v 4 (by omega) (by omega) (by omega)) (v 5 (by omega) (by omega) (by omega)) (v 6 (by omega) (by omega) (by omega)) (v 7 (by omega) (by omega) (by omega)) (v 8 (by omega) (by omega) (by omega)) (v 9 (by omega) (by omega) (by omega)) (v 10 (by omega) (by omega) (by omega)) (v 11 (by omega) (by omega) (by omega)) (v 12 (by omega) (by omega) (by omega))
  · exact z_H_c s8 (a 14 (by omega) (by omega)) (a 15 (by omega) (by omega)) (a 16 (by omega) (by omega)) (a 17 (by omega) (by omega)) (a 18 (by omega) (by omega)) (a 19 (by omega) (by omega)) (v 210 (by omega) (by omega) (by omega)) (v 14 (by omega) (by omega) (by omega)) (v 15 (by omega) (by omega) (by omega)) (v 16 (by omega) (by omega) (by omega)) (v 17 (by omega) (by omega) (by omega)) (v 18 (by omega) (by omega) (by omega)) (v 19 (by omega) (by omega) (by omega))
  · exact z_H2_c s9 (a 14 (by omega) (by omega)) (a 15 (by omega) (by omega)) (a 16 (by omega) (by omega)) (a 17 (by omega) (by omega)) (a 18 (by omega) (by omega)) (a 19 (by omega) (by omega)) (a 3 (by omega) (by omega))
  · exact z_H3_c s10 (a 14 (by omega) (by omega)) (a 17 (by omega) (by omega)) (a 18 (by omega) (by omega)) (a 20 (by omega) (by omega)) (a 21 (by omega) (by omega)) (v 20 (by omega) (by omega) (by omega)) (v 21 (by omega) (by omega) (by omega))
  · exact z_RR_o s11 w (fun k h1 h2 => oA k (by omega)) (fun k h1 h2 => oV k (by omega) (by omega) (by omega)) (by rw [oV 201 (by omega) (by omega) (by omega)])
  · exact z_QH_c s12 (oA 22 (by omega)) (oA 24 (by omega)) (oA 14 (by omega)) (oA 23 (by omega)) (oA 28 (by omega)) (oA 27 (by omega))
  · exact z_G_c s14 (oA 1 (by omega)) (oA 43 (by omega)) (oV 1 (by omega) (by omega) (by omega)) (oV 43 (by omega) (by omega) (by omega))
/-- the first slot that is empty, on both sides -/
theorem z_slo (h42 : ∀ i : Nat, i < 400 → V 42 i = A 42 i) {b : Int} (h : 0 ≤ b ∧ b < 40) (h14 : A 14 b.toNat = 1) : ∀ (n t : Nat), t + n = 10 → (q_sl A b n t = -1 ∧ m_fsl V b n t = 10) ∨ (q_sl A b n t = m_fsl V b n t ∧ 0 ≤ m_fsl V b n t ∧ m_fsl V b n t < 10 ∧ V 42 (10 * b + m_fsl V b n t).toNat = -1) := by
  intro n
  induction n with
  | zero => intro t ht; left; exact ⟨rfl, by unfold m_fsl; omega⟩
  | succ n ih =>
    intro t ht
    have e := z_at h42 (s := (t : Int)) h h14
    have e1 : m_at V b t = V 42 (10 * b + (t : Int)).toNat := by unfold m_at; rw [if_pos (by omega)]
    rw [q_sl_s, m_fsl, e, e1]
    by_cases c : V 42 (10 * b + (t : Int)).toNat = -1
    · rw [if_pos c, if_pos c]
      exact Or.inr ⟨rfl, by omega, by omega, c⟩
    · rw [if_neg c, if_neg c]
      exact ih (t + 1) (by omega)
theorem z_mj_or15 {a b : Int} (ha : 0 ≤ a ∧ a ≤ 15) (hb : 0 ≤ b ∧ b ≤ 8) : 0 ≤ mj_or a b ∧ mj_or a b ≤ 15 := by
  have d : ∀ a : Fin 16, ∀ b : Fin 9, 0 ≤ mj_or (a.val : Int) (b.val : Int) ∧ mj_or (a.val : Int) (b.val : Int) ≤ 15 := by decide +kernel
  have q := d ⟨a.toNat, by omega⟩ ⟨b.toNat, by omega⟩
  simp only [] at q
  rw [show ((a.toNat : Nat) : Int) = a by omega, show ((b.toNat : Nat) : Int) = b by omega] at q
  exact q
theorem m_rgV_in : ∀ (n : Nat) (r : Int) (M : mj_M), 0 ≤ r ∧ r ≤ 15 → 0 ≤ m_rgV n r M ∧ m_rgV n r M ≤ 15 := by
  intro n
  induction n with
  | zero => intro r M h; exact h
  | succ n ih =>
    intro r M h
    have hb := m_rgt_in (c := m_by M)
    rw [m_rgV]
    split
    · exact h
    · split
      · exact h
      · exact ih _ _ (z_mj_or15 h (by omega))
theorem m_stt_15 : 0 ≤ m_stt X 172 15 ∧ m_stt X 172 15 ≤ 15 := by
  unfold m_stt
  generalize m_sb (m_sa (m_wd X)) = Y
  unfold m_sc
  split
  · rw [mj_up_at, if_pos rfl]; omega
  · rw [mj_up_at, if_pos rfl]
    unfold m_rbV m_riV
    split
    · split
      · omega
      · exact m_rgV_in _ _ _ (by omega)
    · omega
theorem m_idV_R : m_cR V (m_idV V Y) := by
  unfold m_idV
  split
  · exact m_cR_r
  · split
    · exact m_put_R
    · unfold m_idW
      exact m_cR_up (m_cR_up (m_cR_up (m_cR_up (m_cR_up (m_cR_up (m_cR_up m_cR_r (by omega)) (by omega)) (by omega)) (by omega)) (by omega)) (by omega)) (by omega)
theorem q_poM_fr2 {i a : Nat} (h : a < 3 ∨ (12 < a ∧ a < 36) ∨ 42 < a) : q_poM M i a = M a := by
  unfold q_poM q_gsM q_put q_waM
  simp only []
  split
  · split
    · split
      · rw [mj_up_ne (by omega), mj_up_ne (by omega), mj_up_ne (by omega), mj_up_ne (by omega), mj_up_ne (by omega), mj_up_ne (by omega), mj_up_ne (by omega), mj_up_ne (by omega), mj_up_ne (by omega), mj_up_ne (by omega), mj_up_ne (by omega)]
      · rfl
    · split
      · rw [mj_up_ne (by omega), mj_up_ne (by omega), mj_up_ne (by omega), mj_up_ne (by omega), mj_up_ne (by omega), mj_up_ne (by omega)]
      · rfl
  · rfl
/-- a wish on both sides -/
theorem z_wish (h : z_Rl 8 A V) {k a b r : Int} (hc : ¬ A 36 5 = 20) (hk : k = 1 ∨ k = 2) (ha : 0 ≤ a ∧ a < 40) (hb : 0 ≤ b ∧ b < 40) (ga : V 210 a.toNat = 1) (gb : V 210 b.toNat = 1) (hA : q_waM A k a b r = A') (e12 : Y 172 12 = k) (e13 : Y 172 13 = a) (e14 : Y 172 14 = b) (e15 : k = 1 → Y 172 15 = r) : z_Rl 8 A' (m_idW V Y) := by
  obtain ⟨hS, hF, hH, h0⟩ := h
  have w := hS.1.1
  have wV := hS.2.2.2.2.2.2.1.1
  have h36 := q_w36_5 w
  obtain ⟨w1, w2, w3⟩ := hS.2.2.2.2.2.2.2.2.2.2.2.2.1
  have eA : A' = mj_up (mj_up (mj_up (mj_up (mj_up (mj_up A 37 (A 36 5).toNat k) 38 (A 36 5).toNat a) 39 (A 36 5).toNat b) 40 (A 36 5).toNat r) 41 (A 36 5).toNat 0) 36 5 (A 36 5 + 1) := by
    rw [← hA]; unfold q_waM; rw [if_pos (by omega)]
  have eV : m_idW V Y = mj_up (mj_up (mj_up (mj_up (mj_up (mj_up (mj_up V 37 (A 36 5).toNat (if k = 1 then 0 else 1)) 38 (A 36 5).toNat a) 39 (A 36 5).toNat b) 40 (A 36 5).toNat (Y 172 15)) 214 (A 36 5).toNat (V 211 a.toNat)) 215 (A 36 5).toNat (V 211 b.toNat)) 36 5 (A 36 5 + 1) := by
    unfold m_idW; rw [w1, e12, e13, e14]
  have wA' : q_wr A' := by rw [← hA]; exact q_waM_w w
  have wV' : q_wr (m_idW V Y) := by
    rw [eV]
    refine q_wr_up (q_wr_up (q_wr_up (q_wr_up (q_wr_up (q_wr_up (q_wr_up wV ?_) ?_) ?_) ?_) ?_) ?_) ?_ <;> simp [q_okv] <;> omega
  have oA : ∀ a, (a < 36 ∨ 41 < a) → A' a = A a := fun a q => by
    rw [eA, mj_up_ne (by omega), mj_up_ne (by omega), mj_up_ne (by omega), mj_up_ne (by omega), mj_up_ne (by omega), mj_up_ne (by omega)]
  have oV : ∀ a, (a < 36 ∨ 41 < a) → a ≠ 214 → a ≠ 215 → m_idW V Y a = V a := fun a q q2 q3 => by
    rw [eV, mj_up_ne (by omega), mj_up_ne (by omega), mj_up_ne (by omega), mj_up_ne (by omega), mj_up_ne (by omega), mj_up_ne (by omega), mj_up_ne (by omega)]
  obtain ⟨u, hu⟩ : ∃ u : Nat, A 36 5 = (u : Int) := ⟨(A 36 5).toNat, by omega⟩
  have hW : z_W A' (m_idW V Y) := by
    have a36 : A' 36 5 = (u : Int) + 1 := by rw [eA, mj_up_at, if_pos rfl, hu]
    have v36 : m_idW V Y 36 5 = (u : Int) + 1 := by rw [eV, mj_up_at, if_pos rfl, hu]
    have a37 : ∀ j, A' 37 j = if j = u then k else A 37 j := fun j => by rw [eA, hu]; simp [mj_up]
    have a38 : ∀ j, A' 38 j = if j = u then a else A 38 j := fun j => by rw [eA, hu]; simp [mj_up]
    have a39 : ∀ j, A' 39 j = if j = u then b else A 39 j := fun j => by rw [eA, hu]; simp [mj_up]
    have a40 : ∀ j, A' 40 j = if j = u then r else A 40 j := fun j => by rw [eA, hu]; simp [mj_up]
    have a41 : ∀ j, A' 41 j = if j = u then 0 else A 41 j := fun j => by rw [eA, hu]; simp [mj_up]
    have v37 : ∀ j, m_idW V Y 37 j = if j = u then (if k = 1 then 0 else 1) else V 37 j := fun j => by rw [eV, hu]; simp [mj_up]
    have v38 : ∀ j, m_idW V Y 38 j = if j = u then a else V 38 j := fun j => by rw [eV, hu]; simp [mj_up]
    have v39 : ∀ j, m_idW V Y 39 j = if j = u then b else V 39 j := fun j => by rw [eV, hu]; simp [mj_up]
    have v40 : ∀ j, m_idW V Y 40 j = if j = u then Y 172 15 else V 40 j := fun j => by rw [eV, hu]; simp [mj_up]
    have v214 : ∀ j, m_idW V Y 214 j = if j = u then V 211 a.toNat else V 214 j := fun j => by rw [eV, hu]; simp [mj_up]
    have v215 : ∀ j, m_idW V Y 215 j = if j = u then V 211 b.toNat else V 215 j := fun j => by rw [eV, hu]; simp [mj_up]
    have v210 : m_idW V Y 210 = V 210 := oV 210 (by omega) (by omega) (by omega)
    have v211 : m_idW V Y 211 = V 211 := oV 211 (by omega) (by omega) (by omega)
    have v201 : m_idW V Y 201 = V 201 := oV 201 (by omega) (by omega) (by omega)
    refine ⟨by rw [a36, v36], by rw [v210, v211, v201]; exact w2, fun j hj => ?_⟩
    rw [a36] at hj
    unfold z_al
    rw [v210, v211, v201, a37, a38, a39, a40, a41, v37, v38, v39, v40, v214, v215]
    by_cases c : j = u
    · simp only [if_pos c]
      refine ⟨by rcases hk with q | q <;> rw [q] <;> rfl, hk, by trivial, by trivial, ha, hb, e15, ⟨fun _ => ⟨ga, gb, by trivial, by trivial⟩, fun _ => by trivial⟩, w2 _ (by omega) ga, w2 _ (by omega) gb⟩
    · simp only [if_neg c]
      exact w3 j (by omega)
  exact ⟨z_SW_ws hS wA' wV' oA oV hW, z_F_c hF (oA 130 (by omega)) (oA 131 (by omega)), z_HT_c hH (oA 14 (by omega)) (oA 3 (by omega)) (oA 4 (by omega)), by rw [oA 130 (by omega)]; exact h0⟩
/-- what a statement says is done, on both sides -/
theorem z_po {i : Nat} (h : z_I n B V) (e12 : B 158 i = Y 172 12) (e13 : B 159 i = Y 172 13) (e14 : B 160 i = Y 172 14) (e15 : Y 172 12 ≠ 2 → B 161 i = Y 172 15) (hk : 0 ≤ Y 172 12 ∧ Y 172 12 ≤ 2) (hr : 0 ≤ Y 172 15 ∧ Y 172 15 ≤ 15) :
    q_po B i = m_idR V Y ∧ (q_po B i = 1 → z_I n (q_poM B i) (m_idV V Y)) := by
  have hRl := h.1
  have hS := hRl.1
  have w := hS.1.1
  have h42 := hS.2.2.2.2.1
  have bx : ∀ y, m_bx V y = q_of B y 1 := fun y => z_bx_e hRl
  have th : ∀ y, m_th V y = q_tht B y := fun y => z_tht_e hRl
  have e36 : V 36 5 = B 36 5 := hS.2.2.2.2.2.2.2.2.2.2.2.2.1.1
  have h36 := q_w36_5 w
  have eK : m_idK V Y = q_sec B i := by
    unfold m_idK q_sec
    rw [e12, e14, bx, th]
  have fin : ∀ A' W, z_Rl 8 A' W → (∀ a, (a < 3 ∨ (12 < a ∧ a < 36) ∨ 42 < a) → A' a = B a) → m_cB V W → z_I n A' W := by
    intro A' W r o c
    refine ⟨r, ?_, m_B_c h.2.2.1 c, q_o_z h.2.2.2 (o 17 (by omega))⟩
    rw [o 1 (by omega)]
    exact z_K_c h.2.1 (o 22 (by omega)) (o 24 (by omega)) (o 30 (by omega)) (o 34 (by omega))
  have p210 : ∀ y : Int, q_tht B y = 1 → 0 ≤ y ∧ y < 40 ∧ B 14 y.toNat ≠ -1 ∧ V 210 y.toNat = 1 := by
    intro y q
    unfold q_tht at q
    split at q
    · rename_i g
      rcases hS.2.2.2.2.2.2.2.1 y.toNat (by omega) with t | t
      · exact absurd t.1 g.2.2
      · exact ⟨g.1, g.2.1, g.2.2, t.2.1⟩
    · omega
  have b2t : ∀ y : Int, q_of B y 1 = 1 → q_tht B y = 1 := by
    intro y q
    have g := q_of_1.mp q
    unfold q_tht
    rw [if_pos ⟨g.1, g.2.1, by omega⟩]
  unfold q_po m_idR
  rw [eK, e12, e13, bx]
  by_cases c1 : q_of B (Y 172 13) 1 = 1
  rotate_left
  · have c1' : q_of B (Y 172 13) 1 = 0 := by have := q_of_01 (M := B) (t := Y 172 13) (v := 1); omega
    rw [if_neg (fun q => c1 q.1), if_pos c1']
    exact ⟨rfl, fun q => by omega⟩
  have n1 : ¬ q_of B (Y 172 13) 1 = 0 := by omega
  rw [if_neg n1]
  by_cases c2 : q_sec B i = 1
  rotate_left
  · have c2' : q_sec B i = 0 := by have := q_sec_01 (M := B) (i := i); omega
    rw [if_neg (fun q => c2 q.2), if_pos c2']
    exact ⟨rfl, fun q => by omega⟩
  have n2 : ¬ q_sec B i = 0 := by omega
  rw [if_neg n2, if_pos ⟨c1, c2⟩]
  have hb := q_of_1.mp c1
  have hsec : q_tht B (Y 172 14) = 1 := by
    unfold q_sec at c2
    rw [e14] at c2
    split at c2
    · exact b2t _ c2
    · exact c2
  obtain ⟨s1, s2, s3, s4⟩ := p210 _ hsec
  obtain ⟨-, -, -, t4⟩ := p210 _ (b2t _ c1)
  have hpoM : q_poM B i = if B 158 i = 0 then q_gsM B (B 159 i) (q_sl B (B 159 i) 10 0) (B 160 i) (B 161 i) else q_waM B (B 158 i) (B 159 i) (B 160 i) (B 161 i) := by
    unfold q_poM
    rw [if_pos ⟨by rw [e13]; exact c1, c2⟩]
  by_cases k0 : Y 172 12 = 0
  · rw [if_pos k0, if_pos k0]
    rw [e12, if_pos k0, e13, e14, e15 (by omega)] at hpoM
    have can := z_can hS (s := q_sl B (Y 172 13) 10 0) ⟨hb.1, hb.2.1⟩ hb.2.2
    have hf0 := m_ftk_in (V := V) 120 0
    rcases z_slo h42 ⟨hb.1, hb.2.1⟩ hb.2.2 10 0 rfl with ⟨g1, g2⟩ | ⟨g1, g2, g3, g4⟩
    · rw [if_pos g2]
      have : q_gsR B (Y 172 13) (q_sl B (Y 172 13) 10 0) = 0 := by unfold q_gsR; rw [if_neg (fun q => q.1 g1)]
      rw [this]
      exact ⟨rfl, fun q => by omega⟩
    · rw [if_neg (by omega)]
      have em : m_em V (Y 172 13) (q_sl B (Y 172 13) 10 0) = 1 := by unfold m_em; rw [if_pos ⟨by omega, by omega, by rw [g1]; exact g4⟩]
      by_cases c3 : m_ftk V 120 0 = 120
      · rw [if_pos c3]
        have : q_gsR B (Y 172 13) (q_sl B (Y 172 13) 10 0) = 0 := by
          unfold q_gsR
          rw [if_neg (fun q => (can.mp q.2).2 c3)]
        rw [this]
        exact ⟨rfl, fun q => by omega⟩
      · have hc := can.mpr ⟨em, c3⟩
        have hR : q_gsR B (Y 172 13) (q_sl B (Y 172 13) 10 0) = 1 := by unfold q_gsR; rw [if_pos ⟨by omega, hc⟩]
        rw [if_neg c3, hR]
        refine ⟨rfl, fun _ => ?_⟩
        have eM : q_poM B i = q_put B 0 (Y 172 14) (Y 172 15) (-1) (Y 172 13) (q_sl B (Y 172 13) 10 0) (-1) := by
          rw [hpoM]; unfold q_gsM; rw [if_pos ⟨by omega, hc⟩]
        have idR : m_idR V Y = 1 := by
          unfold m_idR
          rw [bx, if_neg n1, eK, if_neg n2, if_pos k0, if_neg (by omega), if_neg c3]
        have eV : m_idV V Y = m_put V 0 (Y 172 14) (Y 172 15) 0 (-1) (Y 172 13) (q_sl B (Y 172 13) 10 0) (-1) := by
          unfold m_idV
          rw [if_neg (by omega), if_pos k0, g1]
        have fr : ∀ a, (a < 3 ∨ (12 < a ∧ a < 36) ∨ 42 < a) → q_poM B i a = B a := fun a q => q_poM_fr2 q
        rw [eV]
        refine fin _ _ ?_ fr m_put_B
        rw [eM]
        refine ⟨z_put hS hc ⟨hb.1, hb.2.1⟩ hb.2.2 (by omega) (Or.inr ⟨s1, s2, s3⟩) (by omega) (fun _ => hr.2) (Or.inl rfl), z_put_F hRl.2.1, z_put_HT hRl.2.2.1 hc, ?_⟩
        rw [← eM, fr 130 (by omega)]
        exact hRl.2.2.2
  · rw [if_neg k0, if_neg k0]
    rw [e12, if_neg k0, e13, e14] at hpoM
    by_cases c3 : B 36 5 = 20
    · have : q_wa B = 0 := by unfold q_wa; rw [if_neg (by omega)]
      rw [e36, if_pos c3, this]
      exact ⟨rfl, fun q => by omega⟩
    · have : q_wa B = 1 := by unfold q_wa; rw [if_pos (by omega)]
      rw [e36, if_neg c3, this]
      refine ⟨rfl, fun _ => ?_⟩
      have idR : m_idR V Y = 1 := by
        unfold m_idR
        rw [bx, if_neg n1, eK, if_neg n2, if_neg k0, e36, if_neg c3]
      have eV : m_idV V Y = m_idW V Y := by
        unfold m_idV
        rw [if_neg (by omega), if_neg k0]
      rw [eV]
      refine fin _ _ (z_wish hRl c3 (by omega) ⟨hb.1, hb.2.1⟩ ⟨s1, s2⟩ t4 s4 hpoM.symm rfl rfl rfl (fun q => (e15 (by omega)).symm)) (fun a q => q_poM_fr2 q) ?_
      unfold m_idW m_cB
      refine ⟨?_, ?_⟩
      · rw [mj_up_ne (by omega), mj_up_ne (by omega), mj_up_ne (by omega), mj_up_ne (by omega), mj_up_ne (by omega), mj_up_ne (by omega), mj_up_ne (by omega)]
      · rw [mj_up_ne (by omega), mj_up_ne (by omega), mj_up_ne (by omega), mj_up_ne (by omega), mj_up_ne (by omega), mj_up_ne (by omega), mj_up_ne (by omega)]
end op24
