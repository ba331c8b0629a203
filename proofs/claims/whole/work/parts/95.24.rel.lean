section re24
variable {A B C V W A' V' : mj_M} {e e' : Nat}
theorem z_SW_rn (h : z_SW e A V) (w : q_wr A') (wV : q_wr V') (oA : ∀ a, (a < 22 ∨ 34 < a) → a ≠ 1 → A' a = A a) (oV : ∀ a, (a < 22 ∨ 34 < a) → a ≠ 1 → a ≠ 201 → V' a = V a) (h1 : ∀ j, j ≠ 10 → j ≠ 11 → A' 1 j = A 1 j ∧ V' 1 j = V 1 j)
    (hg : V' 1 10 = A' 1 10 ∧ V' 1 11 = A' 1 11) (h201 : V' 201 1 = V 201 1) (hRR : z_RR e' A' V') (hQH : z_QH A') : z_SW e' A' V' := by
  obtain ⟨s1, s2, s3, s4, s5, s6, s7, s8, s9, s10, s11, s12, s13, s14, s15, s16, s17, s18⟩ := h
  have a : ∀ k, (k < 22 ∨ 34 < k) → k ≠ 1 → A' k = A k := oA
  have v : ∀ k, (k < 22 ∨ 34 < k) → k ≠ 1 → k ≠ 201 → V' k = V k := oV
  refine ⟨z_pre_c s1 w (a 3 (by omega) (by omega)) (a 7 (by omega) (by omega)) (a 131 (by omega) (by omega)), ?_, z_tb_c s3 (a 3 (by omega) (by omega)) (a 8 (by omega) (by omega)) (a 9 (by omega) (by omega)) (a 42 (by omega) (by omega)), z_rm_c s4 (a 3 (by omega) (by omega)) (a 6 (by omega) (by omega)) ((h1 8 (by omega) (by omega)).1), by rw [a 42 (by omega) (by omega), v 42 (by omega) (by omega) (by omega)]; exact s5,
    z_Mk_c s6 (a 3 (by omega) (by omega)) (a 131 (by omega) (by omega)) (v 131 (by omega) (by omega) (by omega)), m_ok_same s7 wV (v 7 (by omega) (by omega) (by omega)) (v 212 (by omega) (by omega) (by omega)), ?_, ?_, ?_, hRR, hQH, ?_, ?_, z_TH_c s15 (a 3 (by omega) (by omega)) (a 4 (by omega) (by omega)) (a 14 (by omega) (by omega)), z_TB_c s16 (a 3 (by omega) (by omega)) (a 14 (by omega) (by omega)) (a 8 (by omega) (by omega)) (a 131 (by omega) (by omega)), z_TR_c s17 (a 3 (by omega) (by omega)) (a 5 (by omega) (by omega)) (a 4 (by omega) (by omega)) (a 12 (by omega) (by omega)), z_PR_c s18 (a 9001 (by omega) (by omega))⟩
  · exact z_T_c s2 (a 3 (by omega) (by omega)) (a 4 (by omega) (by omega)) (a 5 (by omega) (by omega)) (a 6 (by omega) (by omega)) (a 7 (by omega) (by omega)) (a 8 (by omega) (by omega)) (a 9 (by omega) (by omega)) (a 10 (by omega) (by omega)) (a 11 (by omega) (by omega)) (a 12 (by omega) (by omega)) (v 212 (by omega) (by omega) (by omega)) (v 3 (by omega) (by omega) (by omega)) (v 4 (by omega) (by omega) (by omega)) (v 5 (by omega) (by omega) (by omega)) (v 6 (by omega) (by omega) (by omega)) (v 7 (by omega) (by omega) (by omega)) (v 8 (by omega) (by omega) (by omega)) (v 9 (by omega) (by omega) (by omega)) (v 10 (by omega) (by omega) (by omega)) (v 11 (by omega) (by omega) (by omega)) (v 12 (by omega) (by omega) (by omega))
  · exact z_H_c s8 (a 14 (by omega) (by omega)) (a 15 (by omega) (by omega)) (a 16 (by omega) (by omega)) (a 17 (by omega) (by omega)) (a 18 (by omega) (by omega)) (a 19 (by omega) (by omega)) (v 210 (by omega) (by omega) (by omega)) (v 14 (by omega) (by omega) (by omega)) (v 15 (by omega) (by omega) (by omega)) (v 16 (by omega) (by omega) (by omega)) (v 17 (by omega) (by omega) (by omega)) (v 18 (by omega) (by omega) (by omega)) (v 19 (by omega) (by omega) (by omega))
  · exact z_H2_c s9 (a 14 (by omega) (by omega)) (a 15 (by omega) (by omega)) (a 16 (by omega) (by omega)) (a 17 (by omega) (by omega)) (a 18 (by omega) (by omega)) (a 19 (by omega) (by omega)) (a 3 (by omega) (by omega))
  · exact z_H3_c s10 (a 14 (by omega) (by omega)) (a 17 (by omega) (by omega)) (a 18 (by omega) (by omega)) (a 20 (by omega) (by omega)) (a 21 (by omega) (by omega)) (v 20 (by omega) (by omega) (by omega)) (v 21 (by omega) (by omega) (by omega))
  · unfold z_W z_al at s13 ⊢
    rw [a 36 (by omega) (by omega), a 37 (by omega) (by omega), a 38 (by omega) (by omega), a 39 (by omega) (by omega), a 40 (by omega) (by omega), a 41 (by omega) (by omega), v 36 (by omega) (by omega) (by omega), v 37 (by omega) (by omega) (by omega), v 38 (by omega) (by omega) (by omega), v 39 (by omega) (by omega) (by omega), v 40 (by omega) (by omega) (by omega), v 210 (by omega) (by omega) (by omega), v 211 (by omega) (by omega) (by omega), v 214 (by omega) (by omega) (by omega), v 215 (by omega) (by omega) (by omega), h201]
    exact s13
  · obtain ⟨g6, g7, g8, g9, g10, g11, gm⟩ := s14
    refine ⟨?_, ?_, ?_, ?_, hg.1, hg.2, ?_⟩
    · rw [(h1 6 (by omega) (by omega)).1, (h1 6 (by omega) (by omega)).2]; exact g6
    · rw [(h1 7 (by omega) (by omega)).1, (h1 7 (by omega) (by omega)).2]; exact g7
    · rw [(h1 8 (by omega) (by omega)).1, (h1 8 (by omega) (by omega)).2]; exact g8
    · rfl
    · rw [a 43 (by omega) (by omega), v 43 (by omega) (by omega) (by omega)]; exact gm
/-- place and acc of one runner aside -/
theorem z_RR_pa (h : z_RR e A V) (w : q_wr A') (oA : ∀ o, o ≠ 25 → o ≠ 26 → A' o = A o) (oV : ∀ o, o ≠ 25 → o ≠ 26 → V' o = V o) (hk : ∀ k : Nat, k < 8 → k ≠ e' → V' 25 k = A' 25 k ∧ V' 26 k = A' 26 k) : z_RR e' A' V' := by
  obtain ⟨hR, hR2, hQ, hO, -⟩ := h
  have a : ∀ o, o < 25 ∨ 26 < o → A' o = A o := fun o ho => oA o (by omega) (by omega)
  have v : ∀ o, o < 25 ∨ 26 < o → V' o = V o := fun o ho => oV o (by omega) (by omega)
  refine ⟨⟨by rw [a 22 (by omega), v 22 (by omega)]; exact hR.1, ?_⟩, ?_, ?_, ?_, w⟩
  · intro k hk8
    obtain ⟨r1, r2, r3, r4, r5, r6, r7, r8⟩ := hR.2 k hk8
    rw [a 23 (by omega), v 23 (by omega), a 24 (by omega), v 24 (by omega), a 27 (by omega), v 27 (by omega), a 28 (by omega), v 28 (by omega), a 29 (by omega), v 29 (by omega), a 30 (by omega), v 30 (by omega), a 31 (by omega), v 31 (by omega)]
    exact ⟨r1, r2, fun q => hk k hk8 q, r4, r5, r6, r7, r8⟩
  · unfold z_R2 at hR2 ⊢
    rw [a 24 (by omega), a 31 (by omega), a 32 (by omega), v 32 (by omega), a 33 (by omega), v 33 (by omega), a 35 (by omega), v 35 (by omega)]
    exact hR2
  · unfold z_Q at hQ ⊢
    rw [a 22 (by omega), a 24 (by omega), a 28 (by omega), a 29 (by omega), a 30 (by omega), a 34 (by omega)]
    exact hQ
  · unfold z_O at hO ⊢
    rw [a 22 (by omega), a 24 (by omega), a 34 (by omega), v 34 (by omega), v 201 (by omega)]
    exact hO
theorem z_SW_pa (h : z_SW e A V) (w : q_wr A') (wV : q_wr V') (oA : ∀ o, o ≠ 25 → o ≠ 26 → A' o = A o) (oV : ∀ o, o ≠ 25 → o ≠ 26 → V' o = V o) (hk : ∀ k : Nat, k < 8 → k ≠ e' → V' 25 k = A' 25 k ∧ V' 26 k = A' 26 k) : z_SW e' A' V' := by
  have hG := h.2.2.2.2.2.2.2.2.2.2.2.2.2.1
  refine z_SW_rn h w wV (fun a h1 h2 => oA a (by omega) (by omega)) (fun a h1 h2 h3 => oV a (by omega) (by omega)) (fun j _ _ => by rw [oA 1 (by omega) (by omega), oV 1 (by omega) (by omega)]; exact ⟨rfl, rfl⟩) ?_ (by rw [oV 201 (by omega) (by omega)]) (z_RR_pa h.2.2.2.2.2.2.2.2.2.2.1 w oA oV hk)
    (z_QH_c h.2.2.2.2.2.2.2.2.2.2.2.1 (oA 22 (by omega) (by omega)) (oA 24 (by omega) (by omega)) (oA 14 (by omega) (by omega)) (oA 23 (by omega) (by omega)) (oA 28 (by omega) (by omega)) (oA 27 (by omega) (by omega)))
  rw [oA 1 (by omega) (by omega), oV 1 (by omega) (by omega)]
  exact ⟨hG.2.2.2.2.1, hG.2.2.2.2.2.1⟩
/-- what goes, goes; then place and acc of the one that did it -/
theorem z_fin {r : Nat} (hS : z_SW r A W) (hF : z_F A) (hH : z_HT A 40) (hr : r < 8) (h29 : A 29 r = -1) : z_Rl 8 (q_sweep A) (mj_up (mj_up (m_swp W) 26 r (A 26 r)) 25 r (A 25 r)) ∧ m_swp W 25 r = W 25 r ∧ m_swp W 26 r = W 26 r := by
  obtain ⟨S1, F1, H1, h0, ex, -⟩ := z_sweep hS hF hH
  obtain ⟨x1, x2, x3, x4⟩ := ex hr h29
  refine ⟨⟨?_, F1, H1, h0⟩, x3, x4⟩
  have hR := S1.2.2.2.2.2.2.2.2.2.2.1.1.2
  refine z_SW_pa S1 S1.1.1 (q_wr_up (q_wr_up S1.2.2.2.2.2.2.1.1 (by simp [q_okv])) (by simp [q_okv])) (fun _ _ _ => rfl) (fun o h1 h2 => by rw [mj_up_ne h1, mj_up_ne h2]) ?_
  intro k hk _
  have := (hR k hk).2.2.1
  rw [mj_up_at, mj_up_ne (show (25 : Nat) ≠ 26 by decide), mj_up_ne (show (26 : Nat) ≠ 25 by decide), mj_up_at]
  by_cases c : k = r
  · rw [if_pos c, if_pos c, c, x1, x2]; exact ⟨rfl, rfl⟩
  · rw [if_neg c, if_neg c]; exact this c
theorem z_fin8 (hS : z_SW 8 A W) (hF : z_F A) (hH : z_HT A 40) : z_Rl 8 (q_sweep A) (m_swp W) := by
  obtain ⟨S1, F1, H1, h0, ex, -⟩ := z_sweep hS hF hH
  exact ⟨S1, F1, H1, h0⟩
theorem mj_up_self {a i : Nat} {v : Int} (h : A a i = v) : mj_up A a i v = A := by
  funext b j
  unfold mj_up
  by_cases c : b = a
  · subst c
    by_cases c2 : j = i
    · subst c2; simp [h]
    · simp [c2]
  · simp [c]
theorem z_lw (hR : z_R e A V) {g : Int} : ∀ (n t : Nat), t + n ≤ 8 → q_lw V g n t = q_lw A g n t := by
  intro n
  induction n with
  | zero => intro t h; rfl
  | succ n ih =>
    intro t h
    have := hR.2 t (by omega)
    rw [q_lw_s, q_lw_s, ih (t + 1) (by omega), this.2.1, this.2.2.2.2.1]
theorem z_leastW (h : z_RR e A V) {g : Int} : q_leastW V g = q_leastW A g := by
  have hsz := q_w22_13 h.2.2.2.2
  unfold q_leastW
  rw [h.1.1, z_lw h.1 _ _ (by omega)]
theorem z_fcq (h : z_RR e A V) {g : Int} : ∀ (n t : Nat) (f : Int), ((t : Int) + n ≤ A 22 13) → (f = -1 ∨ (0 ≤ f ∧ f < A 22 13 ∧ A 24 f.toNat = 2)) → q_fc V g n t f = q_fc A g n t f := by
  obtain ⟨hR, hR2, hQ, hO, w⟩ := h
  have hsz := q_w22_13 w
  intro n
  induction n with
  | zero => intro t f h _; rfl
  | succ n ih =>
    intro t f h hf
    obtain ⟨r1, r2, r3, r4, r5, r6, r7, r8⟩ := hR.2 t (by omega)
    rw [q_fc, q_fc, r2, r5, r6]
    have hi : (A 24 t = 2 ∧ A 28 t = g ∧ A 29 t = -1 ∧ (f = -1 ∨ V 34 t < V 34 f.toNat)) ↔ (A 24 t = 2 ∧ A 28 t = g ∧ A 29 t = -1 ∧ (f = -1 ∨ A 34 t < A 34 f.toNat)) := by
      rcases hf with q | q
      · constructor
        · rintro ⟨g1, g2, g3, _⟩; exact ⟨g1, g2, g3, Or.inl q⟩
        · rintro ⟨g1, g2, g3, _⟩; exact ⟨g1, g2, g3, Or.inl q⟩
      · constructor
        · rintro ⟨g1, g2, g3, g4⟩
          refine ⟨g1, g2, g3, ?_⟩
          rcases g4 with g4 | g4
          · exact Or.inl g4
          · exact Or.inr ((hO.1 t f.toNat (by omega) (by omega) g1 q.2.2).mpr g4)
        · rintro ⟨g1, g2, g3, g4⟩
          refine ⟨g1, g2, g3, ?_⟩
          rcases g4 with g4 | g4
          · exact Or.inl g4
          · exact Or.inr ((hO.1 t f.toNat (by omega) (by omega) g1 q.2.2).mp g4)
    by_cases c : A 24 t = 2 ∧ A 28 t = g ∧ A 29 t = -1 ∧ (f = -1 ∨ A 34 t < A 34 f.toNat)
    · rw [if_pos c, if_pos (hi.mpr c)]
      exact ih (t + 1) _ (by omega) (Or.inr ⟨by omega, by omega, by rw [Int.toNat_natCast]; exact c.1⟩)
    · rw [if_neg c, if_neg (fun q => c (hi.mp q))]
      exact ih (t + 1) f (by omega) hf
theorem z_firstC (h : z_RR e A V) {g : Int} : q_firstC V g = q_firstC A g := by
  have hsz := q_w22_13 h.2.2.2.2
  unfold q_firstC
  rw [h.1.1, z_fcq h _ _ _ (by omega) (Or.inl rfl)]
theorem z_QH_s (h : z_QH A) (o : ∀ a, a = 14 ∨ a = 22 ∨ a = 23 ∨ a = 27 → A' a = A a) (h24 : ∀ k : Nat, (k : Int) < A 22 13 → A' 24 k ≠ 4 → A 24 k ≠ 4) (h28 : ∀ k : Nat, (k : Int) < A 22 13 → A' 28 k ≠ -1 → A' 28 k = A 28 k ∨ A 14 (A' 28 k).toNat = 2 ∨ A 14 (A' 28 k).toNat = 3) : z_QH A' := by
  intro k hk
  rw [o 22 (by omega)] at hk
  obtain ⟨g1, g2, g3⟩ := h k hk
  rw [o 14 (by omega), o 23 (by omega), o 27 (by omega)]
  refine ⟨fun q => g1 (h24 k hk q), fun q => ?_, g3⟩
  rcases h28 k hk q with g | g
  · rw [g] at q ⊢; exact g2 q
  · exact g
theorem z_fault {r : Nat} (h : z_SW e A V) (hr : (r : Int) < A 22 13) (h4 : A 24 r ≠ 4) : z_SW e (q_fault A r) (m_fa V r) := by
  have hRR := h.2.2.2.2.2.2.2.2.2.2.1
  have hQH := h.2.2.2.2.2.2.2.2.2.2.2.1
  have hG := h.2.2.2.2.2.2.2.2.2.2.2.2.2.1
  have wA := h.1.1
  have wV := h.2.2.2.2.2.2.1.1
  have hsz := q_w22_13 wA
  have hw1 : q_wr (mj_up A 1 11 (mj_w (A 1 11 + 1))) := q_wr_up wA (by simp [q_okv])
  have hw2 : q_wr (mj_up V 1 11 (mj_w (A 1 11 + 1))) := q_wr_up wV (by simp [q_okv])
  have S1 : z_SW e (mj_up A 1 11 (mj_w (A 1 11 + 1))) (mj_up V 1 11 (mj_w (A 1 11 + 1))) := by
    refine z_SW_rn h hw1 hw2 (fun a _ h2 => mj_up_ne h2) (fun a _ h2 _ => mj_up_ne h2) (fun j _ h2 => by rw [mj_up_at, mj_up_at, if_neg h2, if_neg h2]; exact ⟨rfl, rfl⟩) ?_ (by rw [mj_up_ne (by omega)]) (z_RR_o hRR hw1 (fun a h1 h2 => mj_up_ne (by omega)) (fun a h1 h2 => mj_up_ne (by omega)) (by rw [mj_up_ne (by omega)]))
      (z_QH_c hQH (mj_up_ne (by omega)) (mj_up_ne (by omega)) (mj_up_ne (by omega)) (mj_up_ne (by omega)) (mj_up_ne (by omega)) (mj_up_ne (by omega)))
    rw [mj_up_at, mj_up_at, mj_up_at, mj_up_at, if_neg (by omega), if_neg (by omega), if_pos rfl, if_pos rfl]
    exact ⟨hG.2.2.2.2.1, rfl⟩
  unfold q_fault m_fa m_faA m_faU
  simp only []
  rw [hG.2.2.2.2.2.1]
  have r22 : mj_up A 1 11 (mj_w (A 1 11 + 1)) 22 = A 22 := mj_up_ne (by omega)
  have r24 : mj_up A 1 11 (mj_w (A 1 11 + 1)) 24 = A 24 := mj_up_ne (by omega)
  generalize mj_up A 1 11 (mj_w (A 1 11 + 1)) = A1 at *
  generalize mj_up V 1 11 (mj_w (A 1 11 + 1)) = V1 at *
  rw [← r22] at hr hsz
  rw [← r24] at h4
  clear h hRR hQH hG r22 r24 wA wV
  have hRR := S1.2.2.2.2.2.2.2.2.2.2.1
  have hQH := S1.2.2.2.2.2.2.2.2.2.2.2.1
  have hG := S1.2.2.2.2.2.2.2.2.2.2.2.2.2.1
  have hQu := fun q => z_Q_u hRR.2.2.1 hw1 hr q
  have eA := z_endA (A := A1) (r := r) (s := 3) (fun q => (hQu q).1)
  have e30 := (z_R_30 hRR.1 (r := r) (by omega)).1
  have eV := z_endV (A := V1) (r := r) (s := 3) (by rw [e30]; exact fun q => (hQu q).1)
  have wE : q_wr (q_end A1 r 3) := q_end_w hw1
  have wEV : q_wr (m_en V1 r 3) := m_en_w hw2
  have RR2 := z_end_rel hRR hr (Or.inl rfl) eA eV wE
  have QH2 : z_QH (q_end A1 r 3) := by
    refine z_QH_s hQH (fun a ha => eA.1 a (by omega)) ?_ ?_
    · intro k hk
      rw [eA.2.1]
      by_cases c : k = r
      · intro _; rw [c]; exact h4
      · rw [if_neg c]
        by_cases c2 : A1 30 r ≠ -1 ∧ k = (A1 30 r).toNat
        · intro _ q
          have := (hQu c2.1).2.2.1
          rw [← c2.2, q] at this
          omega
        · rw [if_neg c2]; exact id
    · intro k hk
      rw [eA.2.2.2.2.1]
      by_cases c : k = r
      · rw [if_pos c]; exact fun q => absurd rfl q
      · rw [if_neg c]
        by_cases c2 : A1 30 r ≠ -1 ∧ k = (A1 30 r).toNat
        · rw [if_pos c2]; exact fun q => absurd rfl q
        · rw [if_neg c2]; exact fun _ => Or.inl rfl
  have S2 : z_SW e (q_end A1 r 3) (m_en V1 r 3) := by
    refine z_SW_rn S1 wE wEV (fun a h1 h2 => eA.1 a (by omega)) (fun a h1 h2 _ => eV.1 a (by omega)) (fun j _ _ => by rw [eA.1 1 (by omega), eV.1 1 (by omega)]; exact ⟨rfl, rfl⟩) ?_ (by rw [eV.1 201 (by omega)]) RR2 QH2
    rw [eA.1 1 (by omega), eV.1 1 (by omega)]
    exact ⟨hG.2.2.2.2.1, hG.2.2.2.2.2.1⟩
  generalize q_end A1 r 3 = A2 at *
  generalize m_en V1 r 3 = V2 at *
  clear hRR hQH hG S1 eV QH2
  have hRR := S2.2.2.2.2.2.2.2.2.2.2.1
  have hQH := S2.2.2.2.2.2.2.2.2.2.2.2.1
  have hG := S2.2.2.2.2.2.2.2.2.2.2.2.2.2.1
  have hr2 : r < 8 := by omega
  have e27 : V2 27 r = A2 27 r := (hRR.1.2 r hr2).2.2.2.1
  have s22 : A2 22 = A1 22 := eA.1 22 (by omega)
  simp only [Int.toNat_natCast]
  rw [e27, z_leastW hRR]
  unfold m_faB
  by_cases c1 : A2 27 r = -1
  · rw [if_pos c1, if_pos c1, if_pos rfl]; exact S2
  · rw [if_neg c1, if_neg c1]
    by_cases c2 : q_leastW A2 (A2 27 r) = -1
    · rw [if_pos c2, if_pos c2]; exact S2
    · rw [if_neg c2, if_neg c2]
      have hu := q_leastW_in (g := A2 27 r) wE
      have hu : 0 ≤ q_leastW A2 (A2 27 r) ∧ q_leastW A2 (A2 27 r) < A2 22 13 ∧ A2 24 (q_leastW A2 (A2 27 r)).toNat = 1 := by
        rcases hu with q | q
        · exact absurd q c2
        · exact ⟨q.1, q.2.1, q.2.2.1⟩
      generalize q_leastW A2 (A2 27 r) = u at *
      obtain ⟨u, rfl⟩ : ∃ n : Nat, u = (n : Int) := ⟨u.toNat, by omega⟩
      simp only [Int.toNat_natCast] at hu ⊢
      have h29 : A2 29 u = -1 := by
        have := (hRR.2.2.1 u hu.2.1).2.2.1
        by_cases q : A2 29 u = -1
        · exact q
        · have := this q; omega
      have k1 := z_wk (A := A2) (u := (u : Int)) (a := 100 + (r : Int))
      simp only [Int.toNat_natCast] at k1
      have kV : z_wk1 V2 (m_rd (mj_up V2 26 u (100 + (r : Int))) u) u (100 + (r : Int)) := by
        obtain ⟨d0, d1, d2, d3, d4⟩ := z_rdV (A := mj_up V2 26 u (100 + (r : Int))) (u := (u : Int))
        simp only [Int.toNat_natCast] at d1 d2 d3 d4
        refine ⟨fun o ho => by rw [d0 o (by omega), mj_up_ne (by omega)], fun k => by rw [d1, mj_up_ne (by omega)], fun k => by rw [d2, mj_up_ne (by omega)], fun k => by rw [d0 26 (by omega), mj_up_at], fun k => by rw [d3, mj_up_ne (by omega)], fun k => by rw [d4, mj_up_ne (by omega)]⟩
      have wK : q_wr (q_wake A2 u (100 + (r : Int))) := q_wake_w wE
      have RR3 := z_wake_rel hRR hu.2.1 h29 k1 kV wK
      have QH3 : z_QH (q_wake A2 u (100 + (r : Int))) := by
        refine z_QH_s hQH (fun a ha => k1.1 a (by omega)) ?_ ?_
        · intro k hk
          rw [k1.2.1]
          by_cases c : k = u
          · intro _; rw [c]; omega
          · rw [if_neg c]; exact id
        · intro k hk
          rw [k1.2.2.2.2.1]
          by_cases c : k = u
          · rw [if_pos c]; exact fun q => absurd rfl q
          · rw [if_neg c]; exact fun _ => Or.inl rfl
      refine z_SW_rn S2 wK (m_rd_w (q_wr_up wEV (by simp [q_okv]))) (fun a h1 h2 => k1.1 a (by omega)) (fun a h1 h2 _ => kV.1 a (by omega)) (fun j _ _ => by rw [k1.1 1 (by omega), kV.1 1 (by omega)]; exact ⟨rfl, rfl⟩) ?_ (by rw [kV.1 201 (by omega)]) RR3 QH3
      rw [k1.1 1 (by omega), kV.1 1 (by omega)]
      exact ⟨hG.2.2.2.2.1, hG.2.2.2.2.2.1⟩
end re24
