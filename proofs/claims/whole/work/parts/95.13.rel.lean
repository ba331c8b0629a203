section re13
variable {A B C V W A' V' : mj_M} {e : Nat}
theorem z_lt_c  (h : z_lt A) (a3 : A' 3 = A 3) (a7 : A' 7 = A 7)  : z_lt A' := by
  unfold z_lt at h ⊢
  rw [a3, a7]
  exact h
theorem z_T_c  (h : z_T A V) (a3 : A' 3 = A 3) (a4 : A' 4 = A 4) (a5 : A' 5 = A 5) (a6 : A' 6 = A 6) (a7 : A' 7 = A 7) (a8 : A' 8 = A 8) (a9 : A' 9 = A 9) (a10 : A' 10 = A 10) (a11 : A' 11 = A 11) (a12 : A' 12 = A 12) (v212 : V' 212 = V 212) (v3 : V' 3 = V 3) (v4 : V' 4 = V 4) (v5 : V' 5 = V 5) (v6 : V' 6 = V 6) (v7 : V' 7 = V 7) (v8 : V' 8 = V 8) (v9 : V' 9 = V 9) (v10 : V' 10 = V 10) (v11 : V' 11 = V 11) (v12 : V' 12 = V 12) : z_T A' V' := by
  unfold z_T at h ⊢
  rw [a3, a4, a5, a6, a7, a8, a9, a10, a11, a12, v212, v3, v4, v5, v6, v7, v8, v9, v10, v11, v12]
  exact h
theorem z_tb_c  (h : z_tb A) (a3 : A' 3 = A 3) (a8 : A' 8 = A 8) (a9 : A' 9 = A 9) (a42 : A' 42 = A 42)  : z_tb A' := by
  unfold z_tb at h ⊢
  rw [a3, a8, a9, a42]
  exact h
theorem z_Mk_c  (h : z_Mk A V) (a3 : A' 3 = A 3) (a131 : A' 131 = A 131) (v131 : V' 131 = V 131) : z_Mk A' V' := by
  unfold z_Mk at h ⊢
  rw [a3, a131, v131]
  exact h
theorem z_H_c  (h : z_H A V) (a14 : A' 14 = A 14) (a15 : A' 15 = A 15) (a16 : A' 16 = A 16) (a17 : A' 17 = A 17) (a18 : A' 18 = A 18) (a19 : A' 19 = A 19) (v210 : V' 210 = V 210) (v14 : V' 14 = V 14) (v15 : V' 15 = V 15) (v16 : V' 16 = V 16) (v17 : V' 17 = V 17) (v18 : V' 18 = V 18) (v19 : V' 19 = V 19) : z_H A' V' := by
  unfold z_H at h ⊢
  rw [a14, a15, a16, a17, a18, a19, v210, v14, v15, v16, v17, v18, v19]
  exact h
theorem z_H2_c  (h : z_H2 A) (a14 : A' 14 = A 14) (a15 : A' 15 = A 15) (a16 : A' 16 = A 16) (a17 : A' 17 = A 17) (a18 : A' 18 = A 18) (a19 : A' 19 = A 19) (a3 : A' 3 = A 3)  : z_H2 A' := by
  unfold z_H2 at h ⊢
  rw [a14, a15, a16, a17, a18, a19, a3]
  exact h
theorem z_H3_c  (h : z_H3 A V) (a14 : A' 14 = A 14) (a17 : A' 17 = A 17) (a18 : A' 18 = A 18) (a20 : A' 20 = A 20) (a21 : A' 21 = A 21) (v20 : V' 20 = V 20) (v21 : V' 21 = V 21) : z_H3 A' V' := by
  unfold z_H3 at h ⊢
  rw [a14, a17, a18, a20, a21, v20, v21]
  exact h
theorem z_QH_c  (h : z_QH A) (a22 : A' 22 = A 22) (a24 : A' 24 = A 24) (a14 : A' 14 = A 14) (a23 : A' 23 = A 23) (a28 : A' 28 = A 28) (a27 : A' 27 = A 27)  : z_QH A' := by
  unfold z_QH at h ⊢
  rw [a22, a24, a14, a23, a28, a27]
  exact h
theorem z_W_c  (h : z_W A V) (a36 : A' 36 = A 36) (a37 : A' 37 = A 37) (a38 : A' 38 = A 38) (a39 : A' 39 = A 39) (a40 : A' 40 = A 40) (a41 : A' 41 = A 41) (v36 : V' 36 = V 36) (v37 : V' 37 = V 37) (v38 : V' 38 = V 38) (v39 : V' 39 = V 39) (v40 : V' 40 = V 40) (v210 : V' 210 = V 210) (v211 : V' 211 = V 211) (v214 : V' 214 = V 214) (v215 : V' 215 = V 215) (v201 : V' 201 = V 201) : z_W A' V' := by
  unfold z_W z_al at h ⊢
  rw [a36, a37, a38, a39, a40, a41, v36, v37, v38, v39, v40, v210, v211, v214, v215, v201]
  exact h
theorem z_TH_c  (h : z_TH A) (a3 : A' 3 = A 3) (a4 : A' 4 = A 4) (a14 : A' 14 = A 14)  : z_TH A' := by
  unfold z_TH at h ⊢
  rw [a3, a4, a14]
  exact h
theorem z_TB_c  (h : z_TB A) (a3 : A' 3 = A 3) (a14 : A' 14 = A 14) (a8 : A' 8 = A 8) (a131 : A' 131 = A 131)  : z_TB A' := by
  unfold z_TB at h ⊢
  rw [a3, a14, a8, a131]
  exact h
theorem z_TR_c  (h : z_TR A) (a3 : A' 3 = A 3) (a5 : A' 5 = A 5) (a4 : A' 4 = A 4) (a12 : A' 12 = A 12)  : z_TR A' := by
  unfold z_TR at h ⊢
  rw [a3, a5, a4, a12]
  exact h
theorem z_PR_c  (h : z_PR A) (a9001 : A' 9001 = A 9001)  : z_PR A' := by
  unfold z_PR at h ⊢
  rw [a9001]
  exact h
theorem z_F_c  (h : z_F A) (a130 : A' 130 = A 130) (a131 : A' 131 = A 131)  : z_F A' := by
  unfold z_F at h ⊢
  rw [a130, a131]
  exact h
theorem z_HT_c {n : Nat} (h : z_HT A n) (a14 : A' 14 = A 14) (a3 : A' 3 = A 3) (a4 : A' 4 = A 4)  : z_HT A' n := by
  unfold z_HT at h ⊢
  rw [a14, a3, a4]
  exact h
theorem z_acy_c {ρ : Nat → Nat} (h : z_acy ρ A) (a3 : A' 3 = A 3) (a7 : A' 7 = A 7) : z_acy ρ A' := by
  refine ⟨h.1, ?_⟩
  rw [a3, a7]; exact h.2
theorem z_pre_c (h : z_pre A) (w : q_wr A') (a3 : A' 3 = A 3) (a7 : A' 7 = A 7) (a131 : A' 131 = A 131) : z_pre A' := by
  obtain ⟨_, h2, h3, ρ, h4⟩ := h
  exact ⟨w, z_lt_c h2 a3 a7, by rw [a131, a3]; exact h3, ρ, z_acy_c h4 a3 a7⟩
theorem z_rm_c (h : z_rm A) (a3 : A' 3 = A 3) (a6 : A' 6 = A 6) (a1 : A' 1 8 = A 1 8) : z_rm A' := by
  unfold z_rm; rw [a3, a6, a1]; exact h
theorem z_G_c (h : z_G A V) (a1 : A' 1 = A 1) (a43 : A' 43 = A 43) (v1 : V' 1 = V 1) (v43 : V' 43 = V 43) : z_G A' V' := by
  unfold z_G; rw [a1, a43, v1, v43]; exact h
/-- fields of tokens change -/
theorem z_SW_tok (h : z_SW e A V) (w : q_wr A') (wV : q_wr V') (oA : ∀ a, a ≠ 6 → a ≠ 10 → a ≠ 11 → a ≠ 12 → A' a = A a) (oV : ∀ a, a ≠ 6 → a ≠ 10 → a ≠ 11 → a ≠ 12 → V' a = V a)
    (ht : ∀ t : Nat, t < 120 → A 3 t ≠ -1 → V' 6 t = A' 6 t ∧ V' 10 t = A' 10 t ∧ V' 11 t = A' 11 t ∧ V' 12 t = A' 12 t ∧ mj_w (A' 6 t) = A' 6 t ∧ (A' 12 t = 0 ∨ A' 12 t = 1)) : z_SW e A' V' := by
  obtain ⟨s1, s2, s3, s4, s5, s6, s7, s8, s9, s10, s11, s12, s13, s14, s15, s16, s17, s18⟩ := h
  have a : ∀ k, (k = 3 ∨ k = 4 ∨ k = 5 ∨ k = 7 ∨ k = 8 ∨ k = 9 ∨ 13 ≤ k ∨ k = 1) → A' k = A k := fun k hk => oA k (by omega) (by omega) (by omega) (by omega)
  have v : ∀ k, (k = 3 ∨ k = 4 ∨ k = 5 ∨ k = 7 ∨ k = 8 ∨ k = 9 ∨ 13 ≤ k ∨ k = 1) → V' k = V k := fun k hk => oV k (by omega) (by omega) (by omega) (by omega)
  refine ⟨z_pre_c s1 w (a 3 (by omega)) (a 7 (by omega)) (a 131 (by omega)), ?_, z_tb_c s3 (a 3 (by omega)) (a 8 (by omega)) (a 9 (by omega)) (a 42 (by omega)), ⟨?_, by rw [a 1 (by omega)]; exact s4.2⟩, by rw [a 42 (by omega), v 42 (by omega)]; exact s5,
    z_Mk_c s6 (a 3 (by omega)) (a 131 (by omega)) (v 131 (by omega)), m_ok_same s7 wV (v 7 (by omega)) (v 212 (by omega)), ?_, ?_, ?_, ?_, ?_, ?_, z_G_c s14 (a 1 (by omega)) (a 43 (by omega)) (v 1 (by omega)) (v 43 (by omega)), z_TH_c s15 (a 3 (by omega)) (a 4 (by omega)) (a 14 (by omega)), z_TB_c s16 (a 3 (by omega)) (a 14 (by omega)) (a 8 (by omega)) (a 131 (by omega)), ?_, z_PR_c s18 (a 9001 (by omega))⟩
  · intro t htt
    have hTt := s2 t htt
    rw [a 3 (by omega), a 4 (by omega), a 5 (by omega), a 7 (by omega), a 8 (by omega), a 9 (by omega), v 212 (by omega), v 3 (by omega), v 4 (by omega), v 5 (by omega), v 7 (by omega), v 8 (by omega), v 9 (by omega)]
    rcases hTt with q | ⟨q1, q2, q3, q4, q5, q6, q7, q8, q9, q10, q11, q12⟩
    · exact Or.inl q
    · obtain ⟨g1, g2, g3, g4, g5, g6⟩ := ht t htt q1
      exact Or.inr ⟨q1, q2, q3, q4, q5, g1, q7, q8, q9, g2, g3, g4⟩
  · intro k hk; rw [a 3 (by omega)]; exact fun q => (ht k hk q).2.2.2.2.1
  · exact z_H_c s8 (a 14 (by omega)) (a 15 (by omega)) (a 16 (by omega)) (a 17 (by omega)) (a 18 (by omega)) (a 19 (by omega)) (v 210 (by omega)) (v 14 (by omega)) (v 15 (by omega)) (v 16 (by omega)) (v 17 (by omega)) (v 18 (by omega)) (v 19 (by omega))
  · exact z_H2_c s9 (a 14 (by omega)) (a 15 (by omega)) (a 16 (by omega)) (a 17 (by omega)) (a 18 (by omega)) (a 19 (by omega)) (a 3 (by omega))
  · exact z_H3_c s10 (a 14 (by omega)) (a 17 (by omega)) (a 18 (by omega)) (a 20 (by omega)) (a 21 (by omega)) (v 20 (by omega)) (v 21 (by omega))
  · exact z_RR_o s11 w (fun k h1 h2 => a k (by omega)) (fun k h1 h2 => v k (by omega)) (by rw [v 201 (by omega)])
  · exact z_QH_c s12 (a 22 (by omega)) (a 24 (by omega)) (a 14 (by omega)) (a 23 (by omega)) (a 28 (by omega)) (a 27 (by omega))
  · exact z_W_c s13 (a 36 (by omega)) (a 37 (by omega)) (a 38 (by omega)) (a 39 (by omega)) (a 40 (by omega)) (a 41 (by omega)) (v 36 (by omega)) (v 37 (by omega)) (v 38 (by omega)) (v 39 (by omega)) (v 40 (by omega)) (v 210 (by omega)) (v 211 (by omega)) (v 214 (by omega)) (v 215 (by omega)) (v 201 (by omega))
  · intro t htt
    rw [a 3 (by omega), a 4 (by omega), a 5 (by omega)]
    intro q
    have hTR := s17 t htt q
    exact ⟨hTR.1, hTR.2.1, (ht t htt q).2.2.2.2.2⟩
/-- a token is marked -/
theorem z_SW_mark (h : z_SW e A V) {t : Int} (ht : 0 ≤ t ∧ t < 120) (h3 : A 3 t.toNat ≠ -1) : z_SW e (q_mark A t) (m_mk V t) ∧ z_F (q_mark A t) := by
  obtain ⟨s1, s2, s3, s4, s5, s6, s7, s8, s9, s10, s11, s12, s13, s14, s15, s16, s17, s18⟩ := h
  have a : ∀ k, k ≠ 130 → k ≠ 131 → q_mark A t k = A k := fun k h1 h2 => by unfold q_mark; rw [mj_up_ne h1, mj_up_ne h2]
  have v : ∀ k, k ≠ 131 → m_mk V t k = V k := fun k h1 => by unfold m_mk; rw [mj_up_ne h1]
  have a131 : ∀ k, q_mark A t 131 k = if k = t.toNat then 1 else A 131 k := fun k => by unfold q_mark; rw [mj_up_ne (by omega), mj_up_at]
  have v131 : ∀ k, m_mk V t 131 k = if k = t.toNat then 1 else V 131 k := fun k => by unfold m_mk; rw [mj_up_at]
  have wq := q_mark_w (t := t) s1.1
  obtain ⟨_, hl, hm, ρ, ha⟩ := s1
  refine ⟨⟨⟨wq, z_lt_c hl (a 3 (by omega) (by omega)) (a 7 (by omega) (by omega)), ?_, ρ, z_acy_c ha (a 3 (by omega) (by omega)) (a 7 (by omega) (by omega))⟩, ?_, z_tb_c s3 (a 3 (by omega) (by omega)) (a 8 (by omega) (by omega)) (a 9 (by omega) (by omega)) (a 42 (by omega) (by omega)), ?_, by rw [a 42 (by omega) (by omega), v 42 (by omega)]; exact s5,
    ?_, m_mk_ok s7, ?_, ?_, ?_, ?_, ?_, ?_, z_G_c s14 (a 1 (by omega) (by omega)) (a 43 (by omega) (by omega)) (v 1 (by omega)) (v 43 (by omega)), z_TH_c s15 (a 3 (by omega) (by omega)) (a 4 (by omega) (by omega)) (a 14 (by omega) (by omega)), ?_, z_TR_c s17 (a 3 (by omega) (by omega)) (a 5 (by omega) (by omega)) (a 4 (by omega) (by omega)) (a 12 (by omega) (by omega)), z_PR_c s18 (a 9001 (by omega) (by omega))⟩, ?_, ?_⟩
  · intro k hk
    rw [a131, a 3 (by omega) (by omega)]
    by_cases c : k = t.toNat
    · rw [c]; exact fun _ => h3
    · rw [if_neg c]; exact hm k hk
  · exact z_T_c s2 (a 3 (by omega) (by omega)) (a 4 (by omega) (by omega)) (a 5 (by omega) (by omega)) (a 6 (by omega) (by omega)) (a 7 (by omega) (by omega)) (a 8 (by omega) (by omega)) (a 9 (by omega) (by omega)) (a 10 (by omega) (by omega)) (a 11 (by omega) (by omega)) (a 12 (by omega) (by omega)) (v 212 (by omega)) (v 3 (by omega)) (v 4 (by omega)) (v 5 (by omega)) (v 6 (by omega)) (v 7 (by omega)) (v 8 (by omega)) (v 9 (by omega)) (v 10 (by omega)) (v 11 (by omega)) (v 12 (by omega))
  · exact z_rm_c s4 (a 3 (by omega) (by omega)) (a 6 (by omega) (by omega)) (by rw [a 1 (by omega) (by omega)])
  · intro k hk
    rw [a 3 (by omega) (by omega), a131, v131]
    intro q
    by_cases c : k = t.toNat
    · rw [if_pos c, if_pos c]; simp
    · rw [if_neg c, if_neg c]; exact s6 k hk q
  · exact z_H_c s8 (a 14 (by omega) (by omega)) (a 15 (by omega) (by omega)) (a 16 (by omega) (by omega)) (a 17 (by omega) (by omega)) (a 18 (by omega) (by omega)) (a 19 (by omega) (by omega)) (v 210 (by omega)) (v 14 (by omega)) (v 15 (by omega)) (v 16 (by omega)) (v 17 (by omega)) (v 18 (by omega)) (v 19 (by omega))
  · exact z_H2_c s9 (a 14 (by omega) (by omega)) (a 15 (by omega) (by omega)) (a 16 (by omega) (by omega)) (a 17 (by omega) (by omega)) (a 18 (by omega) (by omega)) (a 19 (by omega) (by omega)) (a 3 (by omega) (by omega))
  · exact z_H3_c s10 (a 14 (by omega) (by omega)) (a 17 (by omega) (by omega)) (a 18 (by omega) (by omega)) (a 20 (by omega) (by omega)) (a 21 (by omega) (by omega)) (v 20 (by omega)) (v 21 (by omega))
  · exact z_RR_o s11 wq (fun k h1 h2 => a k (by omega) (by omega)) (fun k h1 h2 => v k (by omega)) (by rw [v 201 (by omega)])
  · exact z_QH_c s12 (a 22 (by omega) (by omega)) (a 24 (by omega) (by omega)) (a 14 (by omega) (by omega)) (a 23 (by omega) (by omega)) (a 28 (by omega) (by omega)) (a 27 (by omega) (by omega))
  · exact z_W_c s13 (a 36 (by omega) (by omega)) (a 37 (by omega) (by omega)) (a 38 (by omega) (by omega)) (a 39 (by omega) (by omega)) (a 40 (by omega) (by omega)) (a 41 (by omega) (by omega)) (v 36 (by omega)) (v 37 (by omega)) (v 38 (by omega)) (v 39 (by omega)) (v 40 (by omega)) (v 210 (by omega)) (v 211 (by omega)) (v 214 (by omega)) (v 215 (by omega)) (v 201 (by omega))
  · intro k hk
    rw [a 3 (by omega) (by omega), a 8 (by omega) (by omega), a 14 (by omega) (by omega), a131]
    intro q
    rcases s16 k hk q with g | g
    · exact Or.inl g
    · right; split
      · omega
      · exact g
  · right; unfold q_mark; rw [mj_up_at, if_pos rfl]
  · intro q; unfold q_mark at q; rw [mj_up_at, if_pos rfl] at q; omega
end re13
