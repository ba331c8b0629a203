section re33
variable {A B C V W A' V' : mj_M} {e e' : Nat}
/-- what is marked by the late ones goes first -/
theorem z_mdl : ∀ (n t : Nat) (c : Int) (A V : mj_M), t + n = 120 → z_SW 8 A V → z_F A → z_HT A 40 → z_SW 8 (q_md 3 n t c A) (m_mdV n t c V) ∧ z_F (q_md 3 n t c A) ∧ z_HT (q_md 3 n t c A) 40 ∧ c ≤ m_mdC n t c V ∧ (m_mdC n t c V = c → q_md 3 n t c A = A ∧ m_mdV n t c V = V) := by
  intro n
  induction n with
  | zero => intro t c A V _ h1 h2 h3; exact ⟨h1, h2, h3, Int.le_refl _, fun _ => ⟨rfl, rfl⟩⟩
  | succ n ih =>
    intro t c A V ht h1 h2 h3
    rw [q_md, m_mdV, m_mdC]
    by_cases c3 : c < 3
    · rw [if_pos c3, if_pos c3, if_pos c3]
      have hT := h1.2.1 t (by omega)
      by_cases q : A 3 t ≠ -1 ∧ A 12 t ≠ 0
      · have q2 : ¬ (V 212 t = 0 ∨ V 12 t = 0) := by
          rcases hT with g | g
          · exact absurd g.1 q.1
          · intro g2
            rcases g2 with g2 | g2
            · omega
            · rw [g.2.2.2.2.2.2.2.2.2.2.2] at g2; exact q.2 g2
        rw [if_pos q, if_neg q2, if_neg q2]
        obtain ⟨m1, m2⟩ := z_SW_mark h1 (t := (t : Int)) (by omega) (by simp only [Int.toNat_natCast]; exact q.1)
        have m3 : z_HT (q_mark A t) 40 := z_HT_c h3 (by unfold q_mark; rw [mj_up_ne (by omega), mj_up_ne (by omega)]) (by unfold q_mark; rw [mj_up_ne (by omega), mj_up_ne (by omega)]) (by unfold q_mark; rw [mj_up_ne (by omega), mj_up_ne (by omega)])
        obtain ⟨i1, i2, i3, i4, -⟩ := ih (t + 1) (c + 1) (q_mark A t) (m_mk V t) (by omega) m1 m2 m3
        exact ⟨i1, i2, i3, by omega, fun g => by omega⟩
      · have q2 : V 212 t = 0 ∨ V 12 t = 0 := by
          rcases hT with g | g
          · exact Or.inl g.2
          · right
            rw [g.2.2.2.2.2.2.2.2.2.2.2]
            by_cases g3 : A 12 t = 0
            · exact g3
            · exact absurd ⟨g.1, g3⟩ q
        rw [if_neg q, if_pos q2, if_pos q2]
        exact ih (t + 1) c A V (by omega) h1 h2 h3
    · rw [if_neg c3, if_neg c3, if_neg c3]
      exact ⟨h1, h2, h3, Int.le_refl _, fun _ => ⟨rfl, rfl⟩⟩
theorem z_pc (h : z_Rl 8 A V) : z_Rl 8 (q_tk1 A) (m_pc V) := by
  obtain ⟨hS, hF, hH, h0⟩ := h
  obtain ⟨i1, i2, i3, i4, i5⟩ := z_mdl 120 0 0 A V rfl hS hF hH
  have f := z_fin8 i1 i2 i3
  unfold q_tk1 m_pc
  by_cases c : 0 < m_mdC 120 0 0 V
  · rw [if_pos c]; exact f
  · rw [if_neg c]
    obtain ⟨j1, j2⟩ := i5 (by omega)
    rw [j2] at i1 f ⊢
    rw [j1] at i1 i2 i3
    rw [z_swp_no hS hF hH h0] at f
    exact f
/-- the same is chosen -/
theorem z_chF (h : z_RR 8 A V) (h10 : V 1 10 = A 1 10) : q_chF V = q_chF A := by
  have hs := q_w22_13 h.2.2.2.2
  have h22 : V 22 13 = A 22 13 := h.1.1
  have key : ∀ (n : Nat) (i : Int), n = 0 ∨ 0 < A 22 13 → q_cf V n i = q_cf A n i := by
    intro n
    induction n with
    | zero => intro i _; rfl
    | succ n ih =>
      intro i hh
      have hp : 0 < A 22 13 := by omega
      have e2 := Int.emod_nonneg (A 1 10 + i) (show A 22 13 ≠ 0 by omega)
      have e3 := Int.emod_lt_of_pos (A 1 10 + i) hp
      rw [q_cf, q_cf, h22, h10, (h.1.2 ((A 1 10 + i) % A 22 13).toNat (by omega)).2.1, ih (i + 1) (Or.inr hp)]
  unfold q_chF
  rw [h22]
  exact key _ _ (by omega)
theorem z_svs (h : z_RR 8 A V) : ∀ (n : Nat) (r : Int), 0 ≤ r ∧ r < A 22 13 → m_sv V n r = q_sv A n r ∧ 0 ≤ q_sv A n r ∧ q_sv A n r < A 22 13 := by
  have hs := q_w22_13 h.2.2.2.2
  intro n
  induction n with
  | zero => intro r hr; exact ⟨rfl, hr⟩
  | succ n ih =>
    intro r hr
    rw [m_sv, q_sv]
    have hR := h.1.2 r.toNat (by omega)
    have hQ := (h.2.2.1 r.toNat (by omega)).2.2.1
    have h29 := q_w29 (i := r.toNat) h.2.2.2.2 (by omega)
    rw [hR.2.1, (z_R_30 h.1 (r := r.toNat) (by omega)).2]
    by_cases c : A 29 r.toNat = -1
    · rw [if_neg (fun q => q.2 c), if_pos c]; exact ⟨rfl, hr⟩
    · obtain ⟨q1, q2, q3⟩ := hQ c
      rw [if_pos ⟨q1, c⟩, if_neg c]
      exact ih _ ⟨by omega, q2⟩
theorem z_chs (hS : z_SW 8 A V) : q_tkR A = m_chS V (A 1 9) := by
  have h := hS.2.2.2.2.2.2.2.2.2.2.1
  have hG := hS.2.2.2.2.2.2.2.2.2.2.2.2.2.1
  have hs := q_w22_13 h.2.2.2.2
  have h22 : V 22 13 = A 22 13 := h.1.1
  unfold q_tkR m_chS
  by_cases c : A 1 9 = 0
  · rw [if_pos c, if_pos c]; exact (z_chF h hG.2.2.2.2.1).symm
  · rw [if_neg c, if_neg c]
    unfold q_chR m_chR
    rw [hG.1, hG.2.1]
    by_cases c1 : A 1 6 = 0
    · rw [if_pos c1, if_pos c1]
    · rw [if_neg c1, if_neg c1]
      have h6 := q_w1_6 hS.1.1
      have e2 := Int.emod_nonneg (A 1 7) c1
      have e3 := Int.emod_lt_of_pos (A 1 7) (show 0 < A 1 6 by omega)
      rw [hG.2.2.2.2.2.2 (A 1 7 % A 1 6).toNat (by omega)]
      generalize A 43 (A 1 7 % A 1 6).toNat = v
      have ert : m_rt V v = q_rt A v := by
        unfold m_rt q_rt
        rw [h22]
        by_cases q : 0 ≤ v ∧ v < A 22 13
        · rw [if_pos q, if_pos (by omega)]
        · rw [if_neg q, if_neg (by omega)]
      rw [ert]
      by_cases c2 : q_rt A v = 0
      · rw [if_pos c2, if_pos c2]
      · rw [if_neg c2, if_neg c2]
        have hv : 0 ≤ v ∧ v < A 22 13 := by
          unfold q_rt at c2
          split at c2
          · assumption
          · exact absurd rfl c2
        obtain ⟨k1, k2, k3⟩ := z_svs h 8 v hv
        rw [k1, (h.1.2 (q_sv A 8 v).toNat (by omega)).2.1]
        have er : q_rdy A (q_sv A 8 v) = if A 24 (q_sv A 8 v).toNat = 0 then 1 else 0 := by
          unfold q_rdy
          by_cases q : A 24 (q_sv A 8 v).toNat = 0
          · rw [if_pos q, if_pos ⟨k2, k3, q⟩]
          · rw [if_neg q, if_neg (fun q2 => q q2.2.2)]
        rw [er]
        by_cases q : A 24 (q_sv A 8 v).toNat = 0
        · simp only [if_pos q, if_true]
        · simp only [if_neg q]; rfl
/-- what is kept between the calls -/
def z_I (n : Int) (A V : mj_M) : Prop := z_Rl 8 A V ∧ z_K (A 1 7) A ∧ m_B n V ∧ q_o n A
theorem z_sok {N : Int} (h : z_RR 8 A V) (hK : z_K N A) : m_sok V := by
  have hs := q_w22_13 h.2.2.2.2
  refine ⟨fun k => (q_sum (fun j => if A 24 k = 2 ∧ (A 24 j ≠ 2 ∨ A 34 k < A 34 j) then 1 else 0) 8 0).toNat, ?_, ?_⟩
  · intro k hk
    have := q_sum_lt (f := fun j => if A 24 k = 2 ∧ (A 24 j ≠ 2 ∨ A 34 k < A 34 j) then (1 : Int) else 0) (g := fun _ => 1) (fun j => by show (if A 24 k = 2 ∧ (A 24 j ≠ 2 ∨ A 34 k < A 34 j) then (1 : Int) else 0) ≤ 1; split <;> omega) 8 0 k (by omega) (by omega) (by show (if A 24 k = 2 ∧ (A 24 k ≠ 2 ∨ A 34 k < A 34 k) then (1 : Int) else 0) < 1; rw [if_neg (by omega)]; omega)
    have h8 : q_sum (fun _ => (1 : Int)) 8 0 = 8 := by decide
    show (q_sum (fun j => if A 24 k = 2 ∧ (A 24 j ≠ 2 ∨ A 34 k < A 34 j) then (1 : Int) else 0) 8 0).toNat < 8
    omega
  · intro k hk q1 q2
    rw [(h.1.2 k hk).2.1] at q1
    rw [(z_R_30 h.1 hk).2] at q2 ⊢
    have hk2 : (k : Int) < A 22 13 := by
      rcases Int.lt_or_le (k : Int) (A 22 13) with g | g
      · exact g
      · exact absurd q1 ((hK k hk).2.2 g).2
    obtain ⟨g1, g2, g3⟩ := (h.2.2.1 k hk2).2.2.1 q2
    have g4 := (h.2.2.1 k hk2).2.2.2.2 q2
    have h29 := q_w29 (i := k) h.2.2.2.2 hk
    show (q_sum (fun j => if A 24 (A 29 k).toNat = 2 ∧ (A 24 j ≠ 2 ∨ A 34 (A 29 k).toNat < A 34 j) then (1 : Int) else 0) 8 0).toNat < (q_sum (fun j => if A 24 k = 2 ∧ (A 24 j ≠ 2 ∨ A 34 k < A 34 j) then (1 : Int) else 0) 8 0).toNat
    have h0 : 0 ≤ q_sum (fun j => if A 24 (A 29 k).toNat = 2 ∧ (A 24 j ≠ 2 ∨ A 34 (A 29 k).toNat < A 34 j) then (1 : Int) else 0) 8 0 := (q_sum_b (fun j => by show 0 ≤ (if A 24 (A 29 k).toNat = 2 ∧ (A 24 j ≠ 2 ∨ A 34 (A 29 k).toNat < A 34 j) then (1 : Int) else 0) ∧ (if A 24 (A 29 k).toNat = 2 ∧ (A 24 j ≠ 2 ∨ A 34 (A 29 k).toNat < A 34 j) then (1 : Int) else 0) ≤ 1; split <;> omega) 8 0).1
    have := q_sum_lt (f := fun j => if A 24 (A 29 k).toNat = 2 ∧ (A 24 j ≠ 2 ∨ A 34 (A 29 k).toNat < A 34 j) then (1 : Int) else 0) (g := fun j => if A 24 k = 2 ∧ (A 24 j ≠ 2 ∨ A 34 k < A 34 j) then (1 : Int) else 0) (fun j => ?_) 8 0 (A 29 k).toNat (by omega) (by omega) ?_
    · omega
    · show (if A 24 (A 29 k).toNat = 2 ∧ (A 24 j ≠ 2 ∨ A 34 (A 29 k).toNat < A 34 j) then (1 : Int) else 0) ≤ (if A 24 k = 2 ∧ (A 24 j ≠ 2 ∨ A 34 k < A 34 j) then (1 : Int) else 0)
      by_cases g5 : A 24 (A 29 k).toNat = 2 ∧ (A 24 j ≠ 2 ∨ A 34 (A 29 k).toNat < A 34 j)
      · have := g4 g5.1
        rw [if_pos g5, if_pos (by omega)]; omega
      · rw [if_neg g5]; split <;> omega
    · show (if A 24 (A 29 k).toNat = 2 ∧ (A 24 (A 29 k).toNat ≠ 2 ∨ A 34 (A 29 k).toNat < A 34 (A 29 k).toNat) then (1 : Int) else 0) < (if A 24 k = 2 ∧ (A 24 (A 29 k).toNat ≠ 2 ∨ A 34 k < A 34 (A 29 k).toNat) then (1 : Int) else 0)
      rw [if_neg (by omega), if_pos ?_]
      · omega
      · refine ⟨q1, ?_⟩
        by_cases g5 : A 24 (A 29 k).toNat = 2
        · exact Or.inr (g4 g5)
        · exact Or.inl g5
/-- what a tick wants of the other side -/
theorem z_hy {n N : Int} (h : z_Rl 8 A V) (hK : z_K N A) (hB : m_B n V) (hn : n < 99999999) : m_hy V := by
  have hS := h.1
  have hRR := hS.2.2.2.2.2.2.2.2.2.2.1
  have hs := q_w22_13 hS.1.1
  refine ⟨hS.2.2.2.2.2.2.1, ?_, fun i hi => by have := hB.1 i hi; omega, z_sok hRR hK, ?_, ?_⟩
  · intro i hi q
    rw [hS.2.2.2.2.1 i hi] at q ⊢
    have g := (hS.2.2.1.2 i hi q).1
    have h42 := q_w42 (i := i) hS.1.1 hi
    rcases hS.2.1 (A 42 i).toNat (by omega) with t | t
    · exact absurd t.1 g
    · omega
  · intro r hr2 q
    rw [hRR.1.1] at hr2
    have hr : r < 8 := by omega
    rw [(z_R_30 hRR.1 hr).1] at q ⊢
    obtain ⟨g1, g2, g3⟩ := (hRR.2.2.1 r hr2).2.2.2.1 q
    have h30 := q_w30 (i := r) hS.1.1 hr
    rw [(hRR.1.2 (A 30 r).toNat (by omega)).2.2.2.2.1]
    exact (hRR.2.2.1 (A 30 r).toNat (by omega)).2.1.mpr (Or.inr g2)
  · intro r hr2 q
    rw [hRR.1.1] at hr2 ⊢
    have hr : r < 8 := by omega
    rw [(z_R_30 hRR.1 hr).2] at q ⊢
    exact ((hRR.2.2.1 r hr2).2.2.1 q).2.1
theorem z_Rl_w (h : z_Rl e A V) : q_wr A ∧ m_ok V := ⟨h.1.1.1, h.1.2.2.2.2.2.2.1⟩
theorem z_Rl_1 (h : z_Rl e A V) : V 1 6 = A 1 6 ∧ V 1 7 = A 1 7 ∧ V 1 8 = A 1 8 ∧ V 1 10 = A 1 10 ∧ V 1 11 = A 1 11 := by
  have hG := h.1.2.2.2.2.2.2.2.2.2.2.2.2.2.1
  exact ⟨hG.1, hG.2.1, hG.2.2.1, hG.2.2.2.2.1, hG.2.2.2.2.2.1⟩
/-- a number of the first row changes on both sides -/
theorem z_SW_1 (h : z_SW e A V) (w : q_wr A') (wV : q_wr V') (oA : ∀ a, a ≠ 1 → A' a = A a) (oV : ∀ a, a ≠ 1 → V' a = V a) (h8 : A' 1 8 = A 1 8) (hG : z_G A' V') : z_SW e A' V' := by
  have hRR := z_RR_o h.2.2.2.2.2.2.2.2.2.2.1 w (fun a h1 _ => oA a (by omega)) (fun a h1 _ => oV a (by omega)) (by rw [oV 201 (by omega)])
  have hQH := z_QH_c h.2.2.2.2.2.2.2.2.2.2.2.1 (oA 22 (by omega)) (oA 24 (by omega)) (oA 14 (by omega)) (oA 23 (by omega)) (oA 28 (by omega)) (oA 27 (by omega))
  obtain ⟨s1, s2, s3, s4, s5, s6, s7, s8, s9, s10, s11, s12, s13, s14, s15, s16, s17, s18⟩ := h
  have a : ∀ k, (k < 22 ∨ 34 < k) → k ≠ 1 → A' k = A k := fun k _ h => oA k h
  have v : ∀ k, (k < 22 ∨ 34 < k) → k ≠ 1 → k ≠ 201 → V' k = V k := fun k _ h _ => oV k h
  have h201 : V' 201 1 = V 201 1 := by rw [oV 201 (by omega)]
  have h1 : ∀ j, j = 8 → A' 1 j = A 1 j := fun j q => by rw [q]; exact h8
  refine ⟨z_pre_c s1 w (a 3 (by omega) (by omega)) (a 7 (by omega) (by omega)) (a 131 (by omega) (by omega)), ?_, z_tb_c s3 (a 3 (by omega) (by omega)) (a 8 (by omega) (by omega)) (a 9 (by omega) (by omega)) (a 42 (by omega) (by omega)), z_rm_c s4 (a 3 (by omega) (by omega)) (a 6 (by omega) (by omega)) h8, by rw [a 42 (by omega) (by omega), v 42 (by omega) (by omega) (by omega)]; exact s5,
    z_Mk_c s6 (a 3 (by omega) (by omega)) (a 131 (by omega) (by omega)) (v 131 (by omega) (by omega) (by omega)), m_ok_same s7 wV (v 7 (by omega) (by omega) (by omega)) (v 212 (by omega) (by omega) (by omega)), ?_, ?_, ?_, hRR, hQH, ?_, ?_, z_TH_c s15 (a 3 (by omega) (by omega)) (a 4 (by omega) (by omega)) (a 14 (by omega) (by omega)), z_TB_c s16 (a 3 (by omega) (by omega)) (a 14 (by omega) (by omega)) (a 8 (by omega) (by omega)) (a 131 (by omega) (by omega)), z_TR_c s17 (a 3 (by omega) (by omega)) (a 5 (by omega) (by omega)) (a 4 (by omega) (by omega)) (a 12 (by omega) (by omega)), z_PR_c s18 (a 9001 (by omega) (by omega))⟩
  · exact z_T_c s2 (a 3 (by omega) (by omega)) (a 4 (by omega) (by omega)) (a 5 (by omega) (by omega)) (a 6 (by omega) (by omega)) (a 7 (by omega) (by omega)) (a 8 (by omega) (by omega)) (a 9 (by omega) (by omega)) (a 10 (by omega) (by omega)) (a 11 (by omega) (by omega)) (a 12 (by omega) (by omega)) (v 212 (by omega) (by omega) (by omega)) (v 3 (by omega) (by omega) (by omega)) (v 4 (by omega) (by omega) (by omega)) (v 5 (by omega) (by omega) (by omega)) (v 6 (by omega) (by omega) (by omega)) (v 7 (by omega) (by omega) (by omega)) (v 8 (by omega) (by omega) (by omega)) (v 9 (by omega) (by omega) (by omega)) (v 10 (by omega) (by omega) (by omega)) (v 11 (by omega) (by omega) (by omega)) (v 12 (by omega) (by omega) (by omega))
  · exact z_H_c s8 (a 14 (by omega) (by omega)) (a 15 (by omega) (by omega)) (a 16 (by omega) (by omega)) (a 17 (by omega) (by omega)) (a 18 (by omega) (by omega)) (a 19 (by omega) (by omega)) (v 210 (by omega) (by omega) (by omega)) (v 14 (by omega) (by omega) (by omega)) (v 15 (by omega) (by omega) (by omega)) (v 16 (by omega) (by omega) (by omega)) (v 17 (by omega) (by omega) (by omega)) (v 18 (by omega) (by omega) (by omega)) (v 19 (by omega) (by omega) (by omega))
  · exact z_H2_c s9 (a 14 (by omega) (by omega)) (a 15 (by omega) (by omega)) (a 16 (by omega) (by omega)) (a 17 (by omega) (by omega)) (a 18 (by omega) (by omega)) (a 19 (by omega) (by omega)) (a 3 (by omega) (by omega))
  · exact z_H3_c s10 (a 14 (by omega) (by omega)) (a 17 (by omega) (by omega)) (a 18 (by omega) (by omega)) (a 20 (by omega) (by omega)) (a 21 (by omega) (by omega)) (v 20 (by omega) (by omega) (by omega)) (v 21 (by omega) (by omega) (by omega))
  · unfold z_W z_al at s13 ⊢
    rw [a 36 (by omega) (by omega), a 37 (by omega) (by omega), a 38 (by omega) (by omega), a 39 (by omega) (by omega), a 40 (by omega) (by omega), a 41 (by omega) (by omega), v 36 (by omega) (by omega) (by omega), v 37 (by omega) (by omega) (by omega), v 38 (by omega) (by omega) (by omega), v 39 (by omega) (by omega) (by omega), v 40 (by omega) (by omega) (by omega), v 210 (by omega) (by omega) (by omega), v 211 (by omega) (by omega) (by omega), v 214 (by omega) (by omega) (by omega), v 215 (by omega) (by omega) (by omega), h201]
    exact s13
  · exact hG
theorem z_Rl_1u {i : Nat} {v : Int} (h : z_Rl e A V) (hi : i ≠ 8) (hw : q_okv 1 i v) : z_Rl e (mj_up A 1 i v) (mj_up V 1 i v) := by
  obtain ⟨hS, hF, hH, h0⟩ := h
  have n : ∀ (X : mj_M) a, a ≠ 1 → mj_up X 1 i v a = X a := fun X a q => mj_up_ne q
  refine ⟨z_SW_1 hS (q_wr_up hS.1.1 hw) (q_wr_up hS.2.2.2.2.2.2.1.1 hw) (n A) (n V) (by rw [mj_up_at, if_neg (by omega)]) ?_, z_F_c hF (n A _ (by omega)) (n A _ (by omega)), z_HT_c hH (n A _ (by omega)) (n A _ (by omega)) (n A _ (by omega)), by rw [n A _ (by omega)]; exact h0⟩
  have hG := hS.2.2.2.2.2.2.2.2.2.2.2.2.2.1
  have g : ∀ j, V 1 j = A 1 j → mj_up V 1 i v 1 j = mj_up A 1 i v 1 j := fun j q => by rw [mj_up_at, mj_up_at, q]
  refine ⟨g _ hG.1, g _ hG.2.1, g _ hG.2.2.1, rfl, g _ hG.2.2.2.2.1, g _ hG.2.2.2.2.2.1, fun j hj => ?_⟩
  rw [n A 43 (by omega), n V 43 (by omega)]
  exact hG.2.2.2.2.2.2 j hj
theorem q_ch_1 {M A : mj_M} (h : q_ch M A) {j : Nat} (hj : j ≠ 8 ∧ j ≠ 10 ∧ j ≠ 11) : A 1 j = M 1 j := h 1 j (by unfold q_mut; omega)
/-- a tick on both sides -/
theorem z_tick {n : Int} (h : z_I n A V) (hn : 0 ≤ n ∧ n < 99999999) (hT : A 1 7 < 9999) : m_hy (m_pc V) ∧ q_few (q_tk1 A) 99999999 ∧ q_tickR A = m_tkR V (A 1 9) ∧ z_I (n + 1) (q_tick A) (m_tkM V (A 1 9)) := by
  obtain ⟨hRl, hK, hB, hO⟩ := h
  have wA := hRl.1.1.1
  have h17 := q_w1_7 wA
  have P1 := z_pc hRl
  have K1 : z_K (A 1 7) (q_tk1 A) := q_sweep_K.1 _ ((q_md_K 120 0 0 A).1 _ hK)
  have B1 := m_B_c hB (m_pc_B (V := V))
  have O1 : q_o n (q_tk1 A) := q_o_z hO (q_ck_t (q_md_z 120 0 0 A) q_sweep_z)
  have c1 := q_tk1_c (M := A)
  have e17 : q_tk1 A 1 7 = A 1 7 := q_ch_1 c1 (by omega)
  have e19 : q_tk1 A 1 9 = A 1 9 := q_ch_1 c1 (by omega)
  have hy := z_hy P1 K1 B1 (by omega)
  have eR : q_tickR A = m_tkR V (A 1 9) := by
    unfold q_tickR m_tkR
    rw [z_chs P1.1, e19]
  have OT := q_o_tick wA hO hn.1 hn.2
  have BT := m_tkM_B (rl := A 1 9) hB hn hy.1.1
  refine ⟨hy, q_o_few O1 hn.2, eR, ?_⟩
  have hin := q_tkR_in P1.1.1.1
  have hRd : q_tkR (q_tk1 A) = m_tkR V (A 1 9) := eR
  have hEnd : ∀ X Y : mj_M, z_Rl 8 X Y → X 1 7 = A 1 7 → z_K (A 1 7 + 1) X → z_Rl 8 (mj_up X 1 7 (mj_w (X 1 7 + 1))) (mj_up Y 1 7 (mj_w (Y 1 7 + 1))) ∧ z_K (mj_up X 1 7 (mj_w (X 1 7 + 1)) 1 7) (mj_up X 1 7 (mj_w (X 1 7 + 1))) := by
    intro X Y f1 f2 f3
    have e0 : mj_w (A 1 7 + 1) = A 1 7 + 1 := mj_w_id2 (by omega) (by omega)
    rw [(z_Rl_1 f1).2.1, f2, e0]
    refine ⟨z_Rl_1u f1 (by omega) (by simp [q_okv]; omega), ?_⟩
    rw [mj_up_at, if_pos rfl]
    exact z_K_c f3 (mj_up_ne (by omega)) (mj_up_ne (by omega)) (mj_up_ne (by omega)) (mj_up_ne (by omega))
  have main : z_Rl 8 (q_tick A) (m_tkM V (A 1 9)) ∧ z_K (q_tick A 1 7) (q_tick A) := by
    unfold q_tick m_tkM
    simp only []
    rw [hRd] at hin ⊢
    unfold q_tk2
    by_cases c : m_tkR V (A 1 9) = -1
    · rw [if_pos c, if_pos c]
      exact hEnd _ _ P1 e17 (z_K_m K1 (by omega))
    · rw [if_neg c, if_neg c]
      have hin2 : 0 ≤ m_tkR V (A 1 9) ∧ m_tkR V (A 1 9) < q_tk1 A 22 13 ∧ q_tk1 A 24 (m_tkR V (A 1 9)).toNat = 0 := by
        rcases hin with q | q
        · exact absurd q c
        · exact q
      obtain ⟨r, hr⟩ : ∃ r : Nat, m_tkR V (A 1 9) = r := ⟨(m_tkR V (A 1 9)).toNat, by omega⟩
      rw [hr] at hin2 ⊢
      simp only [Int.toNat_natCast] at hin2
      have hsz := q_w22_13 P1.1.1.1
      unfold m_tkB
      have P2 := z_Rl_1u (i := 10) (v := (r : Int)) P1 (by omega) (by simp [q_okv]; omega)
      have n2 : ∀ (X : mj_M) a, a ≠ 1 → mj_up X 1 10 (r : Int) a = X a := fun X a q => mj_up_ne q
      have K2 : z_K (A 1 7) (mj_up (q_tk1 A) 1 10 r) := z_K_c K1 (n2 _ _ (by omega)) (n2 _ _ (by omega)) (n2 _ _ (by omega)) (n2 _ _ (by omega))
      have e2 : mj_up (q_tk1 A) 1 10 (r : Int) 1 7 = A 1 7 := by rw [mj_up_at, if_neg (by omega)]; exact e17
      have D := z_do (r := r) P2 (by rw [n2 _ 22 (by omega)]; exact hin2.2.1) (by rw [n2 _ 24 (by omega)]; exact hin2.2.2)
        (by intro q hq h2; rw [e2]; exact (K2 q (by rw [n2 _ 22 (by omega)] at hq; omega)).1 h2)
        (by intro q hq h2; exact (K2 q (by rw [n2 _ 22 (by omega)] at hq; omega)).2.1 h2)
        (by rw [n2 _ 201 (by omega)]; have := B1.2.1; omega) (by rw [n2 _ 201 (by omega)]; have := B1.2.2; omega)
        (by unfold q_few; rw [n2 _ 17 (by omega)]; exact q_o_few O1 hn.2) (by unfold q_few; rw [n2 _ 17 (by omega)]; exact hy.2.2.1)
      refine hEnd _ _ D ?_ ?_
      · have c3 := q_ch_t (q_tkD_c (M := mj_up (q_tk1 A) 1 10 (r : Int)) (r := (r : Int))) q_sweep_c
        rw [q_ch_1 c3 (by omega)]; exact e2
      · refine q_sweep_K.1 _ (q_tkD_K (z_K_m K2 (by omega)) P2.1.1.1 (by rw [n2 _ 22 (by omega)]; exact hin2.2.1) (by rw [e2]; omega))
  exact ⟨main.1, main.2, BT, OT⟩
end re33
