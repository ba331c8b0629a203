section op11
variable {A B C M N T V W X Y M' V' A' : mj_M} {x : Nat} {n m : Int} {e e' : Nat}
theorem q_shor : ∀ s : Fin 5, ∀ b : Fin 1024, mj_or (mj_shl (s.val : Int) 10) (b.val : Int) = 1024 * (s.val : Int) + (b.val : Int) := by decide +kernel
theorem q_orb : ∀ t : Fin 10, ∀ b : Fin 1024, 0 ≤ mj_or (b.val : Int) (mj_shl 1 (t.val : Int)) ∧ mj_or (b.val : Int) (mj_shl 1 (t.val : Int)) < 1024 := by decide +kernel
theorem q_or0 : ∀ b : Fin 1024, mj_or (b.val : Int) 0 = (b.val : Int) := by decide +kernel
theorem q_shor_i {s b : Int} (hs : 0 ≤ s ∧ s ≤ 4) (hb : 0 ≤ b ∧ b < 1024) : mj_or (mj_shl s 10) b = 1024 * s + b := by
  have h := q_shor ⟨s.toNat, by omega⟩ ⟨b.toNat, by omega⟩
  simp only [] at h
  rw [show ((s.toNat : Nat) : Int) = s by omega, show ((b.toNat : Nat) : Int) = b by omega] at h
  exact h
theorem q_orb_i {t : Nat} {b : Int} (ht : t < 10) (hb : 0 ≤ b ∧ b < 1024) : 0 ≤ mj_or b (mj_shl 1 (t : Int)) ∧ mj_or b (mj_shl 1 (t : Int)) < 1024 := by
  have h := q_orb ⟨t, ht⟩ ⟨b.toNat, by omega⟩
  simp only [] at h
  rw [show ((b.toNat : Nat) : Int) = b by omega] at h
  exact h
theorem q_or0_i {b : Int} (hb : 0 ≤ b ∧ b < 1024) : mj_or b 0 = b := by
  have h := q_or0 ⟨b.toNat, by omega⟩
  simp only [] at h
  rw [show ((b.toNat : Nat) : Int) = b by omega] at h
  exact h
/-- the empty slots, bit by bit, on both sides -/
theorem z_es {r : Nat} (h4 : V 24 r ≠ 4) (hE : ∀ t : Nat, t < 10 → (q_ta A (A 23 r) (t : Int) = -1 ↔ V 42 (10 * V 23 r + (t : Int)).toNat = -1)) : ∀ (k t : Nat) (b : Int), t + k = 10 → 0 ≤ b ∧ b < 1024 →
    q_es A (r : Int) k t b = m_es V r k t b ∧ 0 ≤ m_es V r k t b ∧ m_es V r k t b < 1024 := by
  intro k
  induction k with
  | zero => intro t b _ hb; exact ⟨rfl, hb⟩
  | succ k ih =>
    intro t b ht hb
    rw [q_es, m_es]
    simp only [Int.toNat_natCast]
    have hE := hE t (by omega)
    by_cases c : V 42 (10 * V 23 r + (t : Int)).toNat = -1
    · rw [if_pos (hE.mpr c), if_pos (Or.inr c)]
      exact ih (t + 1) _ (by omega) (q_orb_i (by omega) hb)
    · rw [if_neg (fun q => c (hE.mp q)), if_neg (fun q => q.elim h4 c), q_or0_i hb]
      exact ih (t + 1) _ (by omega) hb
theorem m_es4 {r : Nat} (h4 : V 24 r = 4) : m_esV V r = 1023 := by
  unfold m_esV
  simp only [m_es, h4, true_or, if_true]
  decide +kernel
/-- what is seen of a runner, on both sides -/
theorem z_esV {r : Nat} (h : z_Rl 8 A V) (hr : (r : Int) < A 22 13) : (0 ≤ A 24 r ∧ A 24 r ≤ 4) ∧ (0 ≤ q_esV A (r : Int) ∧ q_esV A (r : Int) < 1024) ∧ V 24 r = A 24 r ∧ V 25 r = A 25 r ∧ V 26 r = A 26 r ∧ m_esV V r = (if A 24 r = 4 then 1023 else q_esV A (r : Int)) ∧ (A 24 r = 4 → q_esV A (r : Int) = 0) := by
  have hS := h.1
  have w := hS.1.1
  have hsz := q_w22_13 w
  have hRR := hS.2.2.2.2.2.2.2.2.2.2.1
  have hQ := hRR.2.2.1 r hr
  obtain ⟨v23, v24, v2526, -⟩ := hRR.1.2 r (by omega)
  obtain ⟨v25, v26⟩ := v2526 (by omega)
  have h23 := q_w23 (i := r) w (by omega)
  unfold q_esV
  simp only [Int.toNat_natCast]
  by_cases c : A 24 r = 4
  · rw [if_pos c, if_pos c]
    exact ⟨hQ.1, by omega, v24, v25, v26, m_es4 (by rw [v24]; exact c), fun _ => rfl⟩
  · rw [if_neg c, if_neg c]
    have h14 := (hS.2.2.2.2.2.2.2.2.2.2.2.1 r hr).1 c
    obtain ⟨e1, e2⟩ := z_es (A := A) (V := V) (r := r) (by rw [v24]; exact c) (fun t ht => by
      rw [z_at hS.2.2.2.2.1 h23 h14]
      unfold m_at
      rw [if_pos (by omega), v23]) 10 0 0 rfl (by omega)
    rw [e1]
    exact ⟨hQ.1, e2, v24, v25, v26, rfl, fun q => absurd q c⟩
/-- the rule of the day is not looked at -/
theorem z_Rl_19 {v : Int} (h : z_Rl e A V) : z_Rl e (mj_up A 1 9 v) V := by
  obtain ⟨hS, hF, hH, h0⟩ := h
  have n : ∀ a, a ≠ 1 → mj_up A 1 9 v a = A a := fun a q => mj_up_ne q
  refine ⟨z_SW_1 hS (q_wr_up hS.1.1 (by simp [q_okv])) hS.2.2.2.2.2.2.1.1 n (fun _ _ => rfl) (by rw [mj_up_at, if_neg (by omega)]) ?_, z_F_c hF (n _ (by omega)) (n _ (by omega)), z_HT_c hH (n _ (by omega)) (n _ (by omega)) (n _ (by omega)), by rw [n _ (by omega)]; exact h0⟩
  have hG := hS.2.2.2.2.2.2.2.2.2.2.2.2.2.1
  have g : ∀ j, j ≠ 9 → mj_up A 1 9 v 1 j = A 1 j := fun j q => by rw [mj_up_at, if_neg q]
  refine ⟨by rw [g _ (by omega)]; exact hG.1, by rw [g _ (by omega)]; exact hG.2.1, by rw [g _ (by omega)]; exact hG.2.2.1, rfl, by rw [g _ (by omega)]; exact hG.2.2.2.2.1, by rw [g _ (by omega)]; exact hG.2.2.2.2.2.1, fun j hj => ?_⟩
  rw [n 43 (by omega)]; exact hG.2.2.2.2.2.2 j hj
theorem z_I_19 {v : Int} (h : z_I n A V) : z_I n (mj_up A 1 9 v) V := by
  refine ⟨z_Rl_19 h.1, ?_, h.2.2.1, fun i hi => by rw [mj_up_ne (by omega)]; exact h.2.2.2 i hi⟩
  have : mj_up A 1 9 v 1 7 = A 1 7 := by rw [mj_up_at, if_neg (by omega)]
  rw [this]
  exact z_K_c h.2.1 (mj_up_ne (by omega)) (mj_up_ne (by omega)) (mj_up_ne (by omega)) (mj_up_ne (by omega))
theorem z_I_26 {f : Nat} {v : Int} (h : z_I n A V) : z_I n (mj_up A 26 f v) (mj_up V 26 f v) := by
  have hRl := h.1
  have nn : ∀ (X : mj_M) a, a ≠ 26 → mj_up X 26 f v a = X a := fun X a q => mj_up_ne q
  have hok := hRl.1.2.2.2.2.2.2.1
  have hRR := hRl.1.2.2.2.2.2.2.2.2.2.2.1
  refine z_I_K h ⟨?_, z_F_c hRl.2.1 (nn A 130 (by omega)) (nn A 131 (by omega)), z_HT_c hRl.2.2.1 (nn A 14 (by omega)) (nn A 3 (by omega)) (nn A 4 (by omega)), by rw [nn A 130 (by omega)]; exact hRl.2.2.2⟩ (by rw [nn A 1 (by omega)]) (q_cK_up q_cK_r (by omega)) (m_cB_up m_cB_r (by omega)) (q_ck_up q_ck_r (by omega)) (by omega)
  refine z_SW_pa (e := 8) hRl.1 (q_wr_up hRl.1.1.1 (by simp [q_okv])) (q_wr_up hok.1 (by simp [q_okv])) (fun o _ q => nn A o q) (fun o _ q => nn V o q) (fun k hk _ => ?_)
  obtain ⟨-, -, v2526, -⟩ := hRR.1.2 k hk
  obtain ⟨v25, v26⟩ := v2526 (by omega)
  rw [nn A 25 (by omega), nn V 25 (by omega), mj_up_at, mj_up_at, v26]
  exact ⟨v25, rfl⟩
end op11
