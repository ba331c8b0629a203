section op23
variable {A B C M N S T V W X Y M' V' A' : mj_M} {x : Nat} {n m : Int} {e e' : Nat}
theorem z_t_0 (hs : 0 ≤ M 0 15 ∧ M 0 15 ≤ 160) (h9 : N 172 9 = M 0 15) (hr : ∀ j : Nat, j < 160 → N 179 j = M 170 j) : z_t (q_pa0 M (M 0 15)) (m_t0 N) := by
  refine ⟨?_, ?_, fun j hj => ?_, m_t0_tx (by omega), ?_⟩
  · unfold q_pa0 m_t0
    rw [mj_up_at, if_neg (by omega), mj_up_at, if_pos rfl, mj_up_at, if_neg (by omega), mj_up_at, if_pos rfl]
  · unfold q_pa0 m_t0
    rw [mj_up_at, if_neg (by omega), mj_up_at, if_neg (by omega), mj_up_at, if_pos rfl, mj_up_at, if_neg (by omega), mj_up_at, if_neg (by omega), h9]
  · unfold q_pa0 m_t0
    rw [mj_up_ne (by omega), mj_up_ne (by omega), mj_up_ne (by omega), mj_up_ne (by omega), mj_up_ne (by omega)]
    exact hr j hj
  · unfold m_t0
    rw [mj_up_at, if_pos rfl]
theorem z_xp (hs : 0 ≤ M 0 15 ∧ M 0 15 ≤ 160) (h9 : N 172 9 = M 0 15) (hr : ∀ j : Nat, j < 160 → N 179 j = M 170 j) : (q_pa M (M 0 15) = -1 ∧ m_x1 N 172 11 = 0) ∨ (m_x1 N 172 11 = 1 ∧ q_pa M (M 0 15) = m_x1 N 172 10) := by
  have h := z_t_0 hs h9 hr
  refine z_t_ps 161 0 _ _ h (by unfold q_pa0; rw [mj_up_at, if_pos rfl]; rfl) ?_
  have := h.2.2.2.1
  unfold m_tx at this
  omega
end op23
