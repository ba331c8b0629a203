section op22
variable {A B C M N S T V W X Y M' V' A' : mj_M} {x : Nat} {n m : Int} {e e' : Nat}
theorem m_rgt_59 (h : m_rgt (m_by Y) ≠ 0) : ¬ m_by Y = 59 := by
  intro q
  rw [q] at h
  exact h (by decide)
/-- the first reading on both sides -/
theorem z_t_ps : ∀ (k i : Nat) (S X : mj_M), z_t S X → S 157 9 = (i : Int) → X 172 9 < X 172 10 + k →
    (q_psR k S = -1 ∧ m_gtM k X 172 11 = 0) ∨ (m_gtM k X 172 11 = 1 ∧ q_psR k S = m_gtM k X 172 10) := by
  intro k
  induction k with
  | zero => intro i S X h _ hl; have := h.2.2.2.1.1; omega
  | succ k ih =>
    intro i S X h h9 hl
    have n10 : ¬ ((1 : Int) = 0) := by omega
    have n01 : ¬ ((0 : Int) = 1) := by omega
    have u : m_gtM (k + 1) X = if m_stt X 172 11 = 0 then (if m_stt X 172 10 < m_stt X 172 9 then (if m_sg (m_stt X) 59 172 11 = 0 then m_gtM k (m_sg (m_stt X) 59) else m_sg (m_stt X) 59) else m_stt X) else m_stt X := rfl
    have v : q_psR (k + 1) S = if q_stt S = 0 then q_sttM S 157 7 else if q_sz1 (q_sttM S) 157 6 ≤ q_sz1 (q_sttM S) 157 7 then -1 else if q_nx (q_sz1 (q_sttM S)) 59 = 0 then q_sz1 (q_sttM S) 157 7 else q_psR k (q_at1 (q_sz1 (q_sttM S))) := rfl
    have e7 : ∀ Z : mj_M, q_sz1 Z 157 7 = Z 157 7 := fun Z => by unfold q_sz1; rw [mj_up_at, if_neg (by omega)]
    have e6 : ∀ Z : mj_M, q_sz1 Z 157 6 = Z 157 6 := fun Z => by unfold q_sz1; rw [mj_up_at, if_neg (by omega)]
    rw [u, v]
    rcases z_t_st h9 h with ⟨s1, s2, -⟩ | ⟨s1, s2, Y, s3, s4⟩ | ⟨s1, s2⟩
    · have hz : z_t (q_sz1 (q_sttM S)) (m_stt X) := by unfold q_sz1; exact z_t_up s2 (by omega) (by omega)
      have s0 := s2.2.2.2.2
      have nx := z_t_nx (c := 59) hz (by omega)
      rw [s1, if_neg n10, if_pos s0, nx, hz.1, hz.2.1]
      by_cases c2 : m_stt X 172 10 < m_stt X 172 9
      · have c2n : ¬ m_stt X 172 9 ≤ m_stt X 172 10 := by omega
        rw [if_pos c2, if_neg c2n]
        have sg : m_sg (m_stt X) 59 = if m_by (m_stt X) = 59 then m_p1 (m_stt X) else m_bad (m_stt X) := by unfold m_sg; rw [if_neg (by omega)]
        by_cases c3 : m_by (m_stt X) = 59
        · have p := z_t_p1 hz c2
          have p11 : m_p1 (m_stt X) 172 11 = 0 := p.2.2.2.2
          rw [sg, if_pos c3, if_pos c3, if_neg n10, if_pos p11]
          have f9 : m_stt X 172 9 = X 172 9 := m_stt_fs.2 9 (by omega)
          have ps := m_stt_ps (M := X)
          unfold m_pm at ps
          refine ih (i + 1) _ _ p ?_ (by rw [m_p1_at, m_p1_at, if_neg (by omega), if_pos rfl, f9]; omega)
          unfold q_at1 q_sz1
          rw [mj_up_at, if_neg (by omega), mj_up_at, if_pos rfl, q_sttM_sp.2.1, h9]
          push_cast
          rfl
        · have b := z_t_bad hz
          have nb : ¬ m_bad (m_stt X) 172 11 = 0 := by have := b.2; omega
          rw [sg, if_neg c3, if_neg c3, if_pos rfl, if_neg nb]
          exact Or.inr ⟨b.2, b.1 ▸ hz.1.symm⟩
      · rw [if_neg c2, if_pos (by omega)]
        exact Or.inl ⟨rfl, s0⟩
    · have hz : z_t (q_sz1 (q_sttM S)) Y := by unfold q_sz1; exact z_t_up s3 (by omega) (by omega)
      have nx := z_t_nx (c := 59) hz (by omega)
      have n0 : ¬ m_stt X 172 11 = 0 := by have := s2.2; omega
      have l := m_rgt_lt s4
      have c2n : ¬ q_sz1 (q_sttM S) 157 6 ≤ q_sz1 (q_sttM S) 157 7 := by rw [hz.1, hz.2.1]; omega
      rw [s1, if_neg n10, if_neg n0, if_neg c2n, nx, if_neg (m_rgt_59 s4), if_pos rfl, e7]
      exact Or.inr ⟨s2.2, s2.1⟩
    · have n0 : ¬ m_stt X 172 11 = 0 := by have := s2.2; omega
      rw [if_pos s1, if_neg n0]
      exact Or.inr ⟨s2.2, s2.1⟩
end op22
