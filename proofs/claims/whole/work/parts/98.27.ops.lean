section op18
variable {A B C M N S T V W X Y M' V' A' : mj_M} {x : Nat} {n m : Int} {e e' : Nat}
/-- rights on both sides -/
theorem z_t_rt (h : z_t S X) : (q_rtV S ≠ 0 ∧ z_t (q_rtM S) (m_rbM X) ∧ q_rtV S = m_rbV X) ∨ (q_rtV S ≠ 0 ∧ z_tf (q_rtM S) (m_rbM X) ∧ ∃ Y, z_t (q_rtM S) Y ∧ m_rgt (m_by Y) ≠ 0) ∨ (q_rtV S = 0 ∧ z_tf (q_rtM S) (m_rbM X)) := by
  unfold q_rtV q_rtM m_rbM m_rbV
  rcases z_t_bl h with ⟨b1, b2⟩ | ⟨b1, b2⟩
  · have h0 := b2.2.2.2.2
    rw [if_pos b1, if_pos b1, if_pos h0, if_pos h0]
    unfold m_riM m_riV
    obtain ⟨⟨-, g1⟩, g2⟩ := z_t_rg 4 160 0 _ _ b2 (by omega) (by decide) (by omega)
    have nr := z_t_nr b2
    by_cases c : m_rgt (m_by (m_b1 X)) = 0
    · have nc : ¬ (q_nr (q_bl 160 S) ≠ 0 ∧ mj_and 0 (q_nr (q_bl 160 S)) = 0) := fun g => g.1 (nr.trans c)
      rw [if_pos c, if_pos c]
      have u1 : q_rgV 4 0 (q_nr (q_bl 160 S)) (q_bl 160 S) = 0 := by rw [q_rgV, if_neg nc]
      have u2 : q_rgM 4 0 (q_nr (q_bl 160 S)) (q_bl 160 S) = q_bl 160 S := by rw [q_rgM, if_neg nc]
      rw [u1, u2]
      exact Or.inr (Or.inr ⟨rfl, z_t_bad b2⟩)
    · rw [if_neg c, if_neg c]
      have v := g1 (by rw [nr]; exact c)
      have v0 : q_rgV 4 0 (q_nr (q_bl 160 S)) (q_bl 160 S) ≠ 0 := by
        intro q
        rw [q] at v
        have : q_pop 0 = 0 := by decide
        omega
      rcases g2 with ⟨r1, r2⟩ | ⟨r1, r2⟩
      · exact Or.inl ⟨v0, r1, r2⟩
      · exact Or.inr (Or.inl ⟨v0, r1, r2⟩)
  · have n2 : ¬ q_blB S = 1 := by omega
    have n3 : ¬ m_b1 X 172 11 = 0 := by have := b2.2; omega
    rw [if_neg n2, if_neg n2, if_neg n3, if_neg n3]
    exact Or.inr (Or.inr ⟨rfl, b2⟩)
end op18
