section op17
variable {A B C M N S T V W X Y M' V' A' : mj_M} {x : Nat} {n m : Int} {e e' : Nat}
/-- how many rights -/
def q_pop (a : Int) : Int := a % 2 + a / 2 % 2 + a / 4 % 2 + a / 8 % 2
theorem q_pop_or : ∀ a : Fin 16, ∀ b : Fin 9, b.val = 1 ∨ b.val = 2 ∨ b.val = 4 ∨ b.val = 8 → mj_and (a.val : Int) (b.val : Int) = 0 →
    (0 ≤ mj_or (a.val : Int) (b.val : Int) ∧ mj_or (a.val : Int) (b.val : Int) < 16) ∧ q_pop (mj_or (a.val : Int) (b.val : Int)) = q_pop (a.val : Int) + 1 := by decide +kernel
theorem q_pop_4 : ∀ a : Fin 16, ∀ b : Fin 9, b.val = 1 ∨ b.val = 2 ∨ b.val = 4 ∨ b.val = 8 → q_pop (a.val : Int) = 4 → ¬ mj_and (a.val : Int) (b.val : Int) = 0 := by decide +kernel
theorem q_pop_1 : ∀ a : Fin 16, a.val ≠ 0 → 1 ≤ q_pop (a.val : Int) := by decide +kernel
theorem m_rgt_in {c : Int} : m_rgt c = 0 ∨ m_rgt c = 1 ∨ m_rgt c = 2 ∨ m_rgt c = 4 ∨ m_rgt c = 8 := by
  unfold m_rgt
  split
  · omega
  · split
    · omega
    · split
      · omega
      · split <;> omega
theorem z_t_nr (h : z_t S X) : q_nr S = m_rgt (m_by X) := by
  unfold q_nr m_rgt
  rw [z_t_nx h (by omega), z_t_nx h (by omega), z_t_nx h (by omega), z_t_nx h (by omega)]
  have n01 : ¬ ((0 : Int) = 1) := by omega
  by_cases c1 : m_by X = 114
  · simp only [if_pos c1, if_true]
  · simp only [if_neg c1, if_neg n01]
    by_cases c2 : m_by X = 119
    · simp only [if_pos c2, if_true]
    · simp only [if_neg c2, if_neg n01]
      by_cases c3 : m_by X = 108
      · simp only [if_pos c3, if_true]
      · simp only [if_neg c3, if_neg n01]
        by_cases c4 : m_by X = 116
        · simp only [if_pos c4, if_true]
        · simp only [if_neg c4, if_neg n01]
/-- letters of rights on both sides -/
theorem z_t_rg : ∀ (k j : Nat) (a : Int) (S X : mj_M), z_t S X → (0 ≤ a ∧ a < 16) → q_pop a + k = 4 → k < j →
    (q_pop a ≤ q_pop (q_rgV k a (q_nr S) S) ∧ (q_nr S ≠ 0 → 1 ≤ q_pop (q_rgV k a (q_nr S) S))) ∧
    ((z_t (q_rgM k a (q_nr S) S) (m_rgM j a X) ∧ q_rgV k a (q_nr S) S = m_rgV j a X) ∨ (z_tf (q_rgM k a (q_nr S) S) (m_rgM j a X) ∧ ∃ Y, z_t (q_rgM k a (q_nr S) S) Y ∧ m_rgt (m_by Y) ≠ 0)) := by
  intro k
  induction k with
  | zero =>
    intro j a S X h ha hp hj
    obtain ⟨j, rfl⟩ : ∃ i, j = i + 1 := ⟨j - 1, by omega⟩
    have u1 : q_rgV 0 a (q_nr S) S = a := rfl
    have u2 : q_rgM 0 a (q_nr S) S = S := rfl
    rw [u1, u2, m_rgM, m_rgV]
    refine ⟨⟨by omega, fun _ => by omega⟩, ?_⟩
    by_cases c : m_rgt (m_by X) = 0
    · rw [if_pos c, if_pos c]; exact Or.inl ⟨h, rfl⟩
    · have hb := m_rgt_in (c := m_by X)
      have d := q_pop_4 ⟨a.toNat, by omega⟩ ⟨(m_rgt (m_by X)).toNat, by omega⟩ (by simp only []; omega) (by simp only []; rw [show ((a.toNat : Nat) : Int) = a by omega]; omega)
      simp only [] at d
      rw [show ((a.toNat : Nat) : Int) = a by omega, show (((m_rgt (m_by X)).toNat : Nat) : Int) = m_rgt (m_by X) by omega] at d
      rw [if_neg c, if_pos d]
      exact Or.inr ⟨z_t_bad h, X, h, c⟩
  | succ k ih =>
    intro j a S X h ha hp hj
    obtain ⟨j, rfl⟩ : ∃ i, j = i + 1 := ⟨j - 1, by omega⟩
    have hb := m_rgt_in (c := m_by X)
    rw [z_t_nr h, q_rgV, q_rgM, m_rgM, m_rgV]
    by_cases c : m_rgt (m_by X) = 0
    · have nc : ¬ (m_rgt (m_by X) ≠ 0 ∧ mj_and a (m_rgt (m_by X)) = 0) := fun g => g.1 c
      simp only [if_pos c, if_neg nc]
      exact ⟨⟨by omega, fun g => absurd c g⟩, Or.inl ⟨h, trivial⟩⟩
    · by_cases c2 : mj_and a (m_rgt (m_by X)) = 0
      · have pc : m_rgt (m_by X) ≠ 0 ∧ mj_and a (m_rgt (m_by X)) = 0 := ⟨c, c2⟩
        have n2 : ¬ mj_and a (m_rgt (m_by X)) ≠ 0 := fun g => g c2
        have d := q_pop_or ⟨a.toNat, by omega⟩ ⟨(m_rgt (m_by X)).toNat, by omega⟩ (by simp only []; omega) (by simp only []; rw [show ((a.toNat : Nat) : Int) = a by omega, show (((m_rgt (m_by X)).toNat : Nat) : Int) = m_rgt (m_by X) by omega]; exact c2)
        simp only [] at d
        rw [show ((a.toNat : Nat) : Int) = a by omega, show (((m_rgt (m_by X)).toNat : Nat) : Int) = m_rgt (m_by X) by omega] at d
        obtain ⟨i1, i2⟩ := ih j (mj_or a (m_rgt (m_by X))) (q_at1 S) (m_p1 X) (z_t_p1 h (m_rgt_lt c)) d.1 (by omega) (by omega)
        have pa : 0 ≤ q_pop a := by unfold q_pop; omega
        simp only [if_pos pc, if_neg c, if_neg n2]
        exact ⟨⟨by omega, fun _ => by omega⟩, i2⟩
      · have nc : ¬ (m_rgt (m_by X) ≠ 0 ∧ mj_and a (m_rgt (m_by X)) = 0) := fun g => c2 g.2
        have p2 : mj_and a (m_rgt (m_by X)) ≠ 0 := c2
        simp only [if_neg nc, if_neg c, if_pos p2]
        refine ⟨⟨by omega, fun _ => ?_⟩, Or.inr ⟨z_t_bad h, X, h, c⟩⟩
        by_cases a0 : a = 0
        · exfalso
          rw [a0] at c2
          have : ∀ b : Fin 9, mj_and 0 (b.val : Int) = 0 := by decide +kernel
          have t := this ⟨(m_rgt (m_by X)).toNat, by omega⟩
          simp only [] at t
          rw [show (((m_rgt (m_by X)).toNat : Nat) : Int) = m_rgt (m_by X) by omega] at t
          exact c2 t
        · have t := q_pop_1 ⟨a.toNat, by omega⟩ (by simp only []; omega)
          simp only [] at t
          rw [show ((a.toNat : Nat) : Int) = a by omega] at t
          exact t
end op17
