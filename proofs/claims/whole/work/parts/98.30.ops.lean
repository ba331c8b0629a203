section op21
variable {A B C M N S T V W X Y M' V' A' : mj_M} {x : Nat} {n m : Int} {e e' : Nat}
theorem z_t_st {i : Nat} (h9 : S 157 9 = (i : Int)) (h : z_t S X) :
    (q_stt S = 1 ∧ z_t (q_sttM S) (m_stt X) ∧ z_v (q_sttM S) (m_stt X) i) ∨
    (q_stt S = 1 ∧ z_tf (q_sttM S) (m_stt X) ∧ ∃ Y, z_t (q_sttM S) Y ∧ m_rgt (m_by Y) ≠ 0) ∨
    (q_stt S = 0 ∧ z_tf (q_sttM S) (m_stt X)) := by
  have n01 : ¬ ((0 : Int) = 1) := by omega
  have p11 : (1 : Int) = 1 := rfl
  unfold q_stt q_sttM m_stt m_wd
  rw [z_t_nx h (by omega), z_t_nx h (by omega)]
  by_cases c1 : m_by X = 103
  · rw [if_pos c1, if_pos c1, if_pos p11, if_pos p11]
    exact z_t_rp (cs := [103, 101, 116, 115]) (k := 0) (by decide) h9 h
  · rw [if_neg c1, if_neg c1, if_neg n01, if_neg n01]
    by_cases c2 : m_by X = 110
    · rw [if_pos c2, if_pos c2, if_pos p11, if_pos p11]
      exact z_t_rp (cs := [110, 101, 118, 101, 114]) (k := 1) (by decide) h9 h
    · rw [if_neg c2, if_neg c2, if_neg n01, if_neg n01]
      exact z_t_rp (cs := [97, 112, 97, 114, 116]) (k := 2) (by decide) h9 h
end op21
