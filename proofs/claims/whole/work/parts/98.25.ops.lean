section op16
variable {A B C M N S T V W X Y M' V' A' : mj_M} {x : Nat} {n m : Int} {e e' : Nat}
theorem z_t_up {a i : Nat} {v : Int} (h : z_t S X) (ha : a ≠ 170) (hi : a ≠ 157 ∨ (i ≠ 6 ∧ i ≠ 7)) : z_t (mj_up S a i v) X := by
  obtain ⟨h1, h2, h3, h4⟩ := h
  have e : ∀ k, k = 6 ∨ k = 7 → mj_up S a i v 157 k = S 157 k := fun k q => by
    by_cases c : a = 157
    · subst c; rw [mj_up_at, if_neg (by omega)]
    · rw [mj_up_ne (fun g => c g.symm)]
  exact ⟨by rw [e 7 (by omega)]; exact h1, by rw [e 6 (by omega)]; exact h2, fun j hj => by rw [mj_up_ne (fun g => ha g.symm)]; exact h3 j hj, h4⟩
theorem z_t_mup {k : Nat} {v : Int} (h : z_t S X) (hk : 11 < k) : z_t S (mj_up X 172 k v) := by
  obtain ⟨h1, h2, h3, h4, h5⟩ := h
  exact ⟨by rw [mj_up_at, if_neg (by omega)]; exact h1, by rw [mj_up_at, if_neg (by omega)]; exact h2, fun j hj => by rw [mj_up_ne (by omega)]; exact h3 j hj, m_tx_up hk h4, by rw [mj_up_at, if_neg (by omega)]; exact h5⟩
theorem z_tf_sup {a i : Nat} {v : Int} (h : z_tf S X) (hi : a ≠ 157 ∨ i ≠ 7) : z_tf (mj_up S a i v) X := by
  refine ⟨?_, h.2⟩
  by_cases c : a = 157
  · subst c; rw [mj_up_at, if_neg (by omega)]; exact h.1
  · rw [mj_up_ne (fun g => c g.symm)]; exact h.1
theorem z_t_bn : ∀ (k : Nat) (S X : mj_M), z_t S X → z_t (q_bl k S) (m_bl k X) := by
  intro k
  induction k with
  | zero => intro S X h; exact h
  | succ k ih =>
    intro S X h
    rw [q_bl, m_bl, z_t_nx h (by omega)]
    by_cases c : m_by X = 32
    · rw [if_pos c, if_pos rfl, if_pos ⟨h.2.2.2.2, c⟩]
      exact ih _ _ (z_t_p1 h (m_by_lt (by omega) c))
    · rw [if_neg c, if_neg (by omega), if_neg (fun g => c g.2)]
      exact h
theorem m_bl_st : ∀ (k : Nat) (X : mj_M), X 172 9 ≤ X 172 10 + k → m_bl (k + 1) X = m_bl k X := by
  intro k
  induction k with
  | zero =>
    intro X h
    have u1 : m_bl (0 + 1) X = if X 172 11 = 0 ∧ m_by X = 32 then m_bl 0 (m_p1 X) else X := rfl
    have c : ¬ (X 172 11 = 0 ∧ m_by X = 32) := fun g => by have := m_by_lt (by omega) g.2; omega
    rw [u1, if_neg c]
    rfl
  | succ k ih =>
    intro X h
    have u1 : m_bl (k + 1 + 1) X = if X 172 11 = 0 ∧ m_by X = 32 then m_bl (k + 1) (m_p1 X) else X := rfl
    have u2 : m_bl (k + 1) X = if X 172 11 = 0 ∧ m_by X = 32 then m_bl k (m_p1 X) else X := rfl
    rw [u1, u2]
    by_cases c : X 172 11 = 0 ∧ m_by X = 32
    · rw [if_pos c, if_pos c]
      exact ih _ (by rw [m_p1_at, m_p1_at, if_neg (by omega), if_pos rfl]; omega)
    · rw [if_neg c, if_neg c]
/-- blanks on both sides -/
theorem z_t_bl (h : z_t S X) : (q_blB S = 1 ∧ z_t (q_bl 160 S) (m_b1 X)) ∨ (q_blB S = 0 ∧ z_tf (q_bl 160 S) (m_b1 X)) := by
  have hx := h.2.2.2.1
  have s : m_sg X 32 = if m_by X = 32 then m_p1 X else m_bad X := by
    unfold m_sg
    rw [if_neg (by have := h.2.2.2.2; omega)]
  have u : q_bl 160 S = if q_nx S 32 = 1 then q_bl 159 (q_at1 S) else S := rfl
  unfold q_blB m_b1
  rw [s, u, z_t_nx h (by omega)]
  by_cases c : m_by X = 32
  · rw [if_pos c, if_pos c, if_pos rfl]
    left
    have l := m_by_lt (by omega) c
    have p := z_t_p1 h l
    have st : m_bl 160 (m_p1 X) = m_bl 159 (m_p1 X) := m_bl_st 159 _ (by
      have := hx.1
      have := hx.2.1
      rw [m_p1_at, m_p1_at, if_neg (by omega), if_pos rfl]; omega)
    rw [st]
    have sp := (q_bl_sp 159 (q_at1 S)).2.2.1
    have e7 : q_at1 S 157 7 = S 157 7 + 1 := by unfold q_at1; rw [mj_up_at, if_pos rfl]
    exact ⟨if_pos (by omega), z_t_bn 159 _ _ p⟩
  · have n01 : ¬ ((0 : Int) = 1) := by omega
    rw [if_neg c, if_neg c]
    simp only [if_neg n01]
    right
    have b := z_t_bad h
    rw [m_bl_b b.2]
    exact ⟨if_neg (by omega), b⟩
theorem z_t_dg (h : z_t S X) : q_isd S = m_dg X := by
  obtain ⟨h1, h2, h3, ⟨h4, h5, h6⟩, h7⟩ := h
  unfold q_isd m_dg m_by
  rw [h1, h2]
  by_cases q : X 172 10 < X 172 9
  · rw [if_pos q, h3 _ (by omega)]
    by_cases q2 : 48 ≤ S 170 (X 172 10).toNat ∧ S 170 (X 172 10).toNat ≤ 57
    · rw [if_pos ⟨q, q2⟩, if_pos q2]
    · rw [if_neg (fun g => q2 g.2), if_neg q2]
  · rw [if_neg (fun g => q g.1), if_neg q, if_neg (by omega)]
theorem z_t_d1 (h : z_t S X) (l : X 172 10 < X 172 9) : z_t (q_dg S) (m_p1 X) ∧ q_dg S 157 8 = 10 * S 157 8 + m_by X - 48 := by
  refine ⟨?_, ?_⟩
  · unfold q_dg
    exact z_t_p1 (z_t_up h (by omega) (by omega)) l
  · obtain ⟨h1, h2, h3, ⟨h4, h5, h6⟩, h7⟩ := h
    unfold q_dg q_at1 m_by
    rw [mj_up_at, if_neg (by omega), mj_up_at, if_pos rfl, if_pos l, h3 _ (by omega), h1]
/-- a number on both sides -/
theorem z_t_nm (h : z_t S X) : (q_nm S = 1 ∧ z_t (q_nmM S) (m_nbM X) ∧ q_nmM S 157 8 = m_nbV X) ∨ (q_nm S = 0 ∧ z_tf (q_nmM S) (m_nbM X)) := by
  unfold q_nm q_nmM m_nbM m_nbV
  rcases z_t_bl h with ⟨b1, b2⟩ | ⟨b1, b2⟩
  · have c := z_t_up (a := 157) (i := 8) (v := 0) b2 (by omega) (by omega)
    have c8 : q_nmC S 157 8 = 0 := by unfold q_nmC; rw [mj_up_at, if_pos rfl]
    have cC : z_t (q_nmC S) (m_b1 X) := c
    have h0 := b2.2.2.2.2
    have d := z_t_dg cC
    rw [if_pos b1, if_pos h0, if_pos h0]
    unfold q_nmD m_nuM m_nuV
    rw [d]
    rcases m_dg_01 (M := m_b1 X) with g | ⟨g, -⟩
    · right
      rw [g, if_neg (by omega), if_neg (by omega), if_pos rfl]
      exact ⟨rfl, z_t_bad cC⟩
    · left
      have l := m_dg_lt g
      obtain ⟨d1, d2⟩ := z_t_d1 cC l
      rw [c8] at d2
      have dd := z_t_dg d1
      have n10 : ¬ ((1 : Int) = 0) := by omega
      have n01 : ¬ ((0 : Int) = 1) := by omega
      have p11 : (1 : Int) = 1 := rfl
      have p00 : (0 : Int) = 0 := rfl
      rw [g, dd, if_pos ⟨b1, rfl⟩]
      rcases m_dg_01 (M := m_p1 (m_b1 X)) with g2 | ⟨g2, -⟩
      · rw [g2]
        simp only [if_neg n10, if_neg n01, if_true]
        exact ⟨trivial, d1, by omega⟩
      · obtain ⟨d3, d4⟩ := z_t_d1 d1 (m_dg_lt g2)
        rw [g2]
        simp only [if_neg n10, if_true]
        exact ⟨trivial, d3, by omega⟩
  · right
    have hb := b2.2
    have n2 : ¬ q_blB S = 1 := by omega
    have n1 : ¬ (q_blB S = 1 ∧ q_isd (q_nmC S) = 1) := fun g => n2 g.1
    have n3 : ¬ m_b1 X 172 11 = 0 := by omega
    simp only [if_neg n1, if_neg n2, if_neg n3]
    exact ⟨trivial, b2⟩
end op16
