section op15
variable {A B C M N S T V W X Y M' V' A' : mj_M} {x : Nat} {n m : Int} {e e' : Nat}
/-- reading on both sides, no fault yet -/
def z_t (S X : mj_M) : Prop := S 157 7 = X 172 10 ∧ S 157 6 = X 172 9 ∧ (∀ j : Nat, j < 160 → X 179 j = S 170 j) ∧ m_tx X ∧ X 172 11 = 0
/-- reading on both sides, a fault found -/
def z_tf (S X : mj_M) : Prop := S 157 7 = X 172 10 ∧ X 172 11 = 1
theorem z_t_nx {c : Int} (h : z_t S X) (hc : 0 ≤ c) : q_nx S c = (if m_by X = c then 1 else 0) := by
  obtain ⟨h1, h2, h3, ⟨h4, h5, h6⟩, h7⟩ := h
  unfold q_nx m_by
  rw [h1, h2]
  by_cases q : X 172 10 < X 172 9
  · rw [if_pos q, h3 _ (by omega)]
    by_cases q2 : S 170 (X 172 10).toNat = c
    · rw [if_pos ⟨q, q2⟩, if_pos q2]
    · rw [if_neg (fun g => q2 g.2), if_neg q2]
  · rw [if_neg q, if_neg (fun g => q g.1), if_neg (by omega)]
theorem z_t_p1 (h : z_t S X) (l : X 172 10 < X 172 9) : z_t (q_at1 S) (m_p1 X) := by
  obtain ⟨h1, h2, h3, h4, h7⟩ := h
  refine ⟨?_, ?_, fun j hj => ?_, m_p1_tx h4 l, by rw [m_p1_at, if_neg (by omega)]; exact h7⟩
  · unfold q_at1
    rw [mj_up_at, if_pos rfl, m_p1_at, if_pos rfl, h1]
  · unfold q_at1
    rw [mj_up_at, if_neg (by omega), m_p1_at, if_neg (by omega), h2]
  · unfold q_at1 m_p1
    rw [mj_up_ne (by omega), mj_up_ne (by omega)]
    exact h3 j hj
theorem z_t_bad (h : z_t S X) : z_tf S (m_bad X) := ⟨by rw [m_bad_at, if_neg (by omega)]; exact h.1, by rw [m_bad_at, if_pos rfl]⟩
theorem m_sg_b {c : Int} (h : X 172 11 = 1) : m_sg X c = X := by unfold m_sg; rw [if_pos (by omega)]
theorem m_bl_b (h : X 172 11 = 1) : ∀ n : Nat, m_bl n X = X := by
  intro n
  cases n with
  | zero => rfl
  | succ n => rw [m_bl, if_neg (by omega)]
theorem m_b1_b (h : X 172 11 = 1) : m_b1 X = X := by unfold m_b1; rw [m_sg_b h, m_bl_b h]
theorem m_nbM_b (h : X 172 11 = 1) : m_nbM X = X := by unfold m_nbM; rw [m_b1_b h, if_neg (by omega)]
theorem m_rbM_b (h : X 172 11 = 1) : m_rbM X = X := by unfold m_rbM; rw [m_b1_b h, if_neg (by omega)]
theorem z_tf_up {k : Nat} {v : Int} (h : z_tf S X) (hk : 11 < k) : z_tf S (mj_up X 172 k v) := ⟨by rw [mj_up_at, if_neg (by omega)]; exact h.1, by rw [mj_up_at, if_neg (by omega)]; exact h.2⟩
theorem z_tf_sa (h : z_tf S X) : z_tf S (m_sa X) := by unfold m_sa; rw [m_nbM_b h.2]; exact z_tf_up h (by omega)
theorem z_tf_sb (h : z_tf S X) : z_tf S (m_sb X) := by unfold m_sb; rw [m_nbM_b h.2]; exact z_tf_up h (by omega)
theorem z_tf_sc (h : z_tf S X) : z_tf S (m_sc X) := by
  unfold m_sc
  have h0 : z_tf S (mj_up X 172 15 0) := z_tf_up h (by omega)
  split
  · exact h0
  · rw [m_rbM_b h0.2]; exact z_tf_up h0 (by omega)
/-- a word on both sides -/
theorem z_t_wd {cs : List Int} (hcs : ∀ t : Nat, t < cs.length → 0 ≤ cs.getD t 0) : ∀ (k t : Nat) (S X : mj_M), t + k = cs.length → z_t S X →
    (q_wdR cs k t S = 1 ∧ z_t (q_wdM cs k t S) ((cs.drop t).foldl m_sg X)) ∨ (q_wdR cs k t S = 0 ∧ z_tf (q_wdM cs k t S) ((cs.drop t).foldl m_sg X)) := by
  have fb : ∀ (l : List Int) (X : mj_M), X 172 11 = 1 → l.foldl m_sg X = X := by
    intro l
    induction l with
    | nil => intro X _; rfl
    | cons c l ih => intro X h; rw [List.foldl_cons, m_sg_b h]; exact ih X h
  intro k
  induction k with
  | zero =>
    intro t S X ht h
    left
    rw [List.drop_of_length_le (by omega)]
    exact ⟨rfl, h⟩
  | succ k ih =>
    intro t S X ht h
    have hd : cs.drop t = cs.getD t 0 :: cs.drop (t + 1) := by
      rw [List.drop_eq_getElem_cons (by omega)]
      simp [List.getD, List.getElem?_eq_getElem (show t < cs.length by omega)]
    have hc := hcs t (by omega)
    rw [hd, List.foldl_cons, q_wdR, q_wdM, z_t_nx h hc]
    have s : m_sg X (cs.getD t 0) = if m_by X = cs.getD t 0 then m_p1 X else m_bad X := by
      unfold m_sg
      rw [if_neg (by have := h.2.2.2.2; omega)]
    rw [s]
    by_cases c : m_by X = cs.getD t 0
    · simp only [if_pos c, if_true]
      exact ih (t + 1) _ _ (by omega) (z_t_p1 h (m_by_lt hc c))
    · simp only [if_neg c]
      right
      have b := z_t_bad h
      rw [fb _ _ b.2, if_neg (by omega), if_neg (by omega)]
      exact ⟨rfl, b⟩
end op15
