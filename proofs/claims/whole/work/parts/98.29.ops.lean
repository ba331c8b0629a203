section op20
variable {A B C M N S T V W X Y M' V' A' : mj_M} {x : Nat} {n m : Int} {e e' : Nat}
theorem m_sa_k {j : Nat} (h : j ≠ 10 ∧ j ≠ 11 ∧ j ≠ 13) : m_sa X 172 j = X 172 j := by unfold m_sa; rw [mj_up_at, if_neg h.2.2]; exact m_nbM_fr.2 j h.1 h.2.1
theorem m_sb_k {j : Nat} (h : j ≠ 10 ∧ j ≠ 11 ∧ j ≠ 14) : m_sb X 172 j = X 172 j := by unfold m_sb; rw [mj_up_at, if_neg h.2.2]; exact m_nbM_fr.2 j h.1 h.2.1
theorem m_sc_k {j : Nat} (h : j ≠ 10 ∧ j ≠ 11 ∧ j ≠ 15) : m_sc X 172 j = X 172 j := by
  unfold m_sc
  split
  · rw [mj_up_at, if_neg h.2.2]
  · rw [mj_up_at, if_neg h.2.2, m_rbM_fr.2 j h.1 h.2.1, mj_up_at, if_neg h.2.2]
theorem m_sgl_k {j : Nat} (h : j ≠ 10 ∧ j ≠ 11) : ∀ (l : List Int) (X : mj_M), l.foldl m_sg X 172 j = X 172 j := by
  intro l
  induction l with
  | nil => intro X; rfl
  | cons c l ih => intro X; rw [List.foldl_cons, ih]; exact m_sg_fr.2 j h.1 h.2
/-- what a statement says, on both sides -/
def z_v (S X : mj_M) (i : Nat) : Prop := S 158 i = X 172 12 ∧ S 159 i = X 172 13 ∧ S 160 i = X 172 14 ∧ (X 172 12 ≠ 2 → S 161 i = X 172 15)
theorem z_t_rp {cs : List Int} {k : Int} {i : Nat} (hcs : ∀ t : Nat, t < cs.length → 0 ≤ cs.getD t 0) (h9 : S 157 9 = (i : Int)) (h : z_t S X) :
    (q_rp cs S k = 1 ∧ z_t (q_rpM cs S k) (m_sc (m_sb (m_sa (cs.foldl m_sg (mj_up X 172 12 k))))) ∧ z_v (q_rpM cs S k) (m_sc (m_sb (m_sa (cs.foldl m_sg (mj_up X 172 12 k))))) i) ∨
    (q_rp cs S k = 1 ∧ z_tf (q_rpM cs S k) (m_sc (m_sb (m_sa (cs.foldl m_sg (mj_up X 172 12 k))))) ∧ ∃ Y, z_t (q_rpM cs S k) Y ∧ m_rgt (m_by Y) ≠ 0) ∨
    (q_rp cs S k = 0 ∧ z_tf (q_rpM cs S k) (m_sc (m_sb (m_sa (cs.foldl m_sg (mj_up X 172 12 k)))))) := by
  have hA : z_t (q_rpA S k) (mj_up X 172 12 k) := z_t_mup (z_t_up h (by omega) (by omega)) (by omega)
  have w := z_t_wd hcs cs.length 0 _ _ (by omega) hA
  rw [List.drop_zero] at w
  obtain ⟨W, hW⟩ : ∃ W, cs.foldl m_sg (mj_up X 172 12 k) = W := ⟨_, rfl⟩
  have W12 : W 172 12 = k := by rw [← hW, m_sgl_k (by omega), mj_up_at, if_pos rfl]
  rw [hW] at w ⊢
  have eB : q_wdM cs cs.length 0 (q_rpA S k) = q_rpB cs S k := rfl
  rw [eB] at w
  unfold q_rp q_rpM
  rcases w with ⟨w1, w2⟩ | ⟨w1, w2⟩
  rotate_left
  · rw [if_pos w1, if_pos w1]
    exact Or.inr (Or.inr ⟨rfl, z_tf_sc (z_tf_sb (z_tf_sa w2))⟩)
  have nw : ¬ q_wdR cs cs.length 0 (q_rpA S k) = 0 := by omega
  rw [if_neg nw, if_neg nw]
  have B9 : q_rpB cs S k 157 9 = (i : Int) := (q_rpB_sp (M := S) (cs := cs) (k := k)).2.1.trans h9
  have B158 : q_rpB cs S k 158 i = k := by
    unfold q_rpB
    rw [q_wdM_7 (by omega)]
    unfold q_rpA
    rw [h9, mj_up_at, if_pos (by omega)]
  generalize q_rpB cs S k = B at *
  rcases z_t_nm w2 with ⟨a1, a2, a3⟩ | ⟨a1, a2⟩
  rotate_left
  · rw [if_pos a1, if_pos a1]
    refine Or.inr (Or.inr ⟨rfl, z_tf_sc (z_tf_sb ?_)⟩)
    unfold m_sa
    exact z_tf_up a2 (by omega)
  have na : ¬ q_nm B = 0 := by omega
  rw [if_neg na, if_neg na]
  have hX : z_t (q_rpX B) (m_sa W) := z_t_mup (z_t_up a2 (by omega) (by omega)) (by omega)
  have X9 : q_rpX B 157 9 = (i : Int) := (q_rpX_sp (M := B)).2.1.trans B9
  have X158 : q_rpX B 158 i = k := by unfold q_rpX; rw [mj_up_ne (by omega), q_nmM_7 (by omega)]; exact B158
  have X159 : q_rpX B 159 i = m_sa W 172 13 := by unfold q_rpX m_sa; rw [B9, mj_up_at, if_pos (by omega), mj_up_at, if_pos rfl]; exact a3
  have S12 : m_sa W 172 12 = k := (m_sa_k (by omega)).trans W12
  generalize q_rpX B = B2 at *
  generalize m_sa W = W2 at *
  rcases z_t_nm hX with ⟨b1, b2, b3⟩ | ⟨b1, b2⟩
  rotate_left
  · rw [if_pos b1, if_pos b1]
    refine Or.inr (Or.inr ⟨rfl, z_tf_sc ?_⟩)
    unfold m_sb
    exact z_tf_up b2 (by omega)
  have nb : ¬ q_nm B2 = 0 := by omega
  rw [if_neg nb, if_neg nb]
  have hY : z_t (q_rpY B2) (m_sb W2) := z_t_mup (z_t_up b2 (by omega) (by omega)) (by omega)
  have Y9 : q_rpY B2 157 9 = (i : Int) := (q_rpY_sp (M := B2)).2.1.trans X9
  have Y158 : q_rpY B2 158 i = k := by unfold q_rpY; rw [mj_up_ne (by omega), q_nmM_7 (by omega)]; exact X158
  have Y159 : q_rpY B2 159 i = m_sb W2 172 13 := by rw [m_sb_k (by omega), ← X159]; unfold q_rpY; rw [mj_up_ne (by omega), q_nmM_7 (by omega)]
  have Y160 : q_rpY B2 160 i = m_sb W2 172 14 := by unfold q_rpY m_sb; rw [X9, mj_up_at, if_pos (by omega), mj_up_at, if_pos rfl]; exact b3
  have T12 : m_sb W2 172 12 = k := (m_sb_k (by omega)).trans S12
  generalize q_rpY B2 = B3 at *
  generalize m_sb W2 = W3 at *
  by_cases k2 : k = 2
  · rw [if_pos k2, if_pos k2]
    left
    refine ⟨rfl, ?_, ?_⟩
    · unfold m_sc
      rw [if_pos (by omega)]
      exact z_t_mup hY (by omega)
    · unfold z_v
      rw [m_sc_k (by omega), m_sc_k (by omega), m_sc_k (by omega)]
      exact ⟨by omega, Y159, Y160, fun g => absurd T12 (by omega)⟩
  · rw [if_neg k2, if_neg k2]
    have e : m_sc W3 = mj_up (m_rbM (mj_up W3 172 15 0)) 172 15 (m_rbV (mj_up W3 172 15 0)) := by unfold m_sc; rw [if_neg (by omega)]
    have hv : ∀ r, r = 158 ∨ r = 159 ∨ r = 160 → q_rpT B3 r = B3 r := fun r q => by unfold q_rpT; rw [mj_up_ne (by omega), q_rtM_7 (by omega)]
    rcases z_t_rt (z_t_mup (k := 15) (v := 0) hY (by omega)) with ⟨c1, c2, c3⟩ | ⟨c1, c2, Y, c3, c4⟩ | ⟨c1, c2⟩
    · rw [if_neg c1]
      left
      refine ⟨rfl, by rw [e]; exact z_t_mup (z_t_up c2 (by omega) (by omega)) (by omega), ?_⟩
      unfold z_v
      rw [m_sc_k (by omega), m_sc_k (by omega), m_sc_k (by omega), hv 158 (by omega), hv 159 (by omega), hv 160 (by omega)]
      refine ⟨by omega, Y159, Y160, fun _ => ?_⟩
      rw [e, mj_up_at, if_pos rfl]
      unfold q_rpT
      rw [Y9, mj_up_at, if_pos (by omega)]
      exact c3
    · rw [if_neg c1]
      exact Or.inr (Or.inl ⟨rfl, by rw [e]; exact z_tf_up (z_tf_sup c2 (by omega)) (by omega), Y, z_t_up c3 (by omega) (by omega), c4⟩)
    · rw [if_pos c1]
      exact Or.inr (Or.inr ⟨rfl, by rw [e]; exact z_tf_up (z_tf_sup c2 (by omega)) (by omega)⟩)
end op20
