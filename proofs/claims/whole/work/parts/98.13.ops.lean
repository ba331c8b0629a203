section op12
variable {A B C M N S T V W X Y M' V' A' : mj_M} {x : Nat} {n m : Int} {e e' : Nat}
/-- one sight of a run, on both sides -/
def z_ob (T X : mj_M) (j i : Nat) : Prop := ∃ s b y z : Int, (0 ≤ s ∧ s ≤ 4) ∧ (0 ≤ b ∧ b < 1024) ∧ (s = 4 → b = 0) ∧
  T (136 + j) (3 * i) = 1024 * s + b ∧ T (136 + j) (3 * i + 1) = y ∧ T (136 + j) (3 * i + 2) = z ∧
  X 176 (240 * j + 4 * i) = s ∧ X 176 (240 * j + 4 * i + 1) = y ∧ X 176 (240 * j + 4 * i + 2) = z ∧ X 176 (240 * j + 4 * i + 3) = if s = 4 then 1023 else b
theorem z_ob_c {j i : Nat} (h : z_ob T X j i) (hT : ∀ k : Nat, k < 3 * i + 3 → A (136 + j) k = T (136 + j) k) (hX : ∀ k : Nat, k < 4 * i + 4 → Y 176 (240 * j + k) = X 176 (240 * j + k)) : z_ob A Y j i := by
  obtain ⟨s, b, y, z, h1, h2, h3, t1, t2, t3, x1, x2, x3, x4⟩ := h
  exact ⟨s, b, y, z, h1, h2, h3, by rw [hT _ (by omega)]; exact t1, by rw [hT _ (by omega)]; exact t2, by rw [hT _ (by omega)]; exact t3, by rw [hX (4 * i) (by omega)]; exact x1, by rw [Nat.add_assoc, hX (4 * i + 1) (by omega), ← Nat.add_assoc]; exact x2, by rw [Nat.add_assoc, hX (4 * i + 2) (by omega), ← Nat.add_assoc]; exact x3, by rw [Nat.add_assoc, hX (4 * i + 3) (by omega), ← Nat.add_assoc]; exact x4⟩
theorem q_nt_ob {u j i : Nat} (h : z_Rl 8 T W) (hu : (u : Int) < T 22 13) : z_ob (q_nt T (u : Int) j (3 * (i : Int))) (m_nt W X u j i) j i := by
  obtain ⟨h1, h2, h3, h4, h5, h6, h7⟩ := z_esV h hu
  refine ⟨T 24 u, q_esV T (u : Int), T 25 u, T 26 u, h1, h2, h7, ?_, ?_, ?_, ?_, ?_, ?_, ?_⟩
  all_goals
    first | unfold q_nt | unfold m_nt
    try simp only [Int.toNat_natCast]
  · rw [show (3 * (i : Int)).toNat = 3 * i by omega, show (3 * (i : Int) + 1).toNat = 3 * i + 1 by omega, show (3 * (i : Int) + 2).toNat = 3 * i + 2 by omega]
    rw [mj_up_at, if_neg (by omega), mj_up_at, if_neg (by omega), mj_up_at, if_pos rfl]
    exact q_shor_i h1 h2
  · rw [show (3 * (i : Int)).toNat = 3 * i by omega, show (3 * (i : Int) + 1).toNat = 3 * i + 1 by omega, show (3 * (i : Int) + 2).toNat = 3 * i + 2 by omega]
    rw [mj_up_at, if_neg (by omega), mj_up_at, if_pos rfl, mj_up_ne (by omega)]
  · rw [show (3 * (i : Int)).toNat = 3 * i by omega, show (3 * (i : Int) + 1).toNat = 3 * i + 1 by omega, show (3 * (i : Int) + 2).toNat = 3 * i + 2 by omega]
    rw [mj_up_at, if_pos rfl, mj_up_ne (by omega), mj_up_ne (by omega)]
  · rw [mj_up_at, if_neg (by omega), mj_up_at, if_neg (by omega), mj_up_at, if_neg (by omega), mj_up_at, if_pos rfl, h3]
  · rw [mj_up_at, if_neg (by omega), mj_up_at, if_neg (by omega), mj_up_at, if_pos rfl, h4]
  · rw [mj_up_at, if_neg (by omega), mj_up_at, if_pos rfl, h5]
  · rw [mj_up_at, if_pos rfl, h6]
theorem q_nt_k {u : Int} {j a k : Nat} {b : Int} (h : a ≠ 136 + j ∨ (k : Int) < b) (hb : 0 ≤ b) : q_nt T u j b a k = T a k := by
  unfold q_nt
  try simp only []
  by_cases c : a = 136 + j
  · subst c
    rw [mj_up_at, if_neg (by omega), mj_up_at, if_neg (by omega), mj_up_at, if_neg (by omega)]
  · rw [mj_up_ne c, mj_up_ne c, mj_up_ne c]
theorem m_nt_k {u j i k : Nat} (h : k < 240 * j + 4 * i ∨ 240 * j + 4 * i + 3 < k) : m_nt W X u j i 176 k = X 176 k := by
  unfold m_nt
  rw [mj_up_at, if_neg (by omega), mj_up_at, if_neg (by omega), mj_up_at, if_neg (by omega), mj_up_at, if_neg (by omega)]
/-- rows that a tick and a sight leave -/
def z_ow (j a : Nat) : Prop := a = 0 ∨ (43 < a ∧ a < 130) ∨ (135 < a ∧ a < 152 ∧ a ≠ 136 + j) ∨ (163 < a ∧ a ≤ 184) ∨ a = 9001
theorem q_tick_ow {a : Nat} (h : a = 0 ∨ (43 < a ∧ a < 130) ∨ (135 < a ∧ a < 152) ∨ (163 < a ∧ a ≤ 184) ∨ a = 9001) : q_tick A a = A a := by
  by_cases q : 86 < a ∧ a < 130
  · exact q_tick_sp q.1 q.2
  · by_cases q2 : 135 < a ∧ a < 152
    · exact funext fun i => q_tick_fr (by omega) (by unfold q_mut; omega)
    · exact (q_tick_out (M := A)).1 a (by omega)
/-- a run on both sides -/
theorem z_lki {rl : Int} {u j NN : Nat} (hj : j < 16) (hNN : NN ≤ 60) : ∀ (k t : Nat) (m : Int) (T W X : mj_M), t + k = NN → z_I m T W → T 1 9 = rl → (u : Int) < T 22 13 → 0 ≤ m → m + k < 99999999 → T 1 7 + k ≤ 9999 → (∀ i : Nat, i < t → z_ob T X j i) →
    z_I (m + k) (q_for (f_gi (u : Int) j) k t T) (m_giV rl k W) ∧ (∀ i : Nat, i < NN → z_ob (q_for (f_gi (u : Int) j) k t T) (m_giN rl u j k t X W) j i) ∧
    (∀ a, z_ow j a → q_for (f_gi (u : Int) j) k t T a = T a) ∧ (∀ i : Nat, i < 240 * j ∨ 240 * j + 240 ≤ i → m_giN rl u j k t X W 176 i = X 176 i) := by
  intro k
  induction k with
  | zero =>
    intro t m T W X ht h _ _ _ _ _ ho
    exact ⟨by rw [Int.natCast_zero, Int.add_zero]; exact h, fun i hi => ho i (by omega), fun _ _ => rfl, fun _ _ => rfl⟩
  | succ k ih =>
    intro t m T W X ht h h9 hu hm hl h7 ho
    have w := h.1.1.1.1
    obtain ⟨-, -, -, t4⟩ := z_tick h ⟨hm, by omega⟩ (by omega)
    rw [h9] at t4
    have lo : ∀ a, a < 136 → q_nt (q_tick T) (u : Int) j (3 * (t : Int)) a = q_tick T a := fun a q => funext fun i => q_nt_at q
    have e22 : q_tick T 22 13 = T 22 13 := q_tick_fr (by omega) (by unfold q_mut; omega)
    have I1 : z_I (m + 1) (f_gi (u : Int) j t T) (m_tkM W rl) := by
      refine z_I_c t4 (fun a q => ?_)
      unfold f_gi
      rcases q with q | q
      · exact lo a (by omega)
      · exact funext fun i => q_nt_k (Or.inl (by subst q; intro q3; omega)) (by omega)
    obtain ⟨i1, i2, i3, i4⟩ := ih (t + 1) (m + 1) (f_gi (u : Int) j t T) (m_tkM W rl) (m_nt (m_tkM W rl) (m_tkN X W rl) u j t) (by omega) I1
      (by unfold f_gi; rw [lo 1 (by omega), (q_tick_out (M := T)).2]; exact h9) (by unfold f_gi; rw [lo 22 (by omega), e22]; exact hu) (by omega) (by omega)
      (by unfold f_gi; rw [lo 1 (by omega), q_tick_nowE w]; omega) (fun i hi => by
        by_cases c : i = t
        · subst c; exact q_nt_ob t4.1 (by rw [e22]; exact hu)
        · refine z_ob_c (ho i (by omega)) (fun k hk => ?_) (fun k hk => ?_)
          · unfold f_gi
            rw [q_nt_k (Or.inr (by omega)) (by omega), q_tick_fr (by omega) (by unfold q_mut; omega)]
          · rw [m_nt_k (Or.inl (by omega)), m_tkN_o (Or.inl (by omega))])
    refine ⟨by rw [show m + ((k + 1 : Nat) : Int) = m + 1 + (k : Int) by omega]; exact i1, i2, fun a q => ?_, fun i hi => ?_⟩
    · rw [q_for, i3 a q]
      unfold f_gi
      unfold z_ow at q
      rw [show q_nt (q_tick T) (u : Int) j (3 * (t : Int)) a = q_tick T a from funext fun i => q_nt_k (Or.inl (by omega)) (by omega)]
      exact q_tick_ow (by omega)
    · rw [m_giN, i4 i hi, m_nt_k (by omega), m_tkN_o (Or.inl (by omega))]
end op12
