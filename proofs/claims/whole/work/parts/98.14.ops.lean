section op13
variable {A B C M N S T V W X Y M' V' A' : mj_M} {x : Nat} {n m : Int} {e e' : Nat}
theorem q_same_iff {i j : Nat} : ∀ (k t : Nat), q_same S i j k t = 1 ↔ ∀ r : Nat, t ≤ r → r < t + k → S (136 + i) r = S (136 + j) r := by
  intro k
  induction k with
  | zero => intro t; exact ⟨fun _ r h1 h2 => by omega, fun _ => rfl⟩
  | succ k ih =>
    intro t
    rw [q_same]
    by_cases c : S (136 + i) t = S (136 + j) t
    · rw [if_pos c, ih]
      refine ⟨fun h r h1 h2 => ?_, fun h r h1 h2 => h r (by omega) (by omega)⟩
      by_cases q : r = t
      · subst q; exact c
      · exact h r (by omega) (by omega)
    · rw [if_neg c]
      exact ⟨fun h => absurd h (by omega), fun h => absurd (h t (by omega) (by omega)) c⟩
theorem m_al_iff {i j : Nat} : ∀ (k t : Nat), m_al X i j k t = 1 ↔ ∀ r : Nat, t ≤ r → r < t + k → X 176 (240 * i + r) = X 176 (240 * j + r) := by
  intro k
  induction k with
  | zero => intro t; exact ⟨fun _ r h1 h2 => by omega, fun _ => rfl⟩
  | succ k ih =>
    intro t
    rw [m_al]
    by_cases c : X 176 (240 * i + t) = X 176 (240 * j + t)
    · rw [if_pos c, ih]
      refine ⟨fun h r h1 h2 => ?_, fun h r h1 h2 => h r (by omega) (by omega)⟩
      by_cases q : r = t
      · subst q; exact c
      · exact h r (by omega) (by omega)
    · rw [if_neg c]
      exact ⟨fun h => absurd h (by omega), fun h => absurd (h t (by omega) (by omega)) c⟩
theorem z_lsame {i j NN : Nat} (hi : ∀ k : Nat, k < NN → z_ob S X i k) (hj : ∀ k : Nat, k < NN → z_ob S X j k) : q_same S i j (3 * NN) 0 = m_al X i j (4 * NN) 0 := by
  have key : q_same S i j (3 * NN) 0 = 1 ↔ m_al X i j (4 * NN) 0 = 1 := by
    rw [q_same_iff, m_al_iff]
    constructor
    · intro h r _ hr
      obtain ⟨q, hq⟩ : ∃ q : Nat, q = r / 4 := ⟨_, rfl⟩
      obtain ⟨s, b, y, z, h1, h2, h3, t1, t2, t3, x1, x2, x3, x4⟩ := hi q (by omega)
      obtain ⟨s', b', y', z', h1', h2', h3', t1', t2', t3', x1', x2', x3', x4'⟩ := hj q (by omega)
      have g1 := h (3 * q) (by omega) (by omega)
      have g2 := h (3 * q + 1) (by omega) (by omega)
      have g3 := h (3 * q + 2) (by omega) (by omega)
      rw [t1, t1'] at g1
      rw [t2, t2'] at g2
      rw [t3, t3'] at g3
      have es : s = s' := by omega
      have eb : b = b' := by omega
      subst es eb g2 g3
      have hr4 : r = 4 * q ∨ r = 4 * q + 1 ∨ r = 4 * q + 2 ∨ r = 4 * q + 3 := by omega
      rcases hr4 with e | e | e | e <;> subst e
      · rw [x1, x1']
      · rw [← Nat.add_assoc, ← Nat.add_assoc, x2, x2']
      · rw [← Nat.add_assoc, ← Nat.add_assoc, x3, x3']
      · rw [← Nat.add_assoc, ← Nat.add_assoc, x4, x4']
    · intro h r _ hr
      obtain ⟨q, hq⟩ : ∃ q : Nat, q = r / 3 := ⟨_, rfl⟩
      obtain ⟨s, b, y, z, h1, h2, h3, t1, t2, t3, x1, x2, x3, x4⟩ := hi q (by omega)
      obtain ⟨s', b', y', z', h1', h2', h3', t1', t2', t3', x1', x2', x3', x4'⟩ := hj q (by omega)
      have g1 := h (4 * q) (by omega) (by omega)
      have g2 := h (4 * q + 1) (by omega) (by omega)
      have g3 := h (4 * q + 2) (by omega) (by omega)
      have g4 := h (4 * q + 3) (by omega) (by omega)
      rw [x1, x1'] at g1
      rw [← Nat.add_assoc, ← Nat.add_assoc, x2, x2'] at g2
      rw [← Nat.add_assoc, ← Nat.add_assoc, x3, x3'] at g3
      rw [← Nat.add_assoc, ← Nat.add_assoc, x4, x4'] at g4
      subst g1 g2 g3
      have eb : b = b' := by
        by_cases c : s = 4
        · rw [h3 c, h3' c]
        · rw [if_neg c, if_neg c] at g4; exact g4
      subst eb
      have hr3 : r = 3 * q ∨ r = 3 * q + 1 ∨ r = 3 * q + 2 := by omega
      rcases hr3 with e | e | e <;> subst e
      · rw [t1, t1']
      · rw [t2, t2']
      · rw [t3, t3']
  have a1 := q_same_01 (M := S) (i := i) (j := j) (3 * NN) 0
  have a2 := m_al_01 (M := X) (i := i) (j := j) (4 * NN) 0
  omega
theorem m_nw_0 {j NN : Nat} : ∀ (k i : Nat), m_nw X j NN k i 0 = 0 := by
  intro k
  induction k with
  | zero => intro i; rfl
  | succ k ih => intro i; rw [m_nw, if_neg (by omega)]; exact ih _
theorem z_fig {j NN : Nat} (h : ∀ i : Nat, i ≤ j → ∀ k : Nat, k < NN → z_ob S X i k) : ∀ (k i : Nat), i + k = j → q_fig S j (3 * NN) k i = m_nw X j NN k i 1 := by
  intro k
  induction k with
  | zero => intro i _; rfl
  | succ k ih =>
    intro i hi
    rw [q_fig, m_nw, z_lsame (h i (by omega)) (h j (by omega))]
    rcases m_al_01 (M := X) (i := i) (j := j) (4 * NN) 0 with c | c
    · rw [c, if_neg (by omega), if_pos (by omega)]; exact ih (i + 1) (by omega)
    · rw [c, if_pos rfl, if_neg (by omega), m_nw_0]
theorem m_al_c {i j : Nat} (h : ∀ k : Nat, k < 240 * j + 240 → Y 176 k = X 176 k) (hi : i ≤ j) : ∀ (k t : Nat), t + k ≤ 240 → m_al Y i j k t = m_al X i j k t := by
  intro k
  induction k with
  | zero => intro t _; rfl
  | succ k ih =>
    intro t ht
    have : 240 * i + t < 240 * j + 240 := by
      have := Nat.mul_le_mul_left 240 hi
      omega
    rw [m_al, m_al, h _ this, h _ (by omega), ih _ (by omega)]
theorem m_nw_c {j NN : Nat} (hN : NN ≤ 60) (h : ∀ k : Nat, k < 240 * j + 240 → Y 176 k = X 176 k) : ∀ (k i : Nat) (a : Int), i + k = j → m_nw Y j NN k i a = m_nw X j NN k i a := by
  intro k
  induction k with
  | zero => intro i a _; rfl
  | succ k ih =>
    intro i a hi
    rw [m_nw, m_nw, m_al_c h (by omega) _ _ (by omega), ih _ _ (by omega)]
/-- between the runs -/
def z_lkv (n : Int) (M V S : mj_M) : Prop := z_I n S V ∧ (∀ a i, q_in a i → a < 44 → S a i = M a i) ∧ (∀ a, 86 < a → a < 130 → S a = q_tfS 0 86 M a) ∧ (∀ a, (a = 0 ∨ (43 < a ∧ a < 87) ∨ (163 < a ∧ a ≤ 184) ∨ a = 9001) → S a = M a)
theorem z_lko {rl : Int} {f u k NN : Nat} (h : z_I n M V) (hk : k ≤ 16) (hN : NN ≤ 60) (hu : (u : Int) < M 22 13) (hn : 0 ≤ n) (hl : n + NN < 99999999) (h7 : M 1 7 + NN ≤ 9999) : ∀ (c j : Nat) (S X : mj_M), j + c = k → z_lkv n M V S → (∀ i : Nat, i < j → ∀ t : Nat, t < NN → z_ob S X i t) →
    z_lkv n M V (q_for (f_go (f : Int) (u : Int) rl NN) c j S) ∧ (∀ i : Nat, i < k → ∀ t : Nat, t < NN → z_ob (q_for (f_go (f : Int) (u : Int) rl NN) c j S) (m_grN V rl f u NN c j X) i t) ∧
    (∀ i : Nat, i < 240 * j → m_grN V rl f u NN c j X 176 i = X 176 i) ∧ ∀ a : Int, q_gc (q_for (f_go (f : Int) (u : Int) rl NN) c j S) (3 * NN) c j a = a + m_grC V rl f u NN c j X := by
  intro c
  induction c with
  | zero => intro j S X hj hS ho; exact ⟨hS, fun i hi => ho i (by omega), fun _ _ => rfl, fun a => by rw [q_gc, m_grC, Int.add_zero]⟩
  | succ c ih =>
    intro j S X hj hS ho
    obtain ⟨s1, s2, s3, s4⟩ := hS
    have I0 : z_I n (mj_up (mj_up S 1 9 rl) 26 f (j : Int)) (mj_up V 26 f (j : Int)) := z_I_26 (z_I_19 s1)
    have r0 : ∀ a, a ≠ 1 → a ≠ 26 → mj_up (mj_up S 1 9 rl) 26 f (j : Int) a = S a := fun a q1 q2 => by rw [mj_up_ne q2, mj_up_ne q1]
    have r19 : mj_up (mj_up S 1 9 rl) 26 f (j : Int) 1 9 = rl := by rw [mj_up_ne (by omega), mj_up_at, if_pos rfl]
    have r17 : mj_up (mj_up S 1 9 rl) 26 f (j : Int) 1 7 = M 1 7 := by rw [mj_up_ne (by omega), mj_up_at, if_neg (by omega)]; exact s2 1 7 (by unfold q_in; omega) (by omega)
    obtain ⟨i1, i2, i3, i4⟩ := z_lki (rl := rl) (u := u) (j := j) (NN := NN) (by omega) hN NN 0 n _ _ X (by omega) I0 r19 (by rw [r0 22 (by omega) (by omega), s2 22 13 (by unfold q_in; omega) (by omega)]; exact hu) hn hl (by rw [r17]; exact h7) (fun i hi => by omega)
    have z0 := z_I_0 i1
    obtain ⟨t1, t2, t3⟩ := z_tr1 (T := q_for (f_gi (u : Int) j) NN 0 (mj_up (mj_up S 1 9 rl) 26 f (j : Int))) h (fun a q1 q2 => by rw [i3 a (by unfold z_ow; omega), r0 a (by omega) (by omega)]; exact s3 a q1 q2) (by rw [i3 9001 (by unfold z_ow; omega), r0 9001 (by omega) (by omega)]; exact s4 9001 (by omega)) z0.1 z0.2
    have eS : f_go (f : Int) (u : Int) rl NN j S = q_tfS 86 0 (q_for (f_gi (u : Int) j) NN 0 (mj_up (mj_up S 1 9 rl) 26 f (j : Int))) := by
      unfold f_go
      simp only [Int.toNat_natCast]
    rw [← eS] at t1 t2 t3
    obtain ⟨X1, hX1⟩ : ∃ X1, m_giN rl u j NN 0 X (mj_up V 26 f (j : Int)) = X1 := ⟨_, rfl⟩
    rw [hX1] at i2 i4
    obtain ⟨g1, g2, g3, g4⟩ := ih (j + 1) (f_go (f : Int) (u : Int) rl NN j S) X1 (by omega) ⟨t1, t2, fun a q1 q2 => by rw [t3 a (by omega), i3 a (by unfold z_ow; omega), r0 a (by omega) (by omega)]; exact s3 a q1 q2, fun a q => by rw [t3 a (by omega), i3 a (by unfold z_ow; omega), r0 a (by omega) (by omega)]; exact s4 a q⟩ (fun i hi t ht => by
      by_cases q : i = j
      · subst q
        exact z_ob_c (i2 t ht) (fun k _ => by rw [t3 _ (by omega)]) (fun _ _ => rfl)
      · refine z_ob_c (ho i (by omega) t ht) (fun k _ => ?_) (fun k hk => ?_)
        · rw [t3 _ (by omega), i3 _ (by unfold z_ow; omega), r0 _ (by omega) (by omega)]
        · exact i4 _ (by omega))
    rw [q_for, m_grN, hX1]
    refine ⟨g1, g2, fun i hi => by rw [g3 i (by omega), i4 i (by omega)], fun a => ?_⟩
    rw [q_gc, m_grC, hX1, g4, z_fig (fun i hi => g2 i (by omega)) j 0 (by omega), m_nw_c hN (fun k hk => g3 k (by omega)) j 0 1 (by omega)]
    omega
end op13
