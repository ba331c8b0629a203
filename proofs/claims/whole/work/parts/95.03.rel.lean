section re3
variable {A B C V W : mj_M}
/-! one pass of the model over the tokens that go -/
theorem m_goes_leafE {P : mj_M → Prop} {E : Int → Prop} (hE : ∀ V t (k : Nat), P V → E t → k < 120 → V 212 k = 1 → V 7 k = t → E (k : Int))
    (hP : ∀ V t, P V → E t → (0 ≤ t ∧ t < 120) → V 212 t.toNat = 1 → (∀ k : Nat, k < 120 → V 212 k = 1 → V 7 k ≠ t) → P (m_go2 V t)) {ρ : Nat → Nat} :
    ∀ (n : Nat) (t : Int) (V : mj_M), m_acy ρ V → m_u01 V → P V → E t → (0 ≤ t ∧ t < 120) → V 212 t.toNat = 1 → ρ t.toNat < n →
      P (m_goes n t V) ∧ m_u01 (m_goes n t V) ∧ m_goes n t V 212 t.toNat = 0 ∧ (∀ j, j ≠ t.toNat → ρ t.toNat ≤ ρ j → m_goes n t V 212 j = V 212 j) := by
  intro n
  induction n with
  | zero => intro t V _ _ _ _ _ _ h; omega
  | succ n ih =>
    intro t V ha hu hp he ht h1 hr
    have loop := q_for_inv (N := 120) (F := fun k A => if A 212 k = 1 ∧ A 7 k = t then m_goes n (k : Int) A else A)
      (P := fun i A => m_acy ρ A ∧ m_u01 A ∧ P A ∧ A 7 = V 7 ∧ (∀ j, ρ t.toNat ≤ ρ j → A 212 j = V 212 j) ∧ (∀ k, k < i → k < 120 → A 212 k = 1 → A 7 k ≠ t))
      (by
        intro i A hi hA
        obtain ⟨a1, a2, a3, a4, a5, a6⟩ := hA
        split
        · rename_i hc
          have hk := a1 i hi (by omega) (by omega)
          rw [hc.2] at hk
          obtain ⟨b1, b2, b3, b4⟩ := ih (i : Int) A a1 a2 a3 (hE A t i a3 he hi hc.1 hc.2) (by omega) (by simpa using hc.1) (by simp only [Int.toNat_natCast]; omega)
          simp only [Int.toNat_natCast] at b3 b4
          have hl := m_goes_less n (i : Int) A
          refine ⟨m_acy_less a1 hl, b2, b1, by rw [hl.1, a4], ?_, ?_⟩
          · intro j hj
            rw [b4 j (by intro e; subst e; omega) (by omega)]
            exact a5 j hj
          · intro k hk1 hk2 hk3
            rw [hl.1]
            by_cases e : k = i
            · subst e; rw [b3] at hk3; omega
            · have := hl.2 k (by omega)
              exact a6 k (by omega) hk2 (by have := a2 k hk2; omega)
        · rename_i hc
          refine ⟨a1, a2, a3, a4, a5, ?_⟩
          intro k hk1 hk2 hk3
          by_cases e : k = i
          · subst e
            intro e2
            exact hc ⟨hk3, e2⟩
          · exact a6 k (by omega) hk2 hk3)
      120 0 V rfl ⟨ha, hu, hp, rfl, fun _ _ => rfl, fun k hk => absurd hk (by omega)⟩
    obtain ⟨a1, a2, a3, a4, a5, a6⟩ := loop
    unfold m_goes
    have e1 := a5 t.toNat (Nat.le_refl _)
    refine ⟨hP _ t a3 he ht (by rw [e1]; exact h1) (fun k hk hk2 => a6 k hk hk hk2), m_go2_u01 a2, ?_, ?_⟩
    · rw [m_go2_212]; simp [mj_up]
    · intro j hj hj2
      rw [m_go2_212]
      simp only [mj_up, if_true]
      rw [if_neg hj]
      exact a5 j hj2
theorem z_198 {tok : Int} : ∀ (n t : Nat) (C : mj_M), (∀ a, a ≠ 15 → q_for (f_m198 tok) n t C a = C a) ∧ (∀ y : Nat, q_for (f_m198 tok) n t C 15 y = if t ≤ y ∧ y < t + n ∧ C 210 y = 1 ∧ C 15 y = tok then -1 else C 15 y) := by
  intro n
  induction n with
  | zero => intro t C; exact ⟨fun _ _ => rfl, fun y => by rw [if_neg (by omega)]; rfl⟩
  | succ n ih =>
    intro t C
    obtain ⟨h1, h2⟩ := ih (t + 1) (f_m198 tok t C)
    have o : ∀ a, a ≠ 15 → f_m198 tok t C a = C a := by
      intro a ha; unfold f_m198; split
      · rw [mj_up_ne ha]
      · rfl
    rw [q_for]
    constructor
    · intro a ha
      rw [h1 a ha, o a ha]
    · intro y
      rw [h2 y, o 210 (by omega)]
      have e : f_m198 tok t C 15 y = if y = t ∧ C 210 t = 1 ∧ C 15 t = tok then -1 else C 15 y := by
        unfold f_m198
        by_cases c : C 210 t = 1 ∧ C 15 t = tok
        · rw [if_pos c]
          simp only [mj_up, if_true]
          by_cases e : y = t
          · rw [if_pos e, if_pos ⟨e, c⟩]
          · rw [if_neg e, if_neg (fun q => e q.1)]
        · rw [if_neg c, if_neg (fun q => c q.2)]
      rw [e]
      by_cases e1 : y = t
      · subst e1
        by_cases c : C 210 y = 1 ∧ C 15 y = tok
        · rw [if_neg (by omega), if_pos ⟨rfl, c⟩, if_pos ⟨by omega, by omega, c⟩]
        · rw [if_neg (by omega), if_neg (fun q => c q.2), if_neg (fun q => c q.2.2)]
      · rw [if_neg (fun q : y = t ∧ _ => e1 q.1)]
        by_cases c : t + 1 ≤ y ∧ y < t + 1 + n ∧ C 210 y = 1 ∧ C 15 y = tok
        · rw [if_pos c, if_pos ⟨by omega, by omega, c.2.2⟩]
        · rw [if_neg c, if_neg (fun q => c ⟨by omega, by omega, q.2.2⟩)]
/-- a leaf goes, looked at row by row -/
theorem z_go2 {t : Int} : (∀ a, a ≠ 15 → a ≠ 42 → a ≠ 212 → a ≠ 6 → a ≠ 1 → m_go2 W t a = W a) ∧ (∀ j, j ≠ 8 → m_go2 W t 1 j = W 1 j) ∧
    (∀ k : Nat, m_go2 W t 212 k = if k = t.toNat then 0 else W 212 k) ∧ (∀ i : Nat, m_go2 W t 42 i = if i = (10 * W 8 t.toNat + W 9 t.toNat).toNat then -1 else W 42 i) ∧
    (∀ y : Nat, y < 40 → m_go2 W t 15 y = if W 210 y = 1 ∧ W 15 y = t then -1 else W 15 y) ∧
    (∀ k : Nat, m_go2 W t 6 k = if W 7 t.toNat ≠ -1 ∧ k = (W 7 t.toNat).toNat then mj_w (W 6 k + W 6 t.toNat) else W 6 k) ∧
    (m_go2 W t 1 8 = if W 7 t.toNat = -1 then mj_w (W 1 8 + W 6 t.toNat) else W 1 8) := by
  have hB : ∀ a, a ≠ 42 → a ≠ 212 → mj_up (mj_up W 212 t.toNat 0) 42 (10 * mj_up W 212 t.toNat 0 8 t.toNat + mj_up W 212 t.toNat 0 9 t.toNat).toNat (-1) a = W a := by
    intro a h1 h2; rw [mj_up_ne h1, mj_up_ne h2]
  have h8 : mj_up W 212 t.toNat 0 8 = W 8 := mj_up_ne (by omega)
  have h9 : mj_up W 212 t.toNat 0 9 = W 9 := mj_up_ne (by omega)
  have go1 : (∀ a, a ≠ 42 → a ≠ 212 → a ≠ 6 → a ≠ 1 → m_go1 W t a = W a) ∧ (∀ j, j ≠ 8 → m_go1 W t 1 j = W 1 j) ∧
    (∀ k : Nat, m_go1 W t 212 k = if k = t.toNat then 0 else W 212 k) ∧ (∀ i : Nat, m_go1 W t 42 i = if i = (10 * W 8 t.toNat + W 9 t.toNat).toNat then -1 else W 42 i) ∧
    (∀ k : Nat, m_go1 W t 6 k = if W 7 t.toNat ≠ -1 ∧ k = (W 7 t.toNat).toNat then mj_w (W 6 k + W 6 t.toNat) else W 6 k) ∧
    (m_go1 W t 1 8 = if W 7 t.toNat = -1 then mj_w (W 1 8 + W 6 t.toNat) else W 1 8) := by
    unfold m_go1
    simp only [hB 7 (by omega) (by omega), hB 6 (by omega) (by omega), hB 1 (by omega) (by omega)]
    rw [h8, h9]
    by_cases c : W 7 t.toNat = -1
    · simp only [c, if_true, ne_eq, not_true_eq_false, false_and, if_false]
      refine ⟨?_, ?_, ?_, ?_, ?_, ?_⟩
      · intro a h1 h2 h3 h4; rw [mj_up_ne h4, mj_up_ne h1, mj_up_ne h2]
      · intro j hj; simp only [mj_up, if_true]; rw [if_neg hj]; simp
      · intro k; rw [mj_up_ne (by omega), mj_up_ne (by omega)]; simp [mj_up]
      · intro i; rw [mj_up_ne (by omega)]; simp [mj_up]
      · intro k; rw [mj_up_ne (by omega), mj_up_ne (by omega), mj_up_ne (by omega)]
      · simp [mj_up]
    · simp only [c, if_false, ne_eq, not_false_eq_true, true_and]
      refine ⟨?_, ?_, ?_, ?_, ?_, ?_⟩
      · intro a h1 h2 h3 h4; rw [mj_up_ne h3, mj_up_ne h1, mj_up_ne h2]
      · intro j hj; rw [mj_up_ne (by omega), mj_up_ne (by omega), mj_up_ne (by omega)]
      · intro k; rw [mj_up_ne (by omega), mj_up_ne (by omega)]; simp [mj_up]
      · intro i; rw [mj_up_ne (by omega)]; simp [mj_up]
      · intro k
        simp only [mj_up, if_true]
        by_cases e : k = (W 7 t.toNat).toNat
        · rw [if_pos e, if_pos e, e]
        · rw [if_neg e, if_neg e]; simp
      · rw [mj_up_ne (by omega), mj_up_ne (by omega), mj_up_ne (by omega)]
  obtain ⟨g1, g2, g3, g4, g5, g6⟩ := go1
  obtain ⟨f1, f2⟩ := z_198 (tok := t) 40 0 (m_go1 W t)
  unfold m_go2
  refine ⟨?_, ?_, ?_, ?_, ?_, ?_, ?_⟩
  · intro a h1 h2 h3 h4 h5; rw [f1 a h1, g1 a h2 h3 h4 h5]
  · intro j hj; rw [f1 1 (by omega)]; exact g2 j hj
  · intro k; rw [f1 212 (by omega)]; exact g3 k
  · intro i; rw [f1 42 (by omega)]; exact g4 i
  · intro y hy
    rw [f2 y, g1 210 (by omega) (by omega) (by omega) (by omega), g1 15 (by omega) (by omega) (by omega) (by omega)]
    by_cases c : W 210 y = 1 ∧ W 15 y = t
    · rw [if_pos ⟨by omega, by omega, c⟩, if_pos c]
    · rw [if_neg (fun q => c q.2.2), if_neg c]
  · intro k; rw [f1 6 (by omega)]; exact g5 k
  · rw [f1 1 (by omega)]; exact g6
theorem q_sum_ext {f g : Nat → Int} : ∀ (n t : Nat), (∀ k, t ≤ k → k < t + n → f k = g k) → q_sum f n t = q_sum g n t := by
  intro n
  induction n with
  | zero => intro t _; rfl
  | succ n ih => intro t h; rw [q_sum, q_sum, h t (by omega) (by omega), ih (t + 1) (fun k h1 h2 => h k (by omega) (by omega))]
theorem q_sum_upd {f g : Nat → Int} (m : Nat) : ∀ (n t : Nat), t ≤ m → m < t + n → (∀ k, t ≤ k → k < t + n → k ≠ m → f k = g k) → q_sum f n t = q_sum g n t + (f m - g m) := by
  intro n
  induction n with
  | zero => intro t h1 h2; omega
  | succ n ih =>
    intro t h1 h2 h
    rw [q_sum, q_sum]
    by_cases e : m = t
    · subst e
      rw [q_sum_ext n (m + 1) (fun k h3 h4 => h k (by omega) (by omega) (by omega))]
      omega
    · rw [h t (by omega) (by omega) (fun q => e q.symm), ih (t + 1) (by omega) (by omega) (fun k h3 h4 h5 => h k (by omega) (by omega) h5)]
      omega
theorem q_sum_zero {f : Nat → Int} : ∀ (n t : Nat), (∀ k, t ≤ k → k < t + n → f k = 0) → q_sum f n t = 0 := by
  intro n
  induction n with
  | zero => intro t _; rfl
  | succ n ih => intro t h; rw [q_sum, h t (by omega) (by omega), ih (t + 1) (fun k h1 h2 => h k (by omega) (by omega))]; rfl
end re3
