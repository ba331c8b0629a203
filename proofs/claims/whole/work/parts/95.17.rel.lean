section re17
variable {A B C V W A' V' : mj_M} {e : Nat}
theorem mj_up_comm {a b i j : Nat} {u v : Int} (h : a ≠ b) : mj_up (mj_up A a i u) b j v = mj_up (mj_up A b j v) a i u := by
  funext c l
  by_cases c1 : c = a
  · have : c ≠ b := by omega
    simp [mj_up, c1, h]
  · by_cases c2 : c = b
    · have : b ≠ a := by omega
      simp [mj_up, c2, this]
    · simp [mj_up, c1, c2]
theorem q_for_cm {F : Nat → mj_M → mj_M} {N a i : Nat} {u : Int} (hF : ∀ t A, t < N → F t (mj_up A a i u) = mj_up (F t A) a i u) : ∀ (n t : Nat) (A : mj_M), t + n = N → q_for F n t (mj_up A a i u) = mj_up (q_for F n t A) a i u := by
  intro n
  induction n with
  | zero => intro t A h; rfl
  | succ n ih => intro t A h; rw [q_for, q_for, hF t A (by omega), ih (t + 1) _ (by omega)]
theorem q_for_set {F : Nat → mj_M → mj_M} {N : Nat} {p : Nat → Nat × Nat} {v : Int} (hF : ∀ t A, t < N → F t A = mj_up A (p t).1 (p t).2 v) : ∀ (n t : Nat) (A : mj_M), t + n = N → ∀ a j : Nat,
    ((∃ k, t ≤ k ∧ k < N ∧ p k = (a, j)) → q_for F n t A a j = v) ∧ ((∀ k, t ≤ k → k < N → p k ≠ (a, j)) → q_for F n t A a j = A a j) := by
  intro n
  induction n with
  | zero => intro t A h a j; exact ⟨fun ⟨k, k1, k2, _⟩ => by omega, fun _ => rfl⟩
  | succ n ih =>
    intro t A h a j
    rw [q_for, hF t A (by omega)]
    obtain ⟨h1, h2⟩ := ih (t + 1) (mj_up A (p t).1 (p t).2 v) (by omega) a j
    by_cases c : ∃ k, t + 1 ≤ k ∧ k < N ∧ p k = (a, j)
    · refine ⟨fun _ => h1 c, fun q => ?_⟩
      obtain ⟨k, k1, k2, k3⟩ := c
      exact absurd k3 (q k (by omega) k2)
    · have c' : ∀ k, t + 1 ≤ k → k < N → p k ≠ (a, j) := fun k k1 k2 k3 => c ⟨k, k1, k2, k3⟩
      rw [h2 c']
      by_cases ct : p t = (a, j)
      · refine ⟨fun _ => by rw [ct]; simp [mj_up], fun q => absurd ct (q t (by omega) (by omega))⟩
      · refine ⟨fun ⟨k, k1, k2, k3⟩ => ?_, fun _ => ?_⟩
        · by_cases g : k = t
          · rw [g] at k3; exact absurd k3 ct
          · exact absurd k3 (c' k (by omega) k2)
        · by_cases g : a = (p t).1
          · rw [g, mj_up_at, if_neg]
            intro g2
            exact ct (by rw [g, g2])
          · rw [mj_up_ne g]
def z_dz (y k : Nat) : Nat × Nat := if k = 0 then (210, y) else if k = 1 then (14, y) else if k = 2 then (15, y) else if k = 3 then (16, y) else if k = 4 then (17, y) else if k = 5 then (19, y) else if k = 6 then (18, y) else if k = 7 then (211, y)
  else if k < 38 then (20, 30 * y + (k - 8)) else (21, 30 * y + (k - 38))
theorem z_dz_eq {y : Int} {k : Nat} (hy : 0 ≤ y ∧ y < 40) (hk : k < 68) : v_dec (32 + 68 * y + (k : Int)).toNat = z_dz y.toNat k := by
  have e1 : ((32 + 68 * y + (k : Int)).toNat - 32) % 68 = k := by omega
  have e2 : ((32 + 68 * y + (k : Int)).toNat - 32) / 68 = y.toNat := by omega
  unfold v_dec z_dz
  rw [e1, e2, if_neg (by omega), if_pos (by omega)]
theorem z_dz_no {y k a j : Nat} (h : z_dz y k = (a, j)) : (a = 210 ∨ a = 211 ∨ (14 ≤ a ∧ a ≤ 21)) ∧ (a = 20 ∨ a = 21 ∨ j = y) ∧ (a = 20 ∨ a = 21 → k < 68 → 30 * y ≤ j ∧ j < 30 * y + 30) := by
  unfold z_dz at h
  repeat' (split at h; · (injection h with h1 h2; omega))
  injection h with h1 h2; omega
theorem z_mz {y : Int} (hy : 0 ≤ y ∧ y < 40) : (∀ a, a ≠ 210 → a ≠ 211 → (a < 14 ∨ 21 < a) → q_for (f_mz y) 68 0 V a = V a) ∧ (∀ a j : Nat, (a = 210 ∨ a = 211 ∨ (14 ≤ a ∧ a ≤ 19)) → q_for (f_mz y) 68 0 V a j = if j = y.toNat then 0 else V a j) ∧
    (∀ a j : Nat, (a = 20 ∨ a = 21) → (j < 30 * y.toNat ∨ 30 * y.toNat + 30 ≤ j) → q_for (f_mz y) 68 0 V a j = V a j) := by
  have H := q_for_set (F := f_mz y) (N := 68) (p := z_dz y.toNat) (v := 0) (fun k A hk => by unfold f_mz; rw [z_dz_eq hy hk]) 68 0 V rfl
  refine ⟨?_, ?_, ?_⟩
  · intro a h1 h2 h3
    funext j
    apply (H a j).2
    intro k _ _ q
    have := z_dz_no q
    omega
  · intro a j h
    by_cases c : j = y.toNat
    · rw [if_pos c]
      apply (H a j).1
      rcases h with h | h | h
      · exact ⟨0, by omega, by omega, by rw [h, c]; rfl⟩
      · exact ⟨7, by omega, by omega, by rw [h, c]; rfl⟩
      · have : a = 14 ∨ a = 15 ∨ a = 16 ∨ a = 17 ∨ a = 18 ∨ a = 19 := by omega
        rcases this with g | g | g | g | g | g
        · exact ⟨1, by omega, by omega, by rw [g, c]; rfl⟩
        · exact ⟨2, by omega, by omega, by rw [g, c]; rfl⟩
        · exact ⟨3, by omega, by omega, by rw [g, c]; rfl⟩
        · exact ⟨4, by omega, by omega, by rw [g, c]; rfl⟩
        · exact ⟨6, by omega, by omega, by rw [g, c]; rfl⟩
        · exact ⟨5, by omega, by omega, by rw [g, c]; rfl⟩
    · rw [if_neg c]
      apply (H a j).2
      intro k _ _ q
      have := z_dz_no q
      omega
  · intro a j h h2
    apply (H a j).2
    intro k _ hk q
    have := (z_dz_no q).2.2 h hk
    omega
theorem z_mkt {y k o : Int} (hy : 0 ≤ y ∧ y < 40) :
    (∀ a, a ≠ 210 → a ≠ 211 → a ≠ 42 → a ≠ 201 → (a < 14 ∨ 21 < a) → m_mkt V y k o a = V a) ∧
    (∀ j, m_mkt V y k o 14 j = if j = y.toNat then k else V 14 j) ∧
    (∀ j, m_mkt V y k o 15 j = if j = y.toNat then o else V 15 j) ∧
    (∀ j, m_mkt V y k o 16 j = if j = y.toNat then 0 else V 16 j) ∧
    (∀ j, m_mkt V y k o 17 j = if j = y.toNat then 0 else V 17 j) ∧
    (∀ j, m_mkt V y k o 18 j = if j = y.toNat then 0 else V 18 j) ∧
    (∀ j, m_mkt V y k o 19 j = if j = y.toNat then 0 else V 19 j) ∧
    (∀ j, m_mkt V y k o 210 j = if j = y.toNat then 1 else V 210 j) ∧
    (∀ j, m_mkt V y k o 211 j = if j = y.toNat then mj_w (V 201 1 + 1) else V 211 j) ∧
    (∀ a j : Nat, (a = 20 ∨ a = 21) → (j < 30 * y.toNat ∨ 30 * y.toNat + 30 ≤ j) → m_mkt V y k o a j = V a j) ∧
    (∀ j, m_mkt V y k o 42 j = if 10 * y.toNat ≤ j ∧ j < 10 * y.toNat + 10 then -1 else V 42 j) ∧
    (∀ j, m_mkt V y k o 201 j = if j = 1 then mj_w (V 201 1 + 1) else V 201 j) := by
  obtain ⟨z1, z2, z3⟩ := z_mz (V := V) hy
  have H := q_for_set (F := f_mtb y) (N := 10) (p := fun k => (42, 10 * y.toNat + k)) (v := -1) (fun k A hk => by unfold f_mtb; rw [show (10 * y + (k : Int)).toNat = 10 * y.toNat + k by omega]) 10 0 (m_mkB V y k o) rfl
  have Ho : ∀ a, a ≠ 42 → m_mkt V y k o a = m_mkB V y k o a := fun a ha => by
    funext j
    exact (H a j).2 (fun k _ _ q => by injection q with q1 q2; omega)
  have B0 : ∀ a, a ≠ 201 → a ≠ 210 → a ≠ 211 → a ≠ 14 → a ≠ 15 → m_mkB V y k o a = q_for (f_mz y) 68 0 V a := fun a h1 h2 h3 h4 h5 => by
    unfold m_mkB; rw [mj_up_ne h3, mj_up_ne h5, mj_up_ne h4, mj_up_ne h2, mj_up_ne h1]
  have z201 : q_for (f_mz y) 68 0 V 201 = V 201 := z1 201 (by omega) (by omega) (by omega)
  have B201 : ∀ j, m_mkB V y k o 201 j = if j = 1 then mj_w (V 201 1 + 1) else V 201 j := fun j => by
    unfold m_mkB; rw [mj_up_ne (by omega), mj_up_ne (by omega), mj_up_ne (by omega), mj_up_ne (by omega), mj_up_at, z201]
  refine ⟨?_, ?_, ?_, ?_, ?_, ?_, ?_, ?_, ?_, ?_, ?_, ?_⟩
  · intro a h1 h2 h3 h4 h5
    rw [Ho a h3, B0 a h4 h1 h2 (by omega) (by omega), z1 a h1 h2 h5]
  · intro j
    rw [Ho 14 (by omega)]
    unfold m_mkB
    rw [mj_up_ne (by omega), mj_up_ne (by omega), mj_up_at, mj_up_ne (by omega), mj_up_ne (by omega), z2 14 j (by omega)]
    split
    · rfl
    · rfl
  · intro j
    rw [Ho 15 (by omega)]
    unfold m_mkB
    rw [mj_up_ne (by omega), mj_up_at, mj_up_ne (by omega), mj_up_ne (by omega), mj_up_ne (by omega), z2 15 j (by omega)]
    split
    · rfl
    · rfl
  · intro j; rw [Ho 16 (by omega), B0 16 (by omega) (by omega) (by omega) (by omega) (by omega)]; exact z2 16 j (by omega)
  · intro j; rw [Ho 17 (by omega), B0 17 (by omega) (by omega) (by omega) (by omega) (by omega)]; exact z2 17 j (by omega)
  · intro j; rw [Ho 18 (by omega), B0 18 (by omega) (by omega) (by omega) (by omega) (by omega)]; exact z2 18 j (by omega)
  · intro j; rw [Ho 19 (by omega), B0 19 (by omega) (by omega) (by omega) (by omega) (by omega)]; exact z2 19 j (by omega)
  · intro j
    rw [Ho 210 (by omega)]
    unfold m_mkB
    rw [mj_up_ne (by omega), mj_up_ne (by omega), mj_up_ne (by omega), mj_up_at, mj_up_ne (by omega), z2 210 j (by omega)]
    split
    · rfl
    · rfl
  · intro j
    rw [Ho 211 (by omega)]
    unfold m_mkB
    rw [mj_up_at, mj_up_at, if_pos rfl, z201, mj_up_ne (by omega), mj_up_ne (by omega), mj_up_ne (by omega), mj_up_ne (by omega), z2 211 j (by omega)]
    split
    · rfl
    · rfl
  · intro a j h h2
    rw [Ho a (by omega), B0 a (by omega) (by omega) (by omega) (by omega) (by omega)]; exact z3 a j h h2
  · intro j
    by_cases c : 10 * y.toNat ≤ j ∧ j < 10 * y.toNat + 10
    · rw [if_pos c]
      exact (H 42 j).1 ⟨j - 10 * y.toNat, by omega, by omega, by show (42, 10 * y.toNat + (j - 10 * y.toNat)) = (42, j); rw [show 10 * y.toNat + (j - 10 * y.toNat) = j by omega]⟩
    · rw [if_neg c]
      have : m_mkt V y k o 42 j = m_mkB V y k o 42 j := (H 42 j).2 (fun k _ _ q => by injection q with q1 q2; omega)
      rw [this, B0 42 (by omega) (by omega) (by omega) (by omega) (by omega), z1 42 (by omega) (by omega) (by omega)]
  · intro j
    rw [Ho 201 (by omega), B201]
theorem z_mkt_cm {y k o : Int} {i : Nat} {u : Int} (hy : 0 ≤ y ∧ y < 40) : m_mkt (mj_up V 6 i u) y k o = mj_up (m_mkt V y k o) 6 i u := by
  have h1 : q_for (f_mz y) 68 0 (mj_up V 6 i u) = mj_up (q_for (f_mz y) 68 0 V) 6 i u := q_for_cm (N := 68) (fun t A ht => by
    unfold f_mz
    have q := z_dz_no (y := y.toNat) (k := t) (a := (v_dec (32 + 68 * y + (t : Int)).toNat).1) (j := (v_dec (32 + 68 * y + (t : Int)).toNat).2) (by rw [z_dz_eq hy ht])
    exact mj_up_comm (by omega)) 68 0 V rfl
  have h2 : ∀ A, q_for (f_mtb y) 10 0 (mj_up A 6 i u) = mj_up (q_for (f_mtb y) 10 0 A) 6 i u := fun A => q_for_cm (N := 10) (fun t A ht => by unfold f_mtb; exact mj_up_comm (by omega)) 10 0 A rfl
  unfold m_mkt
  rw [← h2]
  congr 1
  unfold m_mkB
  simp only [h1]
  rw [mj_up_ne (show (201 : Nat) ≠ 6 by decide)]
  rw [mj_up_comm (show (6 : Nat) ≠ 201 by decide), mj_up_comm (show (6 : Nat) ≠ 210 by decide), mj_up_comm (show (6 : Nat) ≠ 14 by decide), mj_up_comm (show (6 : Nat) ≠ 15 by decide), mj_up_ne (show (201 : Nat) ≠ 6 by decide), mj_up_comm (show (6 : Nat) ≠ 211 by decide)]
theorem q_ff_o {a : Nat} (h : B a = A a) : ∀ (n : Nat) (t : Int), q_ff B a n t = q_ff A a n t := by
  intro n
  induction n with
  | zero => intro t; rfl
  | succ n ih => intro t; rw [q_ff, q_ff, h, ih (t + 1)]
theorem m_put_6 {i : Nat} {u : Int} {k th r n l b s la : Int} : ∀ a, a ≠ 6 → m_put (mj_up V 6 i u) k th r n l b s la a = m_put V k th r 0 l b s la a := by
  intro a ha
  have h0 : m_ftk (mj_up V 6 i u) 120 0 = m_ftk V 120 0 := m_ftk_o (mj_up_ne (by omega)) 120 0
  funext j
  unfold m_put
  rw [h0]
  simp [mj_up, ha]
end re17
