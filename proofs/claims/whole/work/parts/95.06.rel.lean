section re6
variable {A B C V W : mj_M}
/-! things, runners, wishes on both sides -/
def z_H (A V : mj_M) : Prop := ∀ y : Nat, y < 40 → (A 14 y = -1 ∧ V 210 y = 0) ∨ (A 14 y ≠ -1 ∧ V 210 y = 1 ∧ V 14 y = A 14 y ∧ V 15 y = A 15 y ∧ V 16 y = A 16 y ∧ V 17 y = A 17 y ∧ V 18 y = A 18 y ∧ V 19 y = A 19 y)
def z_H2 (A : mj_M) : Prop := ∀ y : Nat, y < 40 → A 14 y ≠ -1 → (A 14 y ≠ 0 → A 16 y = 0) ∧ (A 14 y ≠ 4 → A 17 y = 0 ∧ A 18 y = 0 ∧ A 19 y = 0) ∧ (A 15 y ≠ -1 → A 3 (A 15 y).toNat ≠ -1)
def z_H3 (A V : mj_M) : Prop := ∀ y : Nat, y < 40 → A 14 y ≠ -1 → (∀ j : Nat, j < 30 → (j : Int) < A 17 y → V 20 (30 * y + j) = A 20 (30 * y + j)) ∧ (∀ j : Nat, j < 30 → (j : Int) < A 18 y → V 21 (30 * y + j) = A 21 (30 * y + j))
def z_R (e : Nat) (A V : mj_M) : Prop := V 22 13 = A 22 13 ∧ ∀ r : Nat, r < 8 → V 23 r = A 23 r ∧ V 24 r = A 24 r ∧ (r ≠ e → V 25 r = A 25 r ∧ V 26 r = A 26 r) ∧ V 27 r = A 27 r ∧ V 28 r = A 28 r ∧ V 29 r = A 29 r ∧ V 30 r = A 30 r ∧ V 31 r = A 31 r
def z_R2 (A V : mj_M) : Prop := ∀ r : Nat, r < 8 → (A 24 r = 1 ∨ A 24 r = 2 → V 32 r = A 32 r) ∧ (A 24 r = 2 → V 33 r = A 33 r) ∧ (∀ j : Nat, j < 160 → (j : Int) < 4 * A 31 r → V 35 (160 * r + j) = A 35 (160 * r + j))
def z_Q (A : mj_M) : Prop := ∀ r : Nat, (r : Int) < A 22 13 → (0 ≤ A 24 r ∧ A 24 r ≤ 4) ∧ (A 28 r ≠ -1 ↔ (A 24 r = 1 ∨ A 24 r = 2)) ∧ (A 29 r ≠ -1 → A 24 r = 2 ∧ A 29 r < A 22 13 ∧ A 30 (A 29 r).toNat = r) ∧
  (A 30 r ≠ -1 → A 30 r < A 22 13 ∧ A 24 (A 30 r).toNat = 2 ∧ A 29 (A 30 r).toNat = r) ∧ (A 29 r ≠ -1 → A 24 (A 29 r).toNat = 2 → A 34 r < A 34 (A 29 r).toNat)
def z_QH (A : mj_M) : Prop := ∀ r : Nat, (r : Int) < A 22 13 → (A 24 r ≠ 4 → A 14 (A 23 r).toNat = 1) ∧ (A 28 r ≠ -1 → A 14 (A 28 r).toNat = 2 ∨ A 14 (A 28 r).toNat = 3) ∧ (A 27 r ≠ -1 → A 14 (A 27 r).toNat = 2 ∨ A 14 (A 27 r).toNat = 3)
def z_O (A V : mj_M) : Prop := (∀ r q : Nat, (r : Int) < A 22 13 → (q : Int) < A 22 13 → A 24 r = 2 → A 24 q = 2 → (A 34 r < A 34 q ↔ V 34 r < V 34 q)) ∧ (∀ r : Nat, (r : Int) < A 22 13 → A 24 r = 2 → V 34 r ≤ V 201 0)
def z_al (V : mj_M) (u : Nat) : Prop := V 210 (V 38 u).toNat = 1 ∧ V 210 (V 39 u).toNat = 1 ∧ V 211 (V 38 u).toNat = V 214 u ∧ V 211 (V 39 u).toNat = V 215 u
def z_W (A V : mj_M) : Prop := V 36 5 = A 36 5 ∧ (∀ y : Nat, y < 40 → V 210 y = 1 → V 211 y ≤ V 201 1) ∧ ∀ u : Nat, (u : Int) < A 36 5 → V 37 u = A 37 u - 1 ∧ (A 37 u = 1 ∨ A 37 u = 2) ∧ V 38 u = A 38 u ∧ V 39 u = A 39 u ∧ (0 ≤ A 38 u ∧ A 38 u < 40) ∧ (0 ≤ A 39 u ∧ A 39 u < 40) ∧
  (A 37 u = 1 → V 40 u = A 40 u) ∧ (A 41 u = 0 ↔ z_al V u) ∧ V 214 u ≤ V 201 1 ∧ V 215 u ≤ V 201 1
def z_G (A V : mj_M) : Prop := V 1 6 = A 1 6 ∧ V 1 7 = A 1 7 ∧ V 1 8 = A 1 8 ∧ V 1 9 = V 1 9 ∧ V 1 10 = A 1 10 ∧ V 1 11 = A 1 11 ∧ ∀ j : Nat, j < 16 → V 43 j = A 43 j
def z_TH (A : mj_M) : Prop := ∀ t : Nat, t < 120 → A 3 t ≠ -1 → A 4 t ≠ -1 → A 14 (A 4 t).toNat ≠ -1
def z_TB (A : mj_M) : Prop := ∀ t : Nat, t < 120 → A 3 t ≠ -1 → A 14 (A 8 t).toNat = 1 ∨ A 131 t ≠ 0
def z_TR (A : mj_M) : Prop := ∀ t : Nat, t < 120 → A 3 t ≠ -1 → (0 ≤ A 5 t ∧ A 5 t ≤ 31) ∧ (A 4 t ≠ -1 → A 5 t ≤ 15) ∧ (A 12 t = 0 ∨ A 12 t = 1)
def z_HT (A : mj_M) (n : Nat) : Prop := ∀ y : Nat, 1 ≤ y → y < n → A 14 y ≠ -1 → ∃ t : Nat, t < 120 ∧ A 3 t ≠ -1 ∧ A 4 t = y
def z_PR (A : mj_M) : Prop := ∀ k : Nat, k < 6 → A 9001 k = m_ro k
theorem mj_up_at {a i k : Nat} {v : Int} : mj_up A a i v a k = if k = i then v else A a k := by simp [mj_up]
theorem z_wk {u a : Int} : (∀ o, o < 24 ∨ o = 27 ∨ 29 < o → q_wake A u a o = A o) ∧ (∀ k, q_wake A u a 24 k = if k = u.toNat then 0 else A 24 k) ∧ (∀ k, q_wake A u a 25 k = if k = u.toNat then mj_w (A 25 k + 1) else A 25 k) ∧
    (∀ k, q_wake A u a 26 k = if k = u.toNat then a else A 26 k) ∧ (∀ k, q_wake A u a 28 k = if k = u.toNat then -1 else A 28 k) ∧ (∀ k, q_wake A u a 29 k = if k = u.toNat then -1 else A 29 k) := by
  unfold q_wake
  refine ⟨?_, ?_, ?_, ?_, ?_, ?_⟩
  · intro o h; rw [mj_up_ne (by omega), mj_up_ne (by omega), mj_up_ne (by omega), mj_up_ne (by omega), mj_up_ne (by omega)]
  · intro k; rw [mj_up_ne (by omega), mj_up_ne (by omega), mj_up_ne (by omega), mj_up_ne (by omega), mj_up_at]
  · intro k; rw [mj_up_ne (by omega), mj_up_ne (by omega), mj_up_ne (by omega), mj_up_at, mj_up_ne (by omega)]
    by_cases e : k = u.toNat
    · rw [if_pos e, if_pos e, e]
    · rw [if_neg e, if_neg e]
  · intro k; rw [mj_up_ne (by omega), mj_up_ne (by omega), mj_up_at, mj_up_ne (by omega), mj_up_ne (by omega)]
  · intro k; rw [mj_up_ne (by omega), mj_up_at, mj_up_ne (by omega), mj_up_ne (by omega), mj_up_ne (by omega)]
  · intro k; rw [mj_up_at, mj_up_ne (by omega), mj_up_ne (by omega), mj_up_ne (by omega), mj_up_ne (by omega)]
theorem z_rdV {u : Int} : (∀ o, o < 24 ∨ o = 26 ∨ o = 27 ∨ 29 < o → m_rd A u o = A o) ∧ (∀ k, m_rd A u 24 k = if k = u.toNat then 0 else A 24 k) ∧ (∀ k, m_rd A u 25 k = if k = u.toNat then mj_w (A 25 k + 1) else A 25 k) ∧
    (∀ k, m_rd A u 28 k = if k = u.toNat then -1 else A 28 k) ∧ (∀ k, m_rd A u 29 k = if k = u.toNat then -1 else A 29 k) := by
  unfold m_rd
  refine ⟨?_, ?_, ?_, ?_, ?_⟩
  · intro o h; rw [mj_up_ne (by omega), mj_up_ne (by omega), mj_up_ne (by omega), mj_up_ne (by omega)]
  · intro k; rw [mj_up_ne (by omega), mj_up_ne (by omega), mj_up_ne (by omega), mj_up_at]
  · intro k; rw [mj_up_at, mj_up_ne (by omega), mj_up_ne (by omega), mj_up_ne (by omega)]
    by_cases e : k = u.toNat
    · rw [if_pos e, if_pos e, e]
    · rw [if_neg e, if_neg e]
  · intro k; rw [mj_up_ne (by omega), mj_up_ne (by omega), mj_up_at, mj_up_ne (by omega)]
  · intro k; rw [mj_up_ne (by omega), mj_up_at, mj_up_ne (by omega), mj_up_ne (by omega)]
/-- what an end leaves: u the one that was served, v the one that served -/
def z_en (A B : mj_M) (r : Nat) (s : Int) : Prop :=
    (∀ o, o < 24 ∨ o = 27 ∨ 30 < o → B o = A o) ∧
    (∀ k : Nat, B 24 k = if k = r then s else if A 30 r ≠ -1 ∧ k = (A 30 r).toNat then 0 else A 24 k) ∧
    (∀ k : Nat, B 25 k = if A 30 r ≠ -1 ∧ k = (A 30 r).toNat then mj_w (A 25 k + 1) else A 25 k) ∧
    (∀ k : Nat, B 26 k = if A 30 r ≠ -1 ∧ k = (A 30 r).toNat then -1 else A 26 k) ∧
    (∀ k : Nat, B 28 k = if k = r then -1 else if A 30 r ≠ -1 ∧ k = (A 30 r).toNat then -1 else A 28 k) ∧
    (∀ k : Nat, B 29 k = if k = r then -1 else if A 30 r ≠ -1 ∧ k = (A 30 r).toNat then -1 else A 29 k) ∧
    (∀ k : Nat, B 30 k = if A 29 r ≠ -1 ∧ k = (A 29 r).toNat then -1 else if k = r then -1 else A 30 k)
theorem z_endA {r : Nat} {s : Int} (hu : A 30 r ≠ -1 → (A 30 r).toNat ≠ r) : z_en A (q_end A r s) r s := by
  have h1 : (∀ o, o < 24 ∨ o = 27 ∨ 30 < o → q_end1 A r o = A o) ∧ (∀ k, q_end1 A r 24 k = if A 30 r ≠ -1 ∧ k = (A 30 r).toNat then 0 else A 24 k) ∧ (∀ k, q_end1 A r 25 k = if A 30 r ≠ -1 ∧ k = (A 30 r).toNat then mj_w (A 25 k + 1) else A 25 k) ∧
    (∀ k, q_end1 A r 26 k = if A 30 r ≠ -1 ∧ k = (A 30 r).toNat then -1 else A 26 k) ∧ (∀ k, q_end1 A r 28 k = if A 30 r ≠ -1 ∧ k = (A 30 r).toNat then -1 else A 28 k) ∧ (∀ k, q_end1 A r 29 k = if A 30 r ≠ -1 ∧ k = (A 30 r).toNat then -1 else A 29 k) ∧
    (∀ k, q_end1 A r 30 k = if k = r then -1 else A 30 k) := by
    unfold q_end1
    simp only [Int.toNat_natCast]
    by_cases c : A 30 r = -1
    · rw [if_pos c]
      have n : ∀ k : Nat, ¬ (A 30 r ≠ -1 ∧ k = (A 30 r).toNat) := fun k q => q.1 c
      refine ⟨fun _ _ => rfl, fun k => by rw [if_neg (n k)], fun k => by rw [if_neg (n k)], fun k => by rw [if_neg (n k)], fun k => by rw [if_neg (n k)], fun k => by rw [if_neg (n k)], fun k => ?_⟩
      by_cases e : k = r
      · rw [if_pos e, e, c]
      · rw [if_neg e]
    · rw [if_neg c]
      obtain ⟨w1, w2, w3, w4, w5, w6⟩ := z_wk (A := A) (u := A 30 r) (a := -1)
      have n : ∀ k : Nat, (A 30 r ≠ -1 ∧ k = (A 30 r).toNat) = (k = (A 30 r).toNat) := fun k => by simp [c]
      refine ⟨fun o h => ?_, fun k => ?_, fun k => ?_, fun k => ?_, fun k => ?_, fun k => ?_, fun k => ?_⟩
      · rw [mj_up_ne (by omega), w1 o (by omega)]
      · rw [mj_up_ne (by omega), w2]; simp only [n]
      · rw [mj_up_ne (by omega), w3]; simp only [n]
      · rw [mj_up_ne (by omega), w4]; simp only [n]
      · rw [mj_up_ne (by omega), w5]; simp only [n]
      · rw [mj_up_ne (by omega), w6]; simp only [n]
      · rw [mj_up_at, w1 30 (by omega)]
  obtain ⟨a1, a2, a3, a4, a5, a6, a7⟩ := h1
  have e29 : q_end1 A r 29 r = A 29 r := by rw [a6, if_neg (fun q => hu q.1 q.2.symm)]
  have h2 : (∀ o, o ≠ 29 → o ≠ 30 → q_end2 (q_end1 A r) r o = q_end1 A r o) ∧ (∀ k, q_end2 (q_end1 A r) r 29 k = if k = r then -1 else q_end1 A r 29 k) ∧
      (∀ k, q_end2 (q_end1 A r) r 30 k = if A 29 r ≠ -1 ∧ k = (A 29 r).toNat then -1 else q_end1 A r 30 k) := by
    unfold q_end2
    simp only [Int.toNat_natCast]
    rw [e29]
    by_cases c : A 29 r = -1
    · rw [if_pos c]
      refine ⟨fun _ _ _ => rfl, fun k => ?_, fun k => by rw [if_neg (fun q => q.1 c)]⟩
      by_cases e : k = r
      · rw [if_pos e, e, e29, c]
      · rw [if_neg e]
    · rw [if_neg c]
      have n : ∀ k : Nat, (A 29 r ≠ -1 ∧ k = (A 29 r).toNat) = (k = (A 29 r).toNat) := fun k => by simp [c]
      refine ⟨fun o h1 h2 => by rw [mj_up_ne h1, mj_up_ne h2], fun k => ?_, fun k => ?_⟩
      · rw [mj_up_at, mj_up_ne (by omega)]
      · rw [mj_up_ne (by omega), mj_up_at]; simp only [n]
  obtain ⟨b1, b2, b3⟩ := h2
  unfold q_end
  simp only [Int.toNat_natCast]
  refine ⟨fun o h => ?_, fun k => ?_, fun k => ?_, fun k => ?_, fun k => ?_, fun k => ?_, fun k => ?_⟩
  · rw [mj_up_ne (by omega), mj_up_ne (by omega), b1 o (by omega) (by omega), a1 o h]
  · rw [mj_up_at, mj_up_ne (by omega), b1 24 (by omega) (by omega), a2]
  · rw [mj_up_ne (by omega), mj_up_ne (by omega), b1 25 (by omega) (by omega), a3]
  · rw [mj_up_ne (by omega), mj_up_ne (by omega), b1 26 (by omega) (by omega), a4]
  · rw [mj_up_ne (by omega), mj_up_at, b1 28 (by omega) (by omega), a5]
  · rw [mj_up_ne (by omega), mj_up_ne (by omega), b2, a6]
  · rw [mj_up_ne (by omega), mj_up_ne (by omega), b3, a7]
theorem z_endV {r : Nat} {s : Int} (hu : A 30 r ≠ -1 → (A 30 r).toNat ≠ r) : z_en A (m_en A r s) r s := by
  have h0 : (∀ o, o ≠ 24 → o ≠ 28 → m_enA A r s o = A o) ∧ (∀ k, m_enA A r s 24 k = if k = r then s else A 24 k) ∧ (∀ k, m_enA A r s 28 k = if k = r then -1 else A 28 k) := by
    unfold m_enA
    simp only [Int.toNat_natCast]
    refine ⟨fun o h1 h2 => by rw [mj_up_ne h2, mj_up_ne h1], fun k => by rw [mj_up_ne (by omega), mj_up_at], fun k => by rw [mj_up_at, mj_up_ne (by omega)]⟩
  obtain ⟨c1, c2, c3⟩ := h0
  have c30 := c1 30 (by omega) (by omega)
  have h1 : (∀ o, o < 24 ∨ o = 27 ∨ 30 < o → m_enB (m_enA A r s) r o = A o) ∧ (∀ k, m_enB (m_enA A r s) r 24 k = if A 30 r ≠ -1 ∧ k = (A 30 r).toNat then 0 else if k = r then s else A 24 k) ∧ (∀ k, m_enB (m_enA A r s) r 25 k = if A 30 r ≠ -1 ∧ k = (A 30 r).toNat then mj_w (A 25 k + 1) else A 25 k) ∧
    (∀ k, m_enB (m_enA A r s) r 26 k = if A 30 r ≠ -1 ∧ k = (A 30 r).toNat then -1 else A 26 k) ∧ (∀ k, m_enB (m_enA A r s) r 28 k = if A 30 r ≠ -1 ∧ k = (A 30 r).toNat then -1 else if k = r then -1 else A 28 k) ∧ (∀ k, m_enB (m_enA A r s) r 29 k = if A 30 r ≠ -1 ∧ k = (A 30 r).toNat then -1 else A 29 k) ∧
    (∀ k, m_enB (m_enA A r s) r 30 k = if k = r then -1 else A 30 k) := by
    unfold m_enB
    simp only [Int.toNat_natCast, c30]
    by_cases c : A 30 r = -1
    · rw [if_pos c]
      have n : ∀ k : Nat, ¬ (A 30 r ≠ -1 ∧ k = (A 30 r).toNat) := fun k q => q.1 c
      refine ⟨fun o h => c1 o (by omega) (by omega), fun k => by rw [if_neg (n k), c2], fun k => by rw [if_neg (n k), c1 25 (by omega) (by omega)], fun k => by rw [if_neg (n k), c1 26 (by omega) (by omega)], fun k => by rw [if_neg (n k), c3], fun k => by rw [if_neg (n k), c1 29 (by omega) (by omega)], fun k => ?_⟩
      rw [c30]
      by_cases e : k = r
      · rw [if_pos e, e, c]
      · rw [if_neg e]
    · rw [if_neg c]
      obtain ⟨w1, w2, w3, w4, w5⟩ := z_rdV (A := mj_up (mj_up (m_enA A r s) 30 r (-1)) 26 (A 30 r).toNat (-1)) (u := A 30 r)
      have n : ∀ k : Nat, (A 30 r ≠ -1 ∧ k = (A 30 r).toNat) = (k = (A 30 r).toNat) := fun k => by simp [c]
      have o : ∀ a, a ≠ 26 → a ≠ 30 → mj_up (mj_up (m_enA A r s) 30 r (-1)) 26 (A 30 r).toNat (-1) a = m_enA A r s a := fun a h1 h2 => by rw [mj_up_ne h1, mj_up_ne h2]
      refine ⟨fun a h => ?_, fun k => ?_, fun k => ?_, fun k => ?_, fun k => ?_, fun k => ?_, fun k => ?_⟩
      · rw [w1 a (by omega), o a (by omega) (by omega), c1 a (by omega) (by omega)]
      · rw [w2, o 24 (by omega) (by omega), c2]; simp only [n]
      · rw [w3, o 25 (by omega) (by omega), c1 25 (by omega) (by omega)]; simp only [n]
      · rw [w1 26 (by omega), mj_up_at, mj_up_ne (by omega), c1 26 (by omega) (by omega)]; simp only [n]
      · rw [w4, o 28 (by omega) (by omega), c3]; simp only [n]
      · rw [w5, o 29 (by omega) (by omega), c1 29 (by omega) (by omega)]; simp only [n]
      · rw [w1 30 (by omega), mj_up_ne (by omega), mj_up_at, c30]
  obtain ⟨a1, a2, a3, a4, a5, a6, a7⟩ := h1
  have e29 : m_enB (m_enA A r s) r 29 r = A 29 r := by rw [a6, if_neg (fun q => hu q.1 q.2.symm)]
  have sw : ∀ (k : Nat) (p q z : Int), (if A 30 r ≠ -1 ∧ k = (A 30 r).toNat then p else if k = r then q else z) = (if k = r then q else if A 30 r ≠ -1 ∧ k = (A 30 r).toNat then p else z) := by
    intro k p q z
    by_cases e : k = r
    · have n : ¬ (A 30 r ≠ -1 ∧ k = (A 30 r).toNat) := fun q => hu q.1 (by rw [← q.2, e])
      rw [if_neg n, if_pos e, if_pos e]
    · rw [if_neg e, if_neg e]
  unfold m_en m_enC
  simp only [Int.toNat_natCast]
  rw [e29]
  by_cases c : A 29 r = -1
  · rw [if_pos c]
    have n : ∀ k : Nat, ¬ (A 29 r ≠ -1 ∧ k = (A 29 r).toNat) := fun k q => q.1 c
    refine ⟨fun o h => a1 o h, fun k => by rw [a2, sw], a3, a4, fun k => by rw [a5, sw], fun k => ?_, fun k => by rw [a7, if_neg (n k)]⟩
    rw [a6]
    by_cases e : k = r
    · have n : ¬ (A 30 r ≠ -1 ∧ k = (A 30 r).toNat) := fun q => hu q.1 (by rw [← q.2, e])
      rw [if_pos e, if_neg n, e, c]
    · rw [if_neg e]
  · rw [if_neg c]
    have n : ∀ k : Nat, (A 29 r ≠ -1 ∧ k = (A 29 r).toNat) = (k = (A 29 r).toNat) := fun k => by simp [c]
    have o : ∀ a, a ≠ 29 → a ≠ 30 → mj_up (mj_up (m_enB (m_enA A r s) r) 29 r (-1)) 30 (A 29 r).toNat (-1) a = m_enB (m_enA A r s) r a := fun a h1 h2 => by rw [mj_up_ne h2, mj_up_ne h1]
    refine ⟨fun a h => by rw [o a (by omega) (by omega)]; exact a1 a h, fun k => by rw [o 24 (by omega) (by omega), a2, sw], fun k => by rw [o 25 (by omega) (by omega), a3], fun k => by rw [o 26 (by omega) (by omega), a4], fun k => by rw [o 28 (by omega) (by omega), a5, sw], fun k => ?_, fun k => ?_⟩
    · rw [mj_up_ne (by omega), mj_up_at, a6]
    · rw [mj_up_at, mj_up_ne (by omega), a7]; simp only [n]
end re6
