section rea2
variable {A B C D E M N V W : mj_M} {a : Nat}
-- masks
def q_lb (v : Int) (i : Nat) : Bool := (Int64.ofInt v).toBitVec.getLsbD i
theorem q_lb_or {u v : Int} {i : Nat} : q_lb (mj_lorl u v) i = (q_lb u i || q_lb v i) := by
  unfold q_lb mj_lorl
  rw [Int64.ofInt_toInt]
  show ((Int64.ofInt u).toBitVec ||| (Int64.ofInt v).toBitVec).getLsbD i = _
  rw [BitVec.getLsbD_or]
theorem q_lb_0 {i : Nat} : q_lb 0 i = false := by
  unfold q_lb
  show (0#64).getLsbD i = false
  simp
theorem q_lb_sh : ∀ g : Fin 40, ∀ i : Fin 64, q_lb (mj_lshl 1 (g.val : Int)) i.val = decide (i.val = g.val) := by decide +kernel
theorem q_lb_hi {v : Int} {i : Nat} (h : 64 ≤ i) : q_lb v i = false := by
  unfold q_lb
  exact BitVec.getLsbD_of_ge _ _ h
theorem q_land {u v : Int} : mj_landl u v ≠ 0 ↔ ∃ i, i < 64 ∧ q_lb u i = true ∧ q_lb v i = true := by
  have z : ∀ x : Int64, x.toInt = 0 ↔ x = 0 := fun x => by rw [← Int64.toInt_inj]; rfl
  have h : mj_landl u v = 0 ↔ ∀ i, i < 64 → ¬ (q_lb u i = true ∧ q_lb v i = true) := by
    unfold mj_landl q_lb
    rw [z, ← Int64.toBitVec_inj]
    show ((Int64.ofInt u).toBitVec &&& (Int64.ofInt v).toBitVec = 0#64) ↔ _
    generalize (Int64.ofInt u).toBitVec = X
    generalize (Int64.ofInt v).toBitVec = Y
    constructor
    · intro h i hi q
      have : (X &&& Y).getLsbD i = false := by rw [h]; simp
      rw [BitVec.getLsbD_and, q.1, q.2] at this
      exact absurd this (by decide)
    · intro h
      apply BitVec.eq_of_getLsbD_eq
      intro i hi
      rw [BitVec.getLsbD_and]
      have := h i hi
      cases e1 : X.getLsbD i <;> cases e2 : Y.getLsbD i <;> simp_all
  constructor
  · intro q
    by_cases c : ∃ i, i < 64 ∧ q_lb u i = true ∧ q_lb v i = true
    · exact c
    · exact absurd (h.mpr (fun i hi g => c ⟨i, hi, g⟩)) q
  · intro ⟨i, hi, g⟩ q
    exact h.mp q i hi g
/-- a gate that one may use -/
def z_gd (A : mj_M) (k : Int) (y i : Nat) : Prop := i < 40 ∧ q_meet A (i : Int) = 1 ∧ mj_and (A 153 (40 * y + i)) k ≠ 0
theorem q_gb_k {k : Int} {y g : Nat} (hg : g < 40) : mj_and (q_gb A y g) k = 0 ↔ ¬ z_gd A k y g := by
  unfold q_gb z_gd
  rw [show ((y : Int) * 40 + (g : Int)).toNat = 40 * y + g by omega]
  by_cases c : q_meet A (g : Int) = 1
  · rw [if_pos c]
    constructor
    · intro h q; exact q.2.2 h
    · intro h
      by_cases c2 : mj_and (A 153 (40 * y + g)) k = 0
      · exact c2
      · exact absurd ⟨hg, c, c2⟩ h
  · rw [if_neg c]
    exact ⟨fun _ q => c q.2.1, fun _ => q_and0 k⟩
theorem z_m133g {y : Nat} : (∀ b, b ≠ 155 → b ≠ 156 → q_for (f_133g y) 40 0 A b = A b) ∧ (∀ z, z ≠ y → q_for (f_133g y) 40 0 A 155 z = A 155 z ∧ q_for (f_133g y) 40 0 A 156 z = A 156 z) ∧
    ∀ i, i < 64 → (q_lb (q_for (f_133g y) 40 0 A 155 y) i = true ↔ q_lb (A 155 y) i = true ∨ z_gd A 1 y i) ∧ (q_lb (q_for (f_133g y) 40 0 A 156 y) i = true ↔ q_lb (A 156 y) i = true ∨ z_gd A 2 y i) := by
  have key := q_for_inv (N := 40) (F := f_133g y) (P := fun t B => (∀ b, b ≠ 155 → b ≠ 156 → B b = A b) ∧ (∀ z, z ≠ y → B 155 z = A 155 z ∧ B 156 z = A 156 z) ∧
    ∀ i, i < 64 → (q_lb (B 155 y) i = true ↔ q_lb (A 155 y) i = true ∨ (i < t ∧ z_gd A 1 y i)) ∧ (q_lb (B 156 y) i = true ↔ q_lb (A 156 y) i = true ∨ (i < t ∧ z_gd A 2 y i))) ?_ 40 0 A rfl ⟨fun _ _ _ => rfl, fun _ _ => ⟨rfl, rfl⟩, fun i _ => ⟨by simp, by simp⟩⟩
  · refine ⟨key.1, key.2.1, fun i hi => ?_⟩
    obtain ⟨k1, k2⟩ := key.2.2 i hi
    rw [k1, k2]
    have g1 : ∀ k, (i < 40 ∧ z_gd A k y i) ↔ z_gd A k y i := fun k => ⟨fun q => q.2, fun q => ⟨q.1, q⟩⟩
    rw [g1, g1]
    exact ⟨Iff.rfl, Iff.rfl⟩
  · intro t B ht ⟨h1, h2, h3⟩
    have gb : q_gb B y t = q_gb A y t := by unfold q_gb q_meet; rw [h1 14 (by omega) (by omega), h1 153 (by omega) (by omega)]
    have e155 : f_133g y t B 155 y = mj_lorl (B 155 y) (if mj_and (q_gb A y t) 1 = 0 then 0 else mj_lshl 1 (t : Int)) := by
      unfold f_133g; rw [gb]; rw [mj_up_ne (show (155 : Nat) ≠ 156 by decide), mj_up_at, if_pos rfl]
    have e156 : f_133g y t B 156 y = mj_lorl (B 156 y) (if mj_and (q_gb A y t) 2 = 0 then 0 else mj_lshl 1 (t : Int)) := by
      show mj_up (mj_up B 155 y _) 156 y (mj_lorl (mj_up B 155 y _ 156 y) _) 156 y = _
      rw [mj_up_at, if_pos rfl, mj_up_ne (show (156 : Nat) ≠ 155 by decide)]
      have : q_gb B y t = q_gb A y t := gb
      rw [this]
    refine ⟨fun b b1 b2 => ?_, fun z hz => ⟨?_, ?_⟩, fun i hi => ?_⟩
    · unfold f_133g; rw [mj_up_ne b2, mj_up_ne b1, h1 b b1 b2]
    · unfold f_133g; rw [mj_up_ne (show (155 : Nat) ≠ 156 by decide), mj_up_at, if_neg hz]; exact (h2 z hz).1
    · unfold f_133g; rw [mj_up_at, if_neg hz, mj_up_ne (show (156 : Nat) ≠ 155 by decide)]; exact (h2 z hz).2
    · obtain ⟨k1, k2⟩ := h3 i hi
      have hs := q_lb_sh ⟨t, ht⟩ ⟨i, hi⟩
      simp only [] at hs
      have step : ∀ k v, (q_lb v i = true ↔ q_lb v i = true) → (q_lb (mj_lorl v (if mj_and (q_gb A y t) k = 0 then 0 else mj_lshl 1 (t : Int))) i = true ↔ q_lb v i = true ∨ (i = t ∧ z_gd A k y i)) := by
        intro k v _
        rw [q_lb_or, Bool.or_eq_true]
        by_cases c : mj_and (q_gb A y t) k = 0
        · rw [if_pos c, q_lb_0]
          have := (q_gb_k (k := k) ht).mp c
          constructor
          · intro q; rcases q with q | q; exact Or.inl q; exact absurd q (by decide)
          · intro q; rcases q with q | q; exact Or.inl q; rw [q.1] at q; exact absurd q.2 this
        · rw [if_neg c, hs]
          have g : z_gd A k y t := by
            by_cases c2 : z_gd A k y t
            · exact c2
            · exact absurd ((q_gb_k (k := k) ht).mpr c2) c
          constructor
          · intro q; rcases q with q | q; exact Or.inl q; (have := of_decide_eq_true q; subst this; exact Or.inr ⟨rfl, g⟩)
          · intro q; rcases q with q | q; exact Or.inl q; (right; exact decide_eq_true q.1)
      rw [e155, e156, step 1 _ Iff.rfl, step 2 _ Iff.rfl, k1, k2]
      have g2 : ∀ k : Int, ((i < t ∧ z_gd A k y i) ∨ (i = t ∧ z_gd A k y i)) ↔ (i < t + 1 ∧ z_gd A k y i) := fun k =>
        ⟨fun q => by rcases q with q | q; exact ⟨by omega, q.2⟩; exact ⟨by omega, q.2⟩, fun q => by by_cases c : i = t; exact Or.inr ⟨c, q.2⟩; exact Or.inl ⟨by omega, q.2⟩⟩
      refine ⟨?_, ?_⟩
      · rw [or_assoc, g2]
      · rw [or_assoc, g2]
theorem z_m133 : (∀ b, b ≠ 155 → b ≠ 156 → q_for f_133 40 0 A b = A b) ∧ ∀ y, y < 40 → ∀ i, i < 64 → (q_lb (q_for f_133 40 0 A 155 y) i = true ↔ z_gd A 1 y i) ∧ (q_lb (q_for f_133 40 0 A 156 y) i = true ↔ z_gd A 2 y i) := by
  have key := q_for_inv (N := 40) (F := f_133) (P := fun t B => (∀ b, b ≠ 155 → b ≠ 156 → B b = A b) ∧ ∀ y, y < t → ∀ i, i < 64 → (q_lb (B 155 y) i = true ↔ z_gd A 1 y i) ∧ (q_lb (B 156 y) i = true ↔ z_gd A 2 y i)) ?_ 40 0 A rfl ⟨fun _ _ _ => rfl, fun y hy => by omega⟩
  · exact key
  · intro t B ht ⟨h1, h2⟩
    obtain ⟨g1, g2, g3⟩ := z_m133g (A := mj_up (mj_up B 155 t 0) 156 t 0) (y := t)
    have o : ∀ b, b ≠ 155 → b ≠ 156 → mj_up (mj_up B 155 t 0) 156 t 0 b = A b := fun b b1 b2 => by rw [mj_up_ne b2, mj_up_ne b1, h1 b b1 b2]
    have gd : ∀ k y i, z_gd (mj_up (mj_up B 155 t 0) 156 t 0) k y i ↔ z_gd A k y i := fun k y i => by unfold z_gd q_meet; rw [o 14 (by omega) (by omega), o 153 (by omega) (by omega)]
    refine ⟨fun b b1 b2 => ?_, fun y hy i hi => ?_⟩
    · unfold f_133; rw [g1 b b1 b2, o b b1 b2]
    · by_cases c : y = t
      · subst c
        obtain ⟨k1, k2⟩ := g3 i hi
        unfold f_133
        rw [k1, k2, gd, gd, mj_up_ne (show (155 : Nat) ≠ 156 by decide), mj_up_at, if_pos rfl, mj_up_at, if_pos rfl, q_lb_0]
        simp
      · obtain ⟨k1, k2⟩ := g2 y c
        unfold f_133
        rw [k1, k2, mj_up_ne (show (155 : Nat) ≠ 156 by decide), mj_up_at, if_neg c, mj_up_at, if_neg c, mj_up_ne (show (156 : Nat) ≠ 155 by decide)]
        exact h2 y (by omega) i hi
/-- two meet at a gate -/
def z_me (A : mj_M) (y z : Nat) : Prop := ∃ g : Nat, g < 40 ∧ q_meet A (g : Int) = 1 ∧ mj_and (A 153 (40 * y + g)) 2 ≠ 0 ∧ mj_and (A 153 (40 * z + g)) 1 ≠ 0
theorem z_me_e {y z : Nat} (hy : y < 40) (hz : z < 40) (h155 : ∀ y, y < 40 → ∀ i, i < 64 → (q_lb (B 155 y) i = true ↔ z_gd A 1 y i) ∧ (q_lb (B 156 y) i = true ↔ z_gd A 2 y i)) : mj_landl (B 156 y) (B 155 z) ≠ 0 ↔ z_me A y z := by
  rw [q_land]
  constructor
  · intro ⟨i, hi, q1, q2⟩
    have g1 := (h155 y hy i hi).2.mp q1
    have g2 := (h155 z hz i hi).1.mp q2
    exact ⟨i, g1.1, g1.2.1, g1.2.2, g2.2.2⟩
  · intro ⟨g, h1, h2, h3, h4⟩
    exact ⟨g, by omega, (h155 y hy g (by omega)).2.mpr ⟨h1, h2, h3⟩, (h155 z hz g (by omega)).1.mpr ⟨h1, h2, h4⟩⟩
end rea2
