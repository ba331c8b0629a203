section rea1
variable {A B C D E M N V W : mj_M} {a : Nat}
theorem q_i32z (x : Int32) : x.toInt = 0 ↔ x = 0 := by
  rw [← Int32.toInt_inj]; rfl
theorem q_bv_or (A B C : BitVec 32) : ((A ||| B) &&& C = 0#32) ↔ (A &&& C = 0#32 ∧ B &&& C = 0#32) := by
  have e : (A ||| B) &&& C = (A &&& C) ||| (B &&& C) := by
    apply BitVec.eq_of_getLsbD_eq
    intro i hi
    simp only [BitVec.getLsbD_and, BitVec.getLsbD_or]
    cases A.getLsbD i <;> cases B.getLsbD i <;> cases C.getLsbD i <;> rfl
  rw [e]
  constructor
  · intro h
    have hb : ∀ i, ((A &&& C) ||| (B &&& C)).getLsbD i = false := fun i => by rw [h]; simp
    refine ⟨?_, ?_⟩ <;> (apply BitVec.eq_of_getLsbD_eq; intro i hi; have := hb i; rw [BitVec.getLsbD_or] at this; simp at this ⊢)
    · exact this.1
    · exact this.2
  · intro ⟨h1, h2⟩
    rw [h1, h2]; rfl
theorem q_and_or (u v k : Int) : mj_and (mj_or u v) k ≠ 0 ↔ mj_and u k ≠ 0 ∨ mj_and v k ≠ 0 := by
  unfold mj_and mj_or
  rw [Int32.ofInt_toInt]
  generalize Int32.ofInt u = x
  generalize Int32.ofInt v = y
  generalize Int32.ofInt k = z
  have h : ((x ||| y) &&& z = 0) ↔ (x &&& z = 0 ∧ y &&& z = 0) := by
    rw [← Int32.toBitVec_inj, ← Int32.toBitVec_inj, ← Int32.toBitVec_inj]
    exact q_bv_or x.toBitVec y.toBitVec z.toBitVec
  rw [ne_eq, ne_eq, ne_eq, q_i32z, q_i32z, q_i32z, h]
  by_cases c1 : x &&& z = 0 <;> by_cases c2 : y &&& z = 0 <;> simp [c1, c2]
theorem q_and0 (k : Int) : mj_and 0 k = 0 := by
  unfold mj_and
  rw [q_i32z]
  have : (0 : Int32) &&& Int32.ofInt k = 0 := by
    rw [← Int32.toBitVec_inj]
    show (0#32) &&& (Int32.ofInt k).toBitVec = 0#32
    simp
  exact this
theorem q_or16 : ∀ u v : Fin 16, 0 ≤ mj_or (u.val : Int) (v.val : Int) ∧ mj_or (u.val : Int) (v.val : Int) ≤ 15 := by decide +kernel
theorem q_eq16 : ∀ u v : Fin 16, (mj_and (u.val : Int) 1 ≠ 0 ↔ mj_and (v.val : Int) 1 ≠ 0) → (mj_and (u.val : Int) 2 ≠ 0 ↔ mj_and (v.val : Int) 2 ≠ 0) → (mj_and (u.val : Int) 4 ≠ 0 ↔ mj_and (v.val : Int) 4 ≠ 0) → (mj_and (u.val : Int) 8 ≠ 0 ↔ mj_and (v.val : Int) 8 ≠ 0) → u = v := by decide +kernel
theorem q_an16 : ∀ u : Fin 16, mj_and (u.val : Int) 15 = (u.val : Int) := by decide +kernel
def q_r4 (v : Int) : Prop := 0 ≤ v ∧ v ≤ 15
theorem q_or_r {u v : Int} (hu : q_r4 u) (hv : q_r4 v) : q_r4 (mj_or u v) := by
  have := q_or16 ⟨u.toNat, by unfold q_r4 at hu; omega⟩ ⟨v.toNat, by unfold q_r4 at hv; omega⟩
  unfold q_r4 at hu hv ⊢
  simp only [Int.toNat_of_nonneg hu.1, Int.toNat_of_nonneg hv.1] at this
  exact this
theorem q_eq_b {u v : Int} (hu : q_r4 u) (hv : q_r4 v) (h : ∀ k, k = 1 ∨ k = 2 ∨ k = 4 ∨ k = 8 → (mj_and u k ≠ 0 ↔ mj_and v k ≠ 0)) : u = v := by
  have := q_eq16 ⟨u.toNat, by unfold q_r4 at hu; omega⟩ ⟨v.toNat, by unfold q_r4 at hv; omega⟩
  unfold q_r4 at hu hv
  simp only [Int.toNat_of_nonneg hu.1, Int.toNat_of_nonneg hv.1] at this
  have := this (h 1 (by omega)) (h 2 (by omega)) (h 4 (by omega)) (h 8 (by omega))
  have := congrArg Fin.val this
  simp only [] at this
  omega
theorem q_and15 {u : Int} (hu : q_r4 u) : mj_and u 15 = u := by
  have := q_an16 ⟨u.toNat, by unfold q_r4 at hu; omega⟩
  unfold q_r4 at hu
  simp only [Int.toNat_of_nonneg hu.1] at this
  exact this
/-- what is ored into a row -/
def z_or (a : Nat) (K : Nat → Int → Prop) (A B : mj_M) : Prop := (∀ b, b ≠ a → B b = A b) ∧ (∀ j, q_r4 (A a j) → q_r4 (B a j)) ∧ ∀ j k, mj_and (B a j) k ≠ 0 ↔ mj_and (A a j) k ≠ 0 ∨ K j k
theorem z_or_r : z_or a (fun _ _ => False) A A := ⟨fun _ _ => rfl, fun _ h => h, fun j k => by simp⟩
theorem z_or_c {K L : Nat → Int → Prop} (h : z_or a K A B) (e : ∀ j k, K j k ↔ L j k) : z_or a L A B := ⟨h.1, h.2.1, fun j k => by rw [h.2.2 j k, e j k]⟩
theorem z_or_t {K L : Nat → Int → Prop} (h : z_or a K A B) (h2 : z_or a L B C) : z_or a (fun j k => K j k ∨ L j k) A C :=
  ⟨fun b q => by rw [h2.1 b q, h.1 b q], fun j q => h2.2.1 j (h.2.1 j q), fun j k => by rw [h2.2.2 j k, h.2.2 j k]; exact or_assoc⟩
theorem z_or_u {i : Nat} {v : Int} (hv : q_r4 v) : z_or a (fun j k => j = i ∧ mj_and v k ≠ 0) A (mj_up A a i (mj_or (A a i) v)) := by
  refine ⟨fun b q => mj_up_ne q, fun j q => ?_, fun j k => ?_⟩
  · rw [mj_up_at]
    split
    · rename_i e; subst e; exact q_or_r q hv
    · exact q
  · rw [mj_up_at]
    by_cases c : j = i
    · rw [if_pos c, q_and_or, c]; simp
    · rw [if_neg c]; simp [c]
theorem z_or_for {N : Nat} {F : Nat → mj_M → mj_M} {K : Nat → Nat → Int → Prop} (h : ∀ t B, t < N → (∀ b, b ≠ a → B b = A b) → z_or a (K t) B (F t B)) : ∀ (n t : Nat) (B : mj_M), t + n = N → (∀ b, b ≠ a → B b = A b) →
    z_or a (fun j k => ∃ u, t ≤ u ∧ u < N ∧ K u j k) B (q_for F n t B) := by
  intro n
  induction n with
  | zero => intro t B ht hB; exact z_or_c z_or_r (fun j k => ⟨fun q => absurd q id, fun ⟨u, h1, h2, _⟩ => by omega⟩)
  | succ n ih =>
    intro t B ht hB
    have h1 := h t B (by omega) hB
    have h2 := ih (t + 1) (F t B) (by omega) (fun b q => by rw [h1.1 b q, hB b q])
    refine z_or_c (z_or_t h1 h2) (fun j k => ⟨fun q => ?_, fun q => ?_⟩)
    · rcases q with q | ⟨u, u1, u2, u3⟩
      · exact ⟨t, by omega, by omega, q⟩
      · exact ⟨u, by omega, u2, u3⟩
    · obtain ⟨u, u1, u2, u3⟩ := q
      by_cases c : u = t
      · subst c; exact Or.inl u3
      · exact Or.inr ⟨u, by omega, u2, u3⟩
theorem z_or_if {K : Nat → Int → Prop} {p : Prop} [Decidable p] (h : p → z_or a K A B) : z_or a (fun j k => p ∧ K j k) A (if p then B else A) := by
  by_cases c : p
  · rw [if_pos c]; exact z_or_c (h c) (fun j k => ⟨fun q => ⟨c, q⟩, fun q => q.2⟩)
  · rw [if_neg c]; exact z_or_c z_or_r (fun j k => ⟨fun q => absurd q id, fun q => absurd q.1 c⟩)
/-- what one could lend comes to another -/
def z_gv (H : Nat → Int) (f g : Nat) (j : Nat) (k : Int) : Prop := ∃ t, t < 40 ∧ j = 40 * g + t ∧ mj_and (H (40 * f + t)) 4 ≠ 0 ∧ mj_and (H (40 * f + t)) k ≠ 0
def q_hr (H : Nat → Int) : Prop := ∀ j : Nat, j < 1600 → q_r4 (H j)
theorem z_gvA {f g : Nat} (hf : f < 40) (hg : g < 40) (hH : q_hr (A 153)) : z_or 154 (z_gv (A 153) f g) A (q_gv A (f : Int) (g : Int)) := by
  have := z_or_for (a := 154) (A := A) (N := 40) (F := f_135 (f : Int) (g : Int)) (K := fun t j k => mj_and (A 153 (40 * f + t)) 4 ≠ 0 ∧ (j = 40 * g + t ∧ mj_and (A 153 (40 * f + t)) k ≠ 0)) (fun t B ht hB => ?_) 40 0 A rfl (fun _ _ => rfl)
  · refine z_or_c this (fun j k => ⟨fun ⟨u, _, h2, h3, h4, h5⟩ => ⟨u, h2, h4, h3, h5⟩, fun ⟨u, h2, h4, h3, h5⟩ => ⟨u, by omega, h2, h3, h4, h5⟩⟩)
  · unfold f_135
    have e1 : ((f : Int) * 40 + (t : Int)).toNat = 40 * f + t := by omega
    have e2 : ((g : Int) * 40 + (t : Int)).toNat = 40 * g + t := by omega
    rw [e1, e2, hB 153 (by omega)]
    exact z_or_if (fun _ => z_or_u (hH _ (by omega)))
theorem z_gvV {f g : Nat} (hf : f < 40) (hg : g < 40) (hH : q_hr (A 177)) : z_or 178 (z_gv (A 177) f g) A (m_ps (f : Int) (g : Int) A) := by
  have := z_or_for (a := 178) (A := A) (N := 40) (F := f_260 (f : Int) (g : Int)) (K := fun t j k => mj_and (A 177 (40 * f + t)) 4 ≠ 0 ∧ (j = 40 * g + t ∧ mj_and (A 177 (40 * f + t)) k ≠ 0)) (fun t B ht hB => ?_) 40 0 A rfl (fun _ _ => rfl)
  · refine z_or_c this (fun j k => ⟨fun ⟨u, _, h2, h3, h4, h5⟩ => ⟨u, h2, h4, h3, h5⟩, fun ⟨u, h2, h4, h3, h5⟩ => ⟨u, by omega, h2, h3, h4, h5⟩⟩)
  · unfold f_260
    have e1 : (40 * (f : Int) + (t : Int)).toNat = 40 * f + t := by omega
    have e2 : (40 * (g : Int) + (t : Int)).toNat = 40 * g + t := by omega
    rw [e1, e2, hB 177 (by omega)]
    by_cases c : mj_and (A 177 (40 * f + t)) 4 = 0
    · rw [if_neg (fun q => q c)]
      refine z_or_c (z_or_u (a := 178) (A := B) (i := 40 * g + t) (v := 0) (by unfold q_r4; omega)) (fun j k => ⟨fun q => absurd (q_and0 k) q.2, fun q => absurd c q.1⟩)
    · rw [if_pos c]
      exact z_or_c (z_or_u (hH _ (by omega))) (fun j k => ⟨fun q => ⟨c, q⟩, fun q => q.2⟩)
end rea1
