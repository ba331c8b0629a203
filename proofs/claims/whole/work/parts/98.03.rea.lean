section rea3
variable {A B C D E M N V W : mj_M} {a : Nat}
/-- what the tokens that are sealed open -/
def z_sl (A : mj_M) (H : Nat → Int) (t : Nat) (j : Nat) (k : Int) : Prop := (A 3 t ≠ -1 ∧ A 4 t ≠ -1 ∧ A 12 t = 0 ∧ A 10 t ≠ -1 ∧ A 10 t ≠ 40 ∧ mj_and (H (40 * A 8 t + A 10 t).toNat) 1 ≠ 0) ∧ (j = (40 * A 8 t + A 4 t).toNat ∧ mj_and (A 5 t) k ≠ 0)
theorem z_slA (h : z_Rl 8 A V) (hB : ∀ b, b ≠ 154 → B b = A b) : z_or 154 (fun j k => ∃ t : Nat, 0 ≤ t ∧ t < 120 ∧ z_sl A (A 153) t j k) B (q_for f_132 120 0 B) := by
  refine z_or_for (A := A) (F := f_132) (fun t C ht hC => ?_) 120 0 B rfl hB
  unfold f_132
  have cn : q_cnts C t = q_cnts A t := by unfold q_cnts; rw [hC 3 (by omega), hC 4 (by omega), hC 12 (by omega)]
  rw [cn, hC 10 (by omega), hC 153 (by omega), hC 8 (by omega), hC 4 (by omega), hC 5 (by omega), show A 8 t * 40 + A 10 t = 40 * A 8 t + A 10 t by omega, show A 8 t * 40 + A 4 t = 40 * A 8 t + A 4 t by omega]
  by_cases c : q_cnts A t = 1 ∧ A 10 t ≠ -1 ∧ A 10 t ≠ 40 ∧ mj_and (A 153 (40 * A 8 t + A 10 t).toNat) 1 ≠ 0
  · have cc : A 3 t ≠ -1 ∧ A 4 t ≠ -1 ∧ A 12 t = 0 := by
      have := c.1
      unfold q_cnts at this
      split at this
      · assumption
      · exact absurd this (by decide)
    rw [if_pos c]
    have r5 := (h.1.2.2.2.2.2.2.2.2.2.2.2.2.2.2.2.2.1 t ht cc.1)
    exact z_or_c (z_or_u (a := 154) (A := C) (i := (40 * A 8 t + A 4 t).toNat) (v := A 5 t) ⟨r5.1.1, r5.2.1 cc.2.1⟩) (fun j k => ⟨fun q => ⟨⟨cc.1, cc.2.1, cc.2.2, c.2.1, c.2.2.1, c.2.2.2⟩, q⟩, fun q => q.2⟩)
  · rw [if_neg c]
    refine z_or_c z_or_r (fun j k => ⟨fun q => absurd q id, fun q => ?_⟩)
    obtain ⟨⟨q1, q2, q3, q4, q5, q6⟩, -⟩ := q
    exact c ⟨by unfold q_cnts; rw [if_pos ⟨q1, q2, q3⟩], q4, q5, q6⟩
theorem z_slV (h : z_Rl 8 A V) (hB : ∀ b, b ≠ 178 → C b = N b) : z_or 178 (fun j k => ∃ t : Nat, 0 ≤ t ∧ t < 120 ∧ z_sl A (N 177) t j k) C (q_for (f_r2 V) 120 0 C) := by
  refine z_or_for (A := N) (F := f_r2 V) (fun t D ht hD => ?_) 120 0 C rfl hB
  have w := h.1.1.1
  have w10 := q_w10 (i := t) w ht
  unfold f_r2
  rw [hD 177 (by omega)]
  rcases h.1.2.1 t ht with q | ⟨q0, q1, q3, q4, q5, q6, q7, q8, q9, q10, q11, q12⟩
  · rw [if_neg (fun g => g.1 q.2)]
    exact z_or_c z_or_r (fun j k => ⟨fun g => absurd g id, fun g => absurd q.1 g.1.1⟩)
  · have r5 := (h.1.2.2.2.2.2.2.2.2.2.2.2.2.2.2.2.2.1 t ht q0)
    rw [q12, q4, q10, q8, q5]
    by_cases c : V 212 t ≠ 0 ∧ A 12 t ≠ 1 ∧ A 4 t ≠ -1 ∧ (0 ≤ A 10 t ∧ A 10 t ≤ 39)
    · rw [if_pos c]
      have a15 : mj_and (A 5 t) 15 = A 5 t := q_and15 ⟨r5.1.1, r5.2.1 c.2.2.1⟩
      have c12 : A 12 t = 0 := by have := r5.2.2; omega
      by_cases c2 : mj_and (N 177 (40 * A 8 t + A 10 t).toNat) 1 = 0
      · rw [if_neg (fun g => g c2)]
        exact z_or_c (z_or_u (a := 178) (A := D) (i := (40 * A 8 t + A 4 t).toNat) (v := 0) (by unfold q_r4; omega)) (fun j k => ⟨fun g => absurd (q_and0 k) g.2, fun g => absurd c2 g.1.2.2.2.2.2⟩)
      · rw [if_pos c2, a15]
        exact z_or_c (z_or_u (a := 178) (A := D) (i := (40 * A 8 t + A 4 t).toNat) (v := A 5 t) ⟨r5.1.1, r5.2.1 c.2.2.1⟩) (fun j k => ⟨fun g => ⟨⟨q0, c.2.2.1, c12, by omega, by omega, c2⟩, g⟩, fun g => g.2⟩)
    · rw [if_neg c]
      refine z_or_c z_or_r (fun j k => ⟨fun g => absurd g id, fun g => ?_⟩)
      obtain ⟨⟨g1, g2, g3, g4, g5, g6⟩, -⟩ := g
      exact c ⟨by omega, by omega, g2, by omega, by omega⟩
/-- what one pair of boxes brings -/
def z_pr (A : mj_M) (y z : Nat) (j : Nat) (k : Int) : Prop := ((z_me A y z ∨ mj_and (A 153 (40 * y + z)) 2 ≠ 0) ∧ z_gv (A 153) y z j k) ∨ ((z_me A y z ∨ mj_and (A 153 (40 * y + z)) 1 ≠ 0) ∧ z_gv (A 153) z y j k)
theorem z_exA {y z : Nat} (hy : y < 40) (hz : z < 40) (hH : q_hr (A 153)) (h155 : ∀ y, y < 40 → ∀ i, i < 64 → (q_lb (A 155 y) i = true ↔ z_gd A 1 y i) ∧ (q_lb (A 156 y) i = true ↔ z_gd A 2 y i)) (hB : ∀ b, b ≠ 154 → B b = A b) :
    z_or 154 (z_pr A y z) B (q_ex B (y : Int) (z : Int)) := by
  have me := z_me_e (A := A) (B := A) hy hz h155
  have en : ((y : Int) * 40 + (z : Int)).toNat = 40 * y + z := by omega
  have h1 : z_or 154 (fun j k => (z_me A y z ∨ mj_and (A 153 (40 * y + z)) 2 ≠ 0) ∧ z_gv (A 153) y z j k) B (q_exA B (y : Int) (z : Int)) := by
    unfold q_exA
    simp only [Int.toNat_natCast, en]
    rw [hB 156 (by omega), hB 155 (by omega), hB 153 (by omega)]
    by_cases c : mj_landl (A 156 y) (A 155 z) ≠ 0 ∨ mj_and (A 153 (40 * y + z)) 2 ≠ 0
    · rw [if_pos c]
      have g := z_gvA (A := B) hy hz (by rw [hB 153 (by omega)]; exact hH)
      rw [hB 153 (by omega)] at g
      exact z_or_c g (fun j k => ⟨fun q => ⟨by rw [← me]; exact c, q⟩, fun q => q.2⟩)
    · rw [if_neg c]
      exact z_or_c z_or_r (fun j k => ⟨fun q => absurd q id, fun q => absurd (by rw [me]; exact q.1) c⟩)
  have o := h1.1
  generalize hX : q_exA B (y : Int) (z : Int) = X at *
  have hX2 : ∀ b, b ≠ 154 → X b = A b := fun b q => by rw [o b q, hB b q]
  have h2 : z_or 154 (fun j k => (z_me A y z ∨ mj_and (A 153 (40 * y + z)) 1 ≠ 0) ∧ z_gv (A 153) z y j k) X (q_ex B (y : Int) (z : Int)) := by
    unfold q_ex
    rw [hX]
    simp only [Int.toNat_natCast, en]
    rw [hB 156 (by omega), hB 155 (by omega), hX2 153 (by omega)]
    by_cases c : mj_landl (A 156 y) (A 155 z) ≠ 0 ∨ mj_and (A 153 (40 * y + z)) 1 ≠ 0
    · rw [if_pos c]
      have g := z_gvA (A := X) hz hy (by rw [hX2 153 (by omega)]; exact hH)
      rw [hX2 153 (by omega)] at g
      exact z_or_c g (fun j k => ⟨fun q => ⟨by rw [← me]; exact c, q⟩, fun q => q.2⟩)
    · rw [if_neg c]
      exact z_or_c z_or_r (fun j k => ⟨fun q => absurd q id, fun q => absurd (by rw [me]; exact q.1) c⟩)
  exact z_or_t h1 h2
def z_bxs (A : mj_M) (y z : Nat) : Prop := y ≠ z ∧ q_of A (y : Int) 1 = 1 ∧ q_of A (z : Int) 1 = 1
theorem z_allA (hH : q_hr (A 153)) (h155 : ∀ y, y < 40 → ∀ i, i < 64 → (q_lb (A 155 y) i = true ↔ z_gd A 1 y i) ∧ (q_lb (A 156 y) i = true ↔ z_gd A 2 y i)) :
    z_or 154 (fun j k => ∃ y : Nat, 0 ≤ y ∧ y < 40 ∧ ∃ z : Nat, 0 ≤ z ∧ z < 40 ∧ z_bxs A y z ∧ z_pr A y z j k) A (q_for f_131 40 0 A) := by
  refine z_or_for (A := A) (F := f_131) (fun y B hy hB => ?_) 40 0 A rfl (fun _ _ => rfl)
  unfold f_131
  refine z_or_for (A := A) (F := f_131y y) (fun z C hz hC => ?_) 40 0 B rfl hB
  unfold f_131y
  have e1 : ∀ i, q_of C i 1 = q_of A i 1 := fun i => by unfold q_of; rw [hC 14 (by omega)]
  rw [e1, e1]
  exact z_or_if (p := y ≠ z ∧ q_of A (y : Int) 1 = 1 ∧ q_of A (z : Int) 1 = 1) (fun _ => z_exA hy hz hH h155 hC)
def z_prV (A : mj_M) (H : Nat → Int) (y g : Nat) (j : Nat) (k : Int) : Prop := ((A 14 g = 1 ∧ mj_and (H (40 * y + g)) 2 ≠ 0) ∧ z_gv H y g j k) ∨ ((A 14 g = 1 ∧ mj_and (H (40 * y + g)) 1 ≠ 0) ∧ z_gv H g y j k) ∨
  (((A 14 g = 2 ∨ A 14 g = 3) ∧ mj_and (H (40 * y + g)) 2 ≠ 0) ∧ ∃ z : Nat, 0 ≤ z ∧ z < 40 ∧ (q_of A (z : Int) 1 = 1 ∧ mj_and (H (40 * z + g)) 1 ≠ 0) ∧ (z_gv H y z j k ∨ z_gv H z y j k))
theorem z_allV (h : z_Rl 8 A V) (hH : q_hr (N 177)) (hC0 : ∀ b, b ≠ 178 → C b = N b) : z_or 178 (fun j k => ∃ y : Nat, 0 ≤ y ∧ y < 40 ∧ ∃ g : Nat, 0 ≤ g ∧ g < 40 ∧ (q_of A (y : Int) 1 = 1 ∧ q_tht A (g : Int) = 1) ∧ z_prV A (N 177) y g j k) C (q_for (f_r3 V) 40 0 C) := by
  refine z_or_for (A := N) (F := f_r3 V) (fun y B hy hB => ?_) 40 0 C rfl hC0
  unfold f_r3
  refine z_or_for (A := N) (F := f_r3g V y) (fun g D hg hD => ?_) 40 0 B rfl hB
  unfold f_r3g
  rw [z_bx_e h, z_tht_e h, hD 177 (by omega)]
  refine z_or_if (p := q_of A (y : Int) 1 = 1 ∧ q_tht A (g : Int) = 1) (fun hp => ?_)
  have v14 : V 14 g = A 14 g := by
    have : A 14 g ≠ -1 := by
      have := hp.2
      unfold q_tht at this
      split at this
      · rename_i q; simpa using q.2.2
      · omega
    rcases h.1.2.2.2.2.2.2.2.1 g hg with q | q
    · exact absurd q.1 this
    · exact q.2.2.1
  have gvv : ∀ (X : mj_M) (f q : Nat), f < 40 → q < 40 → (∀ b, b ≠ 178 → X b = N b) → z_or 178 (z_gv (N 177) f q) X (m_ps (f : Int) (q : Int) X) := fun X f q hf hq hX => by
    have := z_gvV (A := X) hf hq (by rw [hX 177 (by omega)]; exact hH)
    rw [hX 177 (by omega)] at this
    exact this
  have s1 : z_or 178 (fun j k => (A 14 g = 1 ∧ mj_and (N 177 (40 * y + g)) 2 ≠ 0) ∧ z_gv (N 177) y g j k) D (f_r3a V y g D) := by
    unfold f_r3a
    rw [v14, hD 177 (by omega)]
    exact z_or_if (fun _ => gvv D y g hy hg hD)
  have o1 : ∀ b, b ≠ 178 → f_r3a V y g D b = N b := fun b q => by rw [s1.1 b q, hD b q]
  generalize f_r3a V y g D = D1 at *
  have s2 : z_or 178 (fun j k => (A 14 g = 1 ∧ mj_and (N 177 (40 * y + g)) 1 ≠ 0) ∧ z_gv (N 177) g y j k) D1 (f_r3b V y g (N 177 (40 * y + g)) D1) := by
    unfold f_r3b
    rw [v14]
    exact z_or_if (fun _ => gvv D1 g y hg hy o1)
  have o2 : ∀ b, b ≠ 178 → f_r3b V y g (N 177 (40 * y + g)) D1 b = N b := fun b q => by rw [s2.1 b q, o1 b q]
  generalize f_r3b V y g (N 177 (40 * y + g)) D1 = D2 at *
  have s3 : z_or 178 (fun j k => ((A 14 g = 2 ∨ A 14 g = 3) ∧ mj_and (N 177 (40 * y + g)) 2 ≠ 0) ∧ ∃ z : Nat, 0 ≤ z ∧ z < 40 ∧ (q_of A (z : Int) 1 = 1 ∧ mj_and (N 177 (40 * z + g)) 1 ≠ 0) ∧ (z_gv (N 177) y z j k ∨ z_gv (N 177) z y j k)) D2 (f_r3c V y g (N 177 (40 * y + g)) D2) := by
    unfold f_r3c
    rw [v14]
    refine z_or_if (fun _ => ?_)
    refine z_or_for (A := N) (F := f_r3y V y g) (fun z X hz hX => ?_) 40 0 D2 rfl o2
    unfold f_r3y
    rw [z_bx_e h, hX 177 (by omega)]
    refine z_or_if (fun _ => ?_)
    have t1 := gvv X y z hy hz hX
    exact z_or_t t1 (gvv (m_ps (y : Int) (z : Int) X) z y hz hy (fun b q => by rw [t1.1 b q, hX b q]))
  exact z_or_c (z_or_t (z_or_t s1 s2) s3) (fun j k => by unfold z_prV; rw [or_assoc])
end rea3
