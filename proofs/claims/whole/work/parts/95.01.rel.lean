section re1
variable {A B V : mj_M}
/-! one pass of the class over the tokens that go -/
def z_acy (ρ : Nat → Nat) (A : mj_M) : Prop := (∀ k, ρ k < 120) ∧ ∀ k : Nat, k < 120 → A 3 k ≠ -1 → A 7 k ≠ -1 → ρ k < ρ (A 7 k).toNat
def z_lt (A : mj_M) : Prop := ∀ k : Nat, k < 120 → A 3 k ≠ -1 → A 7 k ≠ -1 → A 3 (A 7 k).toNat ≠ -1
/-- it is no token, or one that is there -/
def z_tn (A : mj_M) (u : Int) : Prop := u = -1 ∨ (0 ≤ u ∧ u < 120 ∧ A 3 u.toNat ≠ -1)
theorem z_tn_up {u : Int} (w : q_wr A) (hl : z_lt A) (h : 0 ≤ u ∧ u < 120 ∧ A 3 u.toNat ≠ -1) : z_tn A (A 7 u.toNat) := by
  have h7 := q_w7 (i := u.toNat) w (by omega)
  by_cases e : A 7 u.toNat = -1
  · exact Or.inl e
  · exact Or.inr ⟨by omega, by omega, hl _ (by omega) h.2.2 e⟩
theorem z_tn_k {k : Nat} (w : q_wr A) (hl : z_lt A) (hk : k < 120) (h : A 3 k ≠ -1) : z_tn A (A 7 k) := by
  have := z_tn_up (u := (k : Int)) w hl ⟨by omega, by omega, by simpa using h⟩
  simpa using this
def z_c (A : mj_M) (u : Int) : Int := q_bm A 120 u
theorem z_bm_m1 : ∀ (n : Nat), q_bm A n (-1) = 0 := by
  intro n; cases n with
  | zero => rfl
  | succ n => simp [q_bm]
theorem z_bm_01 : ∀ (n : Nat) (u : Int), q_bm A n u = 0 ∨ q_bm A n u = 1 := by
  intro n
  induction n with
  | zero => intro u; exact Or.inl rfl
  | succ n ih =>
    intro u
    unfold q_bm
    split
    · exact Or.inl rfl
    · split
      · exact Or.inr rfl
      · exact ih _
theorem z_bm_fuel {ρ : Nat → Nat} (w : q_wr A) (hl : z_lt A) (ha : z_acy ρ A) : ∀ (n m : Nat) (u : Int), z_tn A u → (u ≠ -1 → 120 ≤ n + ρ u.toNat ∧ 120 ≤ m + ρ u.toNat) → q_bm A n u = q_bm A m u := by
  intro n
  induction n with
  | zero =>
    intro m u h h2
    rcases h with h | h
    · subst h; rw [z_bm_m1, z_bm_m1]
    · have := h2 (by omega); have := ha.1 u.toNat; omega
  | succ n ih =>
    intro m u h h2
    rcases h with h | h
    · subst h; rw [z_bm_m1, z_bm_m1]
    · have h3 := h2 (by omega)
      cases m with
      | zero => have := ha.1 u.toNat; omega
      | succ m =>
        have hu : ¬ u = -1 := by omega
        unfold q_bm
        rw [if_neg hu, if_neg hu]
        split
        · rfl
        · have hup := z_tn_up w hl h
          refine ih m _ hup (fun h4 => ?_)
          have h5 := ha.2 u.toNat (by omega) h.2.2 h4
          omega
theorem z_c_m1 : z_c A (-1) = 0 := z_bm_m1 120
theorem z_c_01 {u : Int} : z_c A u = 0 ∨ z_c A u = 1 := z_bm_01 120 u
theorem z_c_eq {ρ : Nat → Nat} (w : q_wr A) (hl : z_lt A) (ha : z_acy ρ A) {u : Int} (h : 0 ≤ u ∧ u < 120 ∧ A 3 u.toNat ≠ -1) : z_c A u = if A 131 u.toNat ≠ 0 then 1 else z_c A (A 7 u.toNat) := by
  have h1 : z_c A u = if A 131 u.toNat ≠ 0 then 1 else q_bm A 119 (A 7 u.toNat) := by
    show q_bm A (119 + 1) u = _
    rw [q_bm, if_neg (by omega)]
  rw [h1]
  split
  · rfl
  · have hup := z_tn_up w hl h
    refine z_bm_fuel w hl ha 119 120 _ hup (fun h4 => ?_)
    have h5 := ha.2 u.toNat (by omega) h.2.2 h4
    omega
/-- marks that were added below marks change nothing -/
theorem z_bm_ext {ρ : Nat → Nat} (w : q_wr A) (hl : z_lt A) (ha : z_acy ρ A) (h7 : B 7 = A 7) (h1 : ∀ k : Nat, k < 120 → A 131 k ≠ 0 → B 131 k ≠ 0) (h2 : ∀ k : Nat, k < 120 → B 131 k ≠ 0 → A 131 k ≠ 0 ∨ z_c A (A 7 k) = 1) :
    ∀ (n : Nat) (u : Int), z_tn A u → (u ≠ -1 → 120 ≤ n + ρ u.toNat) → q_bm B n u = z_c A u := by
  intro n
  induction n with
  | zero =>
    intro u h h3
    rcases h with h | h
    · subst h; rw [z_bm_m1, z_c_m1]
    · have := h3 (by omega); have := ha.1 u.toNat; omega
  | succ n ih =>
    intro u h h3
    rcases h with h | h
    · subst h; rw [z_bm_m1, z_c_m1]
    · have h4 := h3 (by omega)
      rw [q_bm, if_neg (by omega), z_c_eq w hl ha h]
      by_cases c1 : B 131 u.toNat ≠ 0
      · rw [if_pos c1]
        rcases h2 u.toNat (by omega) c1 with c2 | c2
        · rw [if_pos c2]
        · split
          · rfl
          · exact c2.symm
      · rw [if_neg c1, if_neg (fun c2 => c1 (h1 u.toNat (by omega) c2)), h7]
        refine ih _ (z_tn_up w hl h) (fun h5 => ?_)
        have h6 := ha.2 u.toNat (by omega) h.2.2 h5
        omega
/-- it goes: it is there, and it or one that it comes of is marked -/
def z_d (A : mj_M) (k : Nat) : Int := if A 3 k ≠ -1 ∧ (A 131 k ≠ 0 ∨ z_c A (A 7 k) = 1) then 1 else 0
theorem z_d_01 {k : Nat} : z_d A k = 0 ∨ z_d A k = 1 := by unfold z_d; split <;> simp
theorem z_d_c {ρ : Nat → Nat} (w : q_wr A) (hl : z_lt A) (ha : z_acy ρ A) {u : Int} (h : 0 ≤ u ∧ u < 120 ∧ A 3 u.toNat ≠ -1) : z_c A u = z_d A u.toNat := by
  rw [z_c_eq w hl ha h]
  unfold z_d
  by_cases c1 : A 131 u.toNat ≠ 0
  · rw [if_pos c1, if_pos ⟨h.2.2, Or.inl c1⟩]
  · rw [if_neg c1]
    by_cases c2 : z_c A (A 7 u.toNat) = 1
    · rw [if_pos ⟨h.2.2, Or.inr c2⟩, c2]
    · rw [if_neg (fun q => by rcases q.2 with q | q; exact c1 q; exact c2 q)]
      have := z_c_01 (A := A) (u := A 7 u.toNat)
      omega
/-- what comes of one that goes, goes -/
theorem z_d_down {ρ : Nat → Nat} (w : q_wr A) (hl : z_lt A) (ha : z_acy ρ A) {k : Nat} (hk : k < 120) (h : A 3 k ≠ -1) (h7 : A 7 k ≠ -1) (hd : z_d A (A 7 k).toNat = 1) : z_d A k = 1 := by
  have h1 := z_tn_k w hl hk h
  rcases h1 with h1 | h1
  · exact absurd h1 h7
  · have h2 := z_d_c w hl ha h1
    unfold z_d
    rw [if_pos ⟨h, Or.inr (by rw [h2]; exact hd)⟩]
theorem z_d_up {ρ : Nat → Nat} (w : q_wr A) (hl : z_lt A) (ha : z_acy ρ A) {k : Nat} (hk : k < 120) (hd : z_d A k = 1) : A 3 k ≠ -1 ∧ (A 131 k ≠ 0 ∨ (A 7 k ≠ -1 ∧ z_d A (A 7 k).toNat = 1)) := by
  unfold z_d at hd
  split at hd
  · rename_i h
    refine ⟨h.1, ?_⟩
    rcases h.2 with h2 | h2
    · exact Or.inl h2
    · right
      have h1 := z_tn_k w hl hk h.1
      rcases h1 with h1 | h1
      · rw [h1, z_c_m1] at h2; omega
      · refine ⟨by omega, ?_⟩
        rw [← z_d_c w hl ha h1]; exact h2
  · omega
/-- all below what is marked -/
theorem z_mab {ρ : Nat → Nat} (w : q_wr A) (hl : z_lt A) (ha : z_acy ρ A) (hm : ∀ k : Nat, k < 120 → A 131 k ≠ 0 → A 3 k ≠ -1) :
    (∀ a, a ≠ 131 → q_mab A a = A a) ∧ (∀ k : Nat, k < 120 → (q_mab A 131 k ≠ 0 ↔ z_d A k = 1)) := by
  have key := q_for_inv (N := 120) (F := f_43) (P := fun i B => (∀ a, a ≠ 131 → B a = A a) ∧ (∀ k : Nat, k < 120 → (B 131 k ≠ 0 ↔ A 131 k ≠ 0 ∨ (k < i ∧ A 3 k ≠ -1 ∧ z_c A (A 7 k) = 1))))
    (by
      intro i B hi hB
      obtain ⟨h1, h2⟩ := hB
      have e3 := h1 3 (by omega)
      have e7 := h1 7 (by omega)
      unfold f_43
      have hstep : A 3 i ≠ -1 → q_bm B 120 (B 7 i) = z_c A (A 7 i) := by
        intro h3
        rw [e7]
        refine z_bm_ext w hl ha e7 (fun k hk hk2 => (h2 k hk).mpr (Or.inl hk2)) (fun k hk hk2 => ?_) 120 _ (z_tn_k w hl hi h3) (fun _ => by omega)
        rcases (h2 k hk).mp hk2 with h4 | h4
        · exact Or.inl h4
        · exact Or.inr h4.2.2
      rw [e3]
      split
      · rename_i hc
        refine ⟨fun a h => by rw [mj_up_ne h, h1 a h], fun k hk => ?_⟩
        simp only [mj_up, if_true]
        by_cases e : k = i
        · subst e
          rw [if_pos rfl]
          have := hstep hc.1
          simp only [ne_eq, Int.reduceEq, not_false_eq_true, true_iff]
          exact Or.inr ⟨by omega, hc.1, by rw [← this]; exact hc.2⟩
        · rw [if_neg e, h2 k hk]
          constructor
          · rintro (h | h)
            · exact Or.inl h
            · exact Or.inr ⟨by omega, h.2⟩
          · rintro (h | h)
            · exact Or.inl h
            · exact Or.inr ⟨by omega, h.2⟩
      · rename_i hc
        refine ⟨h1, fun k hk => ?_⟩
        rw [h2 k hk]
        constructor
        · rintro (h | h)
          · exact Or.inl h
          · exact Or.inr ⟨by omega, h.2⟩
        · rintro (h | h)
          · exact Or.inl h
          · by_cases e : k = i
            · subst e
              exact absurd ⟨h.2.1, by rw [hstep h.2.1]; exact h.2.2⟩ hc
            · exact Or.inr ⟨by omega, h.2⟩)
    120 0 A rfl ⟨fun _ _ => rfl, fun k _ => ⟨fun h => Or.inl h, fun h => by rcases h with h | h; exact h; omega⟩⟩
  refine ⟨key.1, fun k hk => ?_⟩
  show q_for f_43 120 0 A 131 k ≠ 0 ↔ _
  rw [key.2 k hk]
  unfold z_d
  constructor
  · rintro (h | h)
    · rw [if_pos ⟨hm k hk h, Or.inl h⟩]
    · rw [if_pos ⟨h.2.1, Or.inr h.2.2⟩]
  · intro h
    split at h
    · rename_i h2
      rcases h2.2 with h3 | h3
      · exact Or.inl h3
      · exact Or.inr ⟨hk, h2.1, h3⟩
    · omega
/-- the nearest that stays -/
def z_s (A : mj_M) : Nat → Int → Int
  | 0, u => u
  | n + 1, u => if u ≠ -1 ∧ z_d A u.toNat = 1 then z_s A n (A 7 u.toNat) else u
theorem z_ns_s (h7 : B 7 = A 7) (h : ∀ k : Nat, k < 120 → (B 131 k ≠ 0 ↔ z_d A k = 1)) (w : q_wr A) : ∀ (n : Nat) (u : Int), -1 ≤ u ∧ u < 120 → q_ns B n u = z_s A n u := by
  intro n
  induction n with
  | zero => intro u _; rfl
  | succ n ih =>
    intro u hu
    unfold q_ns z_s
    by_cases e : u = -1
    · rw [if_neg (by omega), if_neg (by omega)]
    · have h2 := h u.toNat (by omega)
      by_cases c : z_d A u.toNat = 1
      · rw [if_pos ⟨e, h2.mpr c⟩, if_pos ⟨e, c⟩, h7]
        have := q_w7 (i := u.toNat) w (by omega)
        exact ih _ (by omega)
      · rw [if_neg (fun q => c (h2.mp q.2)), if_neg (fun q => c q.2)]
theorem z_s_fuel {ρ : Nat → Nat} (w : q_wr A) (hl : z_lt A) (ha : z_acy ρ A) : ∀ (n m : Nat) (u : Int), z_tn A u → (u ≠ -1 → 120 ≤ n + ρ u.toNat ∧ 120 ≤ m + ρ u.toNat) → z_s A n u = z_s A m u := by
  have hm1 : ∀ n, z_s A n (-1) = -1 := by intro n; cases n with
    | zero => rfl
    | succ n => simp [z_s]
  intro n
  induction n with
  | zero =>
    intro m u h h2
    rcases h with h | h
    · subst h; rw [hm1, hm1]
    · have := h2 (by omega); have := ha.1 u.toNat; omega
  | succ n ih =>
    intro m u h h2
    rcases h with h | h
    · subst h; rw [hm1, hm1]
    · have h3 := h2 (by omega)
      cases m with
      | zero => have := ha.1 u.toNat; omega
      | succ m =>
        unfold z_s
        split
        · refine ih m _ (z_tn_up w hl h) (fun h4 => ?_)
          have h5 := ha.2 u.toNat (by omega) h.2.2 h4
          omega
        · rfl
def z_n (A : mj_M) (u : Int) : Int := z_s A 120 u
theorem z_n_m1 : z_n A (-1) = -1 := by unfold z_n; simp [z_s]
theorem z_n_eq {ρ : Nat → Nat} (w : q_wr A) (hl : z_lt A) (ha : z_acy ρ A) {u : Int} (h : 0 ≤ u ∧ u < 120 ∧ A 3 u.toNat ≠ -1) : z_n A u = if z_d A u.toNat = 1 then z_n A (A 7 u.toNat) else u := by
  have h1 : z_n A u = if u ≠ -1 ∧ z_d A u.toNat = 1 then z_s A 119 (A 7 u.toNat) else u := rfl
  rw [h1]
  by_cases c : z_d A u.toNat = 1
  · rw [if_pos ⟨by omega, c⟩, if_pos c]
    refine z_s_fuel w hl ha 119 120 _ (z_tn_up w hl h) (fun h4 => ?_)
    have h5 := ha.2 u.toNat (by omega) h.2.2 h4
    omega
  · rw [if_neg (fun q => c q.2), if_neg c]
/-- it stays -/
theorem z_s_stays {ρ : Nat → Nat} (w : q_wr A) (hl : z_lt A) (ha : z_acy ρ A) : ∀ (n : Nat) (u : Int), z_tn A u → (u ≠ -1 → 120 ≤ n + ρ u.toNat) → z_s A n u = -1 ∨ (0 ≤ z_s A n u ∧ z_s A n u < 120 ∧ A 3 (z_s A n u).toNat ≠ -1 ∧ z_d A (z_s A n u).toNat = 0) := by
  intro n
  induction n with
  | zero =>
    intro u h h2
    rcases h with h | h
    · exact Or.inl h
    · have := h2 (by omega); have := ha.1 u.toNat; omega
  | succ n ih =>
    intro u h h2
    unfold z_s
    split
    · rename_i hc
      rcases h with h | h
      · exact absurd h hc.1
      · refine ih _ (z_tn_up w hl h) (fun h4 => ?_)
        have h5 := ha.2 u.toNat (by omega) h.2.2 h4
        have := h2 (by omega)
        omega
    · rename_i hc
      rcases h with h | h
      · exact Or.inl h
      · right
        refine ⟨h.1, h.2.1, h.2.2, ?_⟩
        have := z_d_01 (A := A) (k := u.toNat)
        have : ¬ z_d A u.toNat = 1 := fun q => hc ⟨by omega, q⟩
        omega
theorem z_n_stays {ρ : Nat → Nat} (w : q_wr A) (hl : z_lt A) (ha : z_acy ρ A) {u : Int} (h : z_tn A u) : z_n A u = -1 ∨ (0 ≤ z_n A u ∧ z_n A u < 120 ∧ A 3 (z_n A u).toNat ≠ -1 ∧ z_d A (z_n A u).toNat = 0) :=
  z_s_stays w hl ha 120 u h (fun _ => by omega)
end re1
