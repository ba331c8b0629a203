section sp62
variable {x : Nat} {M : mj_M} {Q : Option mj_V → mj_G → mj_M → Prop} {d : Nat}
def q_regs : List (Nat × Nat × Nat) := [(3, 0, 120), (4, 0, 120), (5, 0, 120), (6, 0, 120), (7, 0, 120), (8, 0, 120), (9, 0, 120), (10, 0, 120), (11, 0, 120), (12, 0, 120), (14, 0, 40), (15, 0, 40), (16, 0, 40), (17, 0, 40), (18, 0, 40), (19, 0, 40), (20, 0, 1200), (21, 0, 1200), (23, 0, 8), (24, 0, 8), (25, 0, 8), (26, 0, 8), (27, 0, 8), (28, 0, 8), (29, 0, 8), (30, 0, 8), (31, 0, 8), (32, 0, 8), (33, 0, 8), (34, 0, 8), (35, 0, 1280), (22, 13, 1), (37, 0, 20), (38, 0, 20), (39, 0, 20), (40, 0, 20), (41, 0, 20), (36, 5, 1), (42, 0, 400), (43, 0, 16), (1, 6, 1), (1, 7, 1), (1, 8, 1), (1, 9, 1), (1, 10, 1), (1, 11, 1)]
def q_inR (a i : Nat) (r : Nat × Nat × Nat) : Bool := r.1 == a && decide (r.2.1 ≤ i) && decide (i < r.2.1 + r.2.2)
def q_inS (a i : Nat) : Bool := q_regs.any (q_inR a i)
def q_cps (s t : Nat) : List (Nat × Nat × Nat) → mj_M → mj_M
  | [], M => M
  | r :: l, M => q_cps s t l (mj_cpy M (s + r.1) (t + r.1) r.2.1 r.2.1 r.2.2)
theorem q_cps_at {s t : Nat} (hs : s + 43 ≤ t ∨ t + 43 ≤ s) : ∀ (l : List (Nat × Nat × Nat)) (M : mj_M), (∀ r ∈ l, 1 ≤ r.1 ∧ r.1 ≤ 43) → ∀ b i, q_cps s t l M b i = if t ≤ b ∧ l.any (q_inR (b - t) i) = true then M (s + (b - t)) i else M b i := by
  intro l
  induction l with
  | nil => intro M _ b i; simp [q_cps]
  | cons r l ih =>
    intro M hl b i
    have hr := hl r (by simp)
    have h1 := ih (mj_cpy M (s + r.1) (t + r.1) r.2.1 r.2.1 r.2.2) (fun q hq => hl q (by simp [hq])) b i
    have hout : ∀ q ∈ l, 1 ≤ q.1 ∧ q.1 ≤ 43 := fun q hq => hl q (by simp [hq])
    rw [q_cps, h1]
    clear h1 ih
    simp only [List.any_cons, Bool.or_eq_true]
    have hcp : ∀ c j, mj_cpy M (s + r.1) (t + r.1) r.2.1 r.2.1 r.2.2 c j = if c = t + r.1 ∧ r.2.1 ≤ j ∧ j < r.2.1 + r.2.2 then M (s + r.1) j else M c j := by
      intro c j
      unfold mj_cpy mj_upr
      by_cases hc : c = t + r.1
      · subst hc
        simp only [if_true, true_and]
        split
        · rename_i h; congr 1; omega
        · rfl
      · simp [hc]
    by_cases ha : t ≤ b ∧ l.any (q_inR (b - t) i) = true
    · rw [if_pos ha, if_pos ⟨ha.1, Or.inr ha.2⟩, hcp, if_neg]
      obtain ⟨q, hq, hq2⟩ := List.any_eq_true.mp ha.2
      have := hout q hq
      have h2 : q.1 = b - t := by unfold q_inR at hq2; simp at hq2; exact hq2.1.1
      omega
    · rw [if_neg ha, hcp]
      by_cases hb : t ≤ b ∧ q_inR (b - t) i r = true
      · have h2 := hb.2
        unfold q_inR at h2
        simp at h2
        rw [if_pos ⟨by omega, h2.1.2, h2.2⟩, if_pos ⟨hb.1, Or.inl hb.2⟩]
        congr 1
        omega
      · rw [if_neg, if_neg]
        · rintro ⟨h3, h4⟩
          rcases h4 with h4 | h4
          · exact hb ⟨h3, h4⟩
          · exact ha ⟨h3, h4⟩
        · rintro ⟨h3, h4, h5⟩
          apply hb
          refine ⟨by omega, ?_⟩
          unfold q_inR
          simp
          omega
theorem q_cpy1 {A : mj_M} {a b i : Nat} : mj_up A b i (A a i) = mj_cpy A a b i i 1 := by
  funext c j
  unfold mj_up mj_cpy mj_upr
  by_cases hc : c = b
  · subst hc
    simp only [if_true]
    by_cases hj : j = i
    · subst hj; rw [if_pos rfl, if_pos (by omega)]; congr 1; omega
    · rw [if_neg hj, if_neg (by omega)]
  · simp [hc]
theorem q_tfS_cps {s t : Nat} : q_tfS s t M = q_cps s t q_regs M := by
  unfold q_tfS q_tfW q_tfR q_tfH q_tfT q_regs
  simp only [q_cps, q_cpy1]
theorem q_tfS_at {s t : Nat} (hs : s + 43 ≤ t ∨ t + 43 ≤ s) (b i : Nat) : q_tfS s t M b i = if t ≤ b ∧ q_inS (b - t) i = true then M (s + (b - t)) i else M b i := by
  rw [q_tfS_cps]
  exact q_cps_at hs q_regs M (by decide) b i
/-- what a copy of the state holds is in range -/
def q_ws (s : Nat) (M : mj_M) : Prop := ∀ a i, q_inS a i = true → q_okv a i (M (s + a) i)
theorem q_inS_0 {i : Nat} : q_inS 0 i = false := by
  unfold q_inS q_regs q_inR; simp
theorem q_inS_big {a i : Nat} (h : 43 < a) : q_inS a i = false := by
  have : ∀ r ∈ q_regs, r.1 ≤ 43 := by decide
  unfold q_inS
  rw [List.any_eq_false]
  intro r hr h2
  have := this r hr
  unfold q_inR at h2
  simp at h2
  omega
theorem q_tfS_wr {s : Nat} (hs : 43 ≤ s) (w : q_wr M) (h : q_ws s M) : q_wr (q_tfS s 0 M) := by
  apply q_okv_wr
  intro a i
  rw [q_tfS_at (by omega)]
  split
  · rename_i hh; exact h a i hh.2
  · exact q_wr_okv w a i
theorem q_tfS_ws {t : Nat} (hs : 43 ≤ t) (w : q_wr M) : q_ws t (q_tfS 0 t M) := by
  intro a i h
  rw [q_tfS_at (by omega), if_pos ⟨by omega, by rw [show t + a - t = a by omega]; exact h⟩]
  have := q_wr_okv w a i
  rw [show 0 + (t + a - t) = a by omega]
  exact this
theorem q_tfS_wr2 {s t : Nat} (ht : 43 ≤ t) (hs : s + 43 ≤ t ∨ t + 43 ≤ s) (w : q_wr M) : q_wr (q_tfS s t M) := by
  apply q_okv_wr
  intro a i
  rw [q_tfS_at hs]
  split
  · rename_i hh
    have : 43 < a ∨ a = 43 := by omega
    rcases this with h | h
    · unfold q_okv; omega
    · unfold q_okv; omega
  · exact q_wr_okv w a i
end sp62
