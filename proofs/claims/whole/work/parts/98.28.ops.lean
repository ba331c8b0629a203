section op19
variable {A B C M N S T V W X Y M' V' A' : mj_M} {x : Nat} {n m : Int} {e e' : Nat}
/-- reading writes its own numbers alone -/
theorem q_at1_7 {a : Nat} (h : a ≠ 157) : q_at1 S a = S a := mj_up_ne h
theorem q_wdM_7 {cs : List Int} {a : Nat} (h : a ≠ 157) : ∀ (k t : Nat) (S : mj_M), q_wdM cs k t S a = S a := by
  intro k
  induction k with
  | zero => intro t S; rfl
  | succ k ih =>
    intro t S
    rw [q_wdM]
    split
    · rw [ih, q_at1_7 h]
    · rfl
theorem q_bl_7 {a : Nat} (h : a ≠ 157) : ∀ (k : Nat) (S : mj_M), q_bl k S a = S a := by
  intro k
  induction k with
  | zero => intro S; rfl
  | succ k ih =>
    intro S
    rw [q_bl]
    split
    · rw [ih, q_at1_7 h]
    · rfl
theorem q_dg_7 {a : Nat} (h : a ≠ 157) : q_dg S a = S a := by unfold q_dg; rw [q_at1_7 h, mj_up_ne h]
theorem q_nmM_7 {a : Nat} (h : a ≠ 157) : q_nmM S a = S a := by
  unfold q_nmM
  split
  · have c : q_nmC S a = S a := by unfold q_nmC; rw [mj_up_ne h, q_bl_7 h]
    unfold q_nmD
    split
    · split
      · rw [q_dg_7 h, q_dg_7 h, c]
      · rw [q_dg_7 h, c]
    · exact c
  · exact q_bl_7 h _ _
theorem q_rgM_7 {a : Nat} (h : a ≠ 157) : ∀ (k : Nat) (u v : Int) (S : mj_M), q_rgM k u v S a = S a := by
  intro k
  induction k with
  | zero => intro u v S; rfl
  | succ k ih =>
    intro u v S
    rw [q_rgM]
    split
    · rw [ih, q_at1_7 h]
    · rfl
theorem q_rtM_7 {a : Nat} (h : a ≠ 157) : q_rtM S a = S a := by
  unfold q_rtM
  split
  · rw [q_rgM_7 h, q_bl_7 h]
  · exact q_bl_7 h _ _
end op19
