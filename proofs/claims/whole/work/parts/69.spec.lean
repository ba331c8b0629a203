section sp69
variable {x : Nat} {M : mj_M} {Q : Option mj_V → mj_G → mj_M → Prop} {d : Nat}
def q_nx (M : mj_M) (c : Int) : Int := if M 157 7 < M 157 6 ∧ M 170 (M 157 7).toNat = c then 1 else 0
theorem q_nx_01 {c : Int} : q_nx M c = 0 ∨ (q_nx M c = 1 ∧ M 157 7 < M 157 6 ∧ M 170 (M 157 7).toNat = c) := by
  unfold q_nx; split
  · rename_i h; exact Or.inr ⟨rfl, h⟩
  · exact Or.inl rfl
theorem e_146 {c : Int} (he : M 157 6 ≤ 160) (h0 : 0 ≤ M 157 7) : mj_Rn d 146 0 [.inr (.inl 157), .inl c] [] (SGx 170) M Q = Q (some (.inl (q_nx M c))) (SGx 170) M := by
  by_cases h1 : M 157 7 < M 157 6
  · by_cases h2 : M 170 (M 157 7).toNat = c
    · unfold q_nx
      simp (disch := omega) only [i_146_0, i_146_1, i_146_4, i_146_5, i_146_8, i_146_11, i_146_12, i_146_15, i_146_16, i_146_19, i_146_20, i_146_21, i_146_24, i_146_25, i_146_28, i_146_29, g_o157, g_r157_0, g_r157_1, g_r157_2, g_r157_3, g_r157_4, g_r157_5, g_a158, g_t158, g_a159, g_t159, g_a160, g_t160, g_a161, g_t161, g_a170, g_t170, exists_eq_left', Option.some.injEq, exists_eq_left, ne_eq, List.length_nil, List.length_cons, Option.toList_some, Option.toList_none, List.cons_append, List.nil_append, mj_wt_nil, mj_wt_i, mj_wt_r, mj_wt_l, true_and, and_true, false_and, and_false, true_implies, false_implies, implies_true, not_true_eq_false, not_false_eq_true, and_self, Int.reduceEq, Nat.reduceEqDiff, ↓reduceIte, mj_w_id2, h1, h2, Int.not_lt]
      try grind
    · unfold q_nx
      simp (disch := omega) only [i_146_0, i_146_1, i_146_4, i_146_5, i_146_8, i_146_11, i_146_12, i_146_15, i_146_16, i_146_19, i_146_20, i_146_21, i_146_24, i_146_25, i_146_28, i_146_29, g_o157, g_r157_0, g_r157_1, g_r157_2, g_r157_3, g_r157_4, g_r157_5, g_a158, g_t158, g_a159, g_t159, g_a160, g_t160, g_a161, g_t161, g_a170, g_t170, exists_eq_left', Option.some.injEq, exists_eq_left, ne_eq, List.length_nil, List.length_cons, Option.toList_some, Option.toList_none, List.cons_append, List.nil_append, mj_wt_nil, mj_wt_i, mj_wt_r, mj_wt_l, true_and, and_true, false_and, and_false, true_implies, false_implies, implies_true, not_true_eq_false, not_false_eq_true, and_self, Int.reduceEq, Nat.reduceEqDiff, ↓reduceIte, mj_w_id2, h1, h2, Int.not_lt]
      try grind
  · unfold q_nx
    simp (disch := omega) only [i_146_0, i_146_1, i_146_4, i_146_5, i_146_8, i_146_11, i_146_12, i_146_15, i_146_16, i_146_19, i_146_20, i_146_21, i_146_24, i_146_25, i_146_28, i_146_29, g_o157, g_r157_0, g_r157_1, g_r157_2, g_r157_3, g_r157_4, g_r157_5, g_a158, g_t158, g_a159, g_t159, g_a160, g_t160, g_a161, g_t161, g_a170, g_t170, exists_eq_left', Option.some.injEq, exists_eq_left, ne_eq, List.length_nil, List.length_cons, Option.toList_some, Option.toList_none, List.cons_append, List.nil_append, mj_wt_nil, mj_wt_i, mj_wt_r, mj_wt_l, true_and, and_true, false_and, and_false, true_implies, false_implies, implies_true, not_true_eq_false, not_false_eq_true, and_self, Int.reduceEq, Nat.reduceEqDiff, ↓reduceIte, mj_w_id2, h1, Int.not_lt]
    try grind
def q_at1 (M : mj_M) : mj_M := mj_up M 157 7 (M 157 7 + 1)
/-- what reading leaves alone; the place goes on -/
def q_sp (M A : mj_M) : Prop := A 157 6 = M 157 6 ∧ A 157 9 = M 157 9 ∧ M 157 7 ≤ A 157 7 ∧ (M 157 7 ≤ M 157 6 → A 157 7 ≤ A 157 6) ∧ ∀ a i, (a < 157 ∨ 161 < a) → A a i = M a i
theorem q_sp_r : q_sp M M := ⟨rfl, rfl, Int.le_refl _, fun h => h, fun _ _ _ => rfl⟩
theorem q_sp_t {A B : mj_M} (h : q_sp M A) (k : q_sp A B) : q_sp M B := by
  obtain ⟨a1, a2, a3, a4, a5⟩ := h
  obtain ⟨b1, b2, b3, b4, b5⟩ := k
  exact ⟨by rw [b1, a1], by rw [b2, a2], by omega, fun h => b4 (a4 h), fun a i h => by rw [b5 a i h, a5 a i h]⟩
theorem q_sp_at1 (h : M 157 7 < M 157 6) : q_sp M (q_at1 M) := by
  unfold q_at1
  refine ⟨by simp [mj_up], by simp [mj_up], by simp [mj_up]; omega, fun _ => by simp [mj_up]; omega, fun a i h => by rw [mj_up_ne (by omega)]⟩
theorem q_sp_up {A : mj_M} {a i : Nat} {v : Int} (h : q_sp M A) (ha : (158 ≤ a ∧ a ≤ 161) ∨ (a = 157 ∧ i = 8)) : q_sp M (mj_up A a i v) := by
  obtain ⟨a1, a2, a3, a4, a5⟩ := h
  have e : ∀ j, j ≠ 8 → mj_up A a i v 157 j = A 157 j := by
    intro j hj
    unfold mj_up
    by_cases h1 : 157 = a
    · rw [if_pos h1, if_neg (by omega), ← h1]
    · rw [if_neg h1]
  refine ⟨by rw [e 6 (by omega), a1], by rw [e 9 (by omega), a2], by rw [e 7 (by omega)]; exact a3, fun h => by rw [e 7 (by omega), e 6 (by omega)]; exact a4 h, fun b j h => by rw [mj_up_ne (by omega)]; exact a5 b j h⟩
def q_wdR (cs : List Int) : Nat → Nat → mj_M → Int
  | 0, _, _ => 1
  | n + 1, t, M => if q_nx M (cs.getD t 0) = 1 then q_wdR cs n (t + 1) (q_at1 M) else 0
def q_wdM (cs : List Int) : Nat → Nat → mj_M → mj_M
  | 0, _, M => M
  | n + 1, t, M => if q_nx M (cs.getD t 0) = 1 then q_wdM cs n (t + 1) (q_at1 M) else M
theorem q_wdR_01 {cs : List Int} : ∀ (n t : Nat) (M : mj_M), q_wdR cs n t M = 0 ∨ q_wdR cs n t M = 1 := by
  intro n
  induction n with
  | zero => intro t M; exact Or.inr rfl
  | succ n ih => intro t M; unfold q_wdR; split; exact ih _ _; exact Or.inl rfl
theorem q_wdM_sp {cs : List Int} : ∀ (n t : Nat) (M : mj_M), q_sp M (q_wdM cs n t M) := by
  intro n
  induction n with
  | zero => intro t M; exact q_sp_r
  | succ n ih =>
    intro t M
    unfold q_wdM
    split
    · rename_i h
      have h2 : M 157 7 < M 157 6 := by rcases q_nx_01 (M := M) (c := cs.getD t 0) with k | k <;> omega
      exact q_sp_t (q_sp_at1 h2) (ih _ _)
    · exact q_sp_r
theorem l_148 {w : Nat} {cs : List Int} (hw : 9010 ≤ w ∧ w < 9014) (hl : mj_slen.getD (w - 9010) 0 = cs.length) (hc : mj_schr.getD (w - 9010) [] = cs) (h9 : cs.length ≤ 9) (n : Nat) : ∀ (t : Nat) (M : mj_M), t + n = cs.length → M 157 6 ≤ 160 → 0 ≤ M 157 7 →
    mj_Rn (d + 1) 148 2 [.inr (.inl 157), .inr (.inl w), .inl (t : Int)] [] (SGx 170) M Q = Q (some (.inl (q_wdR cs n t M))) (SGx 170) (q_wdM cs n t M) := by
  induction n with
  | zero =>
    intro t M h he h0
    rw [i_148_2, q_wdR, q_wdM]
    simp (disch := omega) only [i_148_0, i_148_1, i_148_3, i_148_4, i_148_7, i_148_10, i_148_11, i_148_12, i_148_13, i_148_16, i_148_19, i_148_22, i_148_23, i_148_24, i_148_25, i_148_26, i_148_29, i_148_30, i_148_31, i_148_34, i_148_37, i_148_40, i_148_41, g_o157, g_r157_0, g_r157_1, g_r157_2, g_r157_3, g_r157_4, g_r157_5, g_a158, g_t158, g_a159, g_t159, g_a160, g_t160, g_a161, g_t161, g_a170, g_t170, exists_eq_left', Option.some.injEq, exists_eq_left, ne_eq, List.length_nil, List.length_cons, Option.toList_some, Option.toList_none, List.cons_append, List.nil_append, mj_wt_nil, mj_wt_i, mj_wt_r, mj_wt_l, true_and, and_true, false_and, and_false, true_implies, false_implies, implies_true, not_true_eq_false, not_false_eq_true, and_self, Int.reduceEq, Nat.reduceEqDiff, ↓reduceIte, mj_w_id2, hl, hc, e_146 he h0, Int.toNat_natCast]
    try grind
  | succ n ih =>
    intro t M h he h0
    have hn := q_nx_01 (M := M) (c := cs.getD t 0)
    have ha1 : mj_w (M 157 7 + 1) = M 157 7 + 1 ∨ q_nx M (cs.getD t 0) = 0 := by
      rcases hn with hn | hn
      · exact Or.inr hn
      · exact Or.inl (mj_w_id2 (by omega) (by omega))
    rw [i_148_2, q_wdR, q_wdM]
    rcases hn with hn | ⟨hn, hn2, hn3⟩
    · clear ih
      simp (disch := omega) only [i_148_0, i_148_1, i_148_3, i_148_4, i_148_7, i_148_10, i_148_11, i_148_12, i_148_13, i_148_16, i_148_19, i_148_22, i_148_23, i_148_24, i_148_25, i_148_26, i_148_29, i_148_30, i_148_31, i_148_34, i_148_37, i_148_40, i_148_41, g_o157, g_r157_0, g_r157_1, g_r157_2, g_r157_3, g_r157_4, g_r157_5, g_a158, g_t158, g_a159, g_t159, g_a160, g_t160, g_a161, g_t161, g_a170, g_t170, exists_eq_left', Option.some.injEq, exists_eq_left, ne_eq, List.length_nil, List.length_cons, Option.toList_some, Option.toList_none, List.cons_append, List.nil_append, mj_wt_nil, mj_wt_i, mj_wt_r, mj_wt_l, true_and, and_true, false_and, and_false, true_implies, false_implies, implies_true, not_true_eq_false, not_false_eq_true, and_self, Int.reduceEq, Nat.reduceEqDiff, ↓reduceIte, mj_w_id2, hl, hc, e_146 he h0, hn, Int.toNat_natCast]
      try grind
    · have sp := q_sp_at1 hn2
      have i1 := ih (t + 1) (q_at1 M) (by omega) (by rw [sp.1]; exact he) (by have := sp.2.2.1; omega)
      have ef : mj_up M 157 7 (M 157 7 + 1) = q_at1 M := rfl
      push_cast at i1
      clear ih
      simp (disch := omega) only [i_148_0, i_148_1, i_148_3, i_148_4, i_148_7, i_148_10, i_148_11, i_148_12, i_148_13, i_148_16, i_148_19, i_148_22, i_148_23, i_148_24, i_148_25, i_148_26, i_148_29, i_148_30, i_148_31, i_148_34, i_148_37, i_148_40, i_148_41, g_o157, g_r157_0, g_r157_1, g_r157_2, g_r157_3, g_r157_4, g_r157_5, g_a158, g_t158, g_a159, g_t159, g_a160, g_t160, g_a161, g_t161, g_a170, g_t170, exists_eq_left', Option.some.injEq, exists_eq_left, ne_eq, List.length_nil, List.length_cons, Option.toList_some, Option.toList_none, List.cons_append, List.nil_append, mj_wt_nil, mj_wt_i, mj_wt_r, mj_wt_l, true_and, and_true, false_and, and_false, true_implies, false_implies, implies_true, not_true_eq_false, not_false_eq_true, and_self, Int.reduceEq, Nat.reduceEqDiff, ↓reduceIte, mj_w_id2, hl, hc, e_146 he h0, hn, ef, i1, Int.toNat_natCast]
      try grind [mj_w]
def q_bl : Nat → mj_M → mj_M
  | 0, M => M
  | n + 1, M => if q_nx M 32 = 1 then q_bl n (q_at1 M) else M
theorem q_bl_sp : ∀ (n : Nat) (M : mj_M), q_sp M (q_bl n M) := by
  intro n
  induction n with
  | zero => intro M; exact q_sp_r
  | succ n ih =>
    intro M
    unfold q_bl
    split
    · rename_i h
      have h2 : M 157 7 < M 157 6 := by rcases q_nx_01 (M := M) (c := 32) with k | k <;> omega
      exact q_sp_t (q_sp_at1 h2) (ih _)
    · exact q_sp_r
theorem l_150 {f : Int} (n : Nat) : ∀ (M : mj_M), M 157 6 ≤ M 157 7 + n → M 157 6 ≤ 160 → 0 ≤ M 157 7 →
    mj_Rn d 150 5 [.inr (.inl 157), .inl f] [] (SGx 170) M Q = Q (some (.inl (if f < q_bl n M 157 7 then 1 else 0))) (SGx 170) (q_bl n M) := by
  induction n with
  | zero =>
    intro M h he h0
    rw [i_150_5, q_bl]
    by_cases hf : f < M 157 7
    · simp (disch := omega) only [i_150_0, i_150_1, i_150_4, i_150_6, i_150_9, i_150_10, i_150_13, i_150_16, i_150_17, i_150_20, i_150_21, i_150_24, i_150_25, i_150_27, i_150_30, i_150_31, i_150_32, i_150_35, i_150_36, i_150_37, i_150_40, i_150_43, i_150_44, i_150_47, i_150_48, i_150_51, i_150_52, i_150_55, i_150_56, g_o157, g_r157_0, g_r157_1, g_r157_2, g_r157_3, g_r157_4, g_r157_5, g_a158, g_t158, g_a159, g_t159, g_a160, g_t160, g_a161, g_t161, g_a170, g_t170, exists_eq_left', Option.some.injEq, exists_eq_left, ne_eq, List.length_nil, List.length_cons, Option.toList_some, Option.toList_none, List.cons_append, List.nil_append, mj_wt_nil, mj_wt_i, mj_wt_r, mj_wt_l, true_and, and_true, false_and, and_false, true_implies, false_implies, implies_true, not_true_eq_false, not_false_eq_true, and_self, Int.reduceEq, Nat.reduceEqDiff, ↓reduceIte, mj_w_id2, hf, if_true, if_false, Int.not_lt]
      try grind
    · simp (disch := omega) only [i_150_0, i_150_1, i_150_4, i_150_6, i_150_9, i_150_10, i_150_13, i_150_16, i_150_17, i_150_20, i_150_21, i_150_24, i_150_25, i_150_27, i_150_30, i_150_31, i_150_32, i_150_35, i_150_36, i_150_37, i_150_40, i_150_43, i_150_44, i_150_47, i_150_48, i_150_51, i_150_52, i_150_55, i_150_56, g_o157, g_r157_0, g_r157_1, g_r157_2, g_r157_3, g_r157_4, g_r157_5, g_a158, g_t158, g_a159, g_t159, g_a160, g_t160, g_a161, g_t161, g_a170, g_t170, exists_eq_left', Option.some.injEq, exists_eq_left, ne_eq, List.length_nil, List.length_cons, Option.toList_some, Option.toList_none, List.cons_append, List.nil_append, mj_wt_nil, mj_wt_i, mj_wt_r, mj_wt_l, true_and, and_true, false_and, and_false, true_implies, false_implies, implies_true, not_true_eq_false, not_false_eq_true, and_self, Int.reduceEq, Nat.reduceEqDiff, ↓reduceIte, mj_w_id2, hf, if_true, if_false, Int.not_lt]
      try grind
  | succ n ih =>
    intro M h he h0
    rw [i_150_5, q_bl]
    have ef : mj_up M 157 7 (M 157 7 + 1) = q_at1 M := rfl
    push_cast at h
    by_cases h1 : M 157 7 < M 157 6
    · by_cases h2 : M 170 (M 157 7).toNat = 32
      · have hn : q_nx M 32 = 1 := by unfold q_nx; simp [h1, h2]
        have sp := q_sp_at1 h1
        have i1 := ih (q_at1 M) (by rw [sp.1]; simp [q_at1, mj_up]; omega) (by rw [sp.1]; exact he) (by have := sp.2.2.1; omega)
        clear ih
        simp (disch := omega) only [i_150_0, i_150_1, i_150_4, i_150_6, i_150_9, i_150_10, i_150_13, i_150_16, i_150_17, i_150_20, i_150_21, i_150_24, i_150_25, i_150_27, i_150_30, i_150_31, i_150_32, i_150_35, i_150_36, i_150_37, i_150_40, i_150_43, i_150_44, i_150_47, i_150_48, i_150_51, i_150_52, i_150_55, i_150_56, g_o157, g_r157_0, g_r157_1, g_r157_2, g_r157_3, g_r157_4, g_r157_5, g_a158, g_t158, g_a159, g_t159, g_a160, g_t160, g_a161, g_t161, g_a170, g_t170, exists_eq_left', Option.some.injEq, exists_eq_left, ne_eq, List.length_nil, List.length_cons, Option.toList_some, Option.toList_none, List.cons_append, List.nil_append, mj_wt_nil, mj_wt_i, mj_wt_r, mj_wt_l, true_and, and_true, false_and, and_false, true_implies, false_implies, implies_true, not_true_eq_false, not_false_eq_true, and_self, Int.reduceEq, Nat.reduceEqDiff, ↓reduceIte, mj_w_id2, h1, h2, hn, ef, i1, if_true, if_false, Int.not_lt]
        try grind
      · have hn : q_nx M 32 = 0 := by unfold q_nx; simp [h2]
        clear ih
        by_cases hf : f < M 157 7
        · simp (disch := omega) only [i_150_0, i_150_1, i_150_4, i_150_6, i_150_9, i_150_10, i_150_13, i_150_16, i_150_17, i_150_20, i_150_21, i_150_24, i_150_25, i_150_27, i_150_30, i_150_31, i_150_32, i_150_35, i_150_36, i_150_37, i_150_40, i_150_43, i_150_44, i_150_47, i_150_48, i_150_51, i_150_52, i_150_55, i_150_56, g_o157, g_r157_0, g_r157_1, g_r157_2, g_r157_3, g_r157_4, g_r157_5, g_a158, g_t158, g_a159, g_t159, g_a160, g_t160, g_a161, g_t161, g_a170, g_t170, exists_eq_left', Option.some.injEq, exists_eq_left, ne_eq, List.length_nil, List.length_cons, Option.toList_some, Option.toList_none, List.cons_append, List.nil_append, mj_wt_nil, mj_wt_i, mj_wt_r, mj_wt_l, true_and, and_true, false_and, and_false, true_implies, false_implies, implies_true, not_true_eq_false, not_false_eq_true, and_self, Int.reduceEq, Nat.reduceEqDiff, ↓reduceIte, mj_w_id2, h1, h2, hn, ef, hf, if_true, if_false, Int.not_lt]
          try grind
        · simp (disch := omega) only [i_150_0, i_150_1, i_150_4, i_150_6, i_150_9, i_150_10, i_150_13, i_150_16, i_150_17, i_150_20, i_150_21, i_150_24, i_150_25, i_150_27, i_150_30, i_150_31, i_150_32, i_150_35, i_150_36, i_150_37, i_150_40, i_150_43, i_150_44, i_150_47, i_150_48, i_150_51, i_150_52, i_150_55, i_150_56, g_o157, g_r157_0, g_r157_1, g_r157_2, g_r157_3, g_r157_4, g_r157_5, g_a158, g_t158, g_a159, g_t159, g_a160, g_t160, g_a161, g_t161, g_a170, g_t170, exists_eq_left', Option.some.injEq, exists_eq_left, ne_eq, List.length_nil, List.length_cons, Option.toList_some, Option.toList_none, List.cons_append, List.nil_append, mj_wt_nil, mj_wt_i, mj_wt_r, mj_wt_l, true_and, and_true, false_and, and_false, true_implies, false_implies, implies_true, not_true_eq_false, not_false_eq_true, and_self, Int.reduceEq, Nat.reduceEqDiff, ↓reduceIte, mj_w_id2, h1, h2, hn, ef, hf, if_true, if_false, Int.not_lt]
          try grind
    · have hn : q_nx M 32 = 0 := by unfold q_nx; simp [h1]
      clear ih
      by_cases hf : f < M 157 7
      · simp (disch := omega) only [i_150_0, i_150_1, i_150_4, i_150_6, i_150_9, i_150_10, i_150_13, i_150_16, i_150_17, i_150_20, i_150_21, i_150_24, i_150_25, i_150_27, i_150_30, i_150_31, i_150_32, i_150_35, i_150_36, i_150_37, i_150_40, i_150_43, i_150_44, i_150_47, i_150_48, i_150_51, i_150_52, i_150_55, i_150_56, g_o157, g_r157_0, g_r157_1, g_r157_2, g_r157_3, g_r157_4, g_r157_5, g_a158, g_t158, g_a159, g_t159, g_a160, g_t160, g_a161, g_t161, g_a170, g_t170, exists_eq_left', Option.some.injEq, exists_eq_left, ne_eq, List.length_nil, List.length_cons, Option.toList_some, Option.toList_none, List.cons_append, List.nil_append, mj_wt_nil, mj_wt_i, mj_wt_r, mj_wt_l, true_and, and_true, false_and, and_false, true_implies, false_implies, implies_true, not_true_eq_false, not_false_eq_true, and_self, Int.reduceEq, Nat.reduceEqDiff, ↓reduceIte, mj_w_id2, h1, hn, ef, hf, if_true, if_false, Int.not_lt]
        try grind
      · simp (disch := omega) only [i_150_0, i_150_1, i_150_4, i_150_6, i_150_9, i_150_10, i_150_13, i_150_16, i_150_17, i_150_20, i_150_21, i_150_24, i_150_25, i_150_27, i_150_30, i_150_31, i_150_32, i_150_35, i_150_36, i_150_37, i_150_40, i_150_43, i_150_44, i_150_47, i_150_48, i_150_51, i_150_52, i_150_55, i_150_56, g_o157, g_r157_0, g_r157_1, g_r157_2, g_r157_3, g_r157_4, g_r157_5, g_a158, g_t158, g_a159, g_t159, g_a160, g_t160, g_a161, g_t161, g_a170, g_t170, exists_eq_left', Option.some.injEq, exists_eq_left, ne_eq, List.length_nil, List.length_cons, Option.toList_some, Option.toList_none, List.cons_append, List.nil_append, mj_wt_nil, mj_wt_i, mj_wt_r, mj_wt_l, true_and, and_true, false_and, and_false, true_implies, false_implies, implies_true, not_true_eq_false, not_false_eq_true, and_self, Int.reduceEq, Nat.reduceEqDiff, ↓reduceIte, mj_w_id2, h1, hn, ef, hf, if_true, if_false, Int.not_lt]
        try grind
def q_blB (M : mj_M) : Int := if M 157 7 < q_bl 160 M 157 7 then 1 else 0
theorem q_blB_01 : q_blB M = 0 ∨ q_blB M = 1 := by unfold q_blB; split <;> simp
theorem e_150 (he : M 157 6 ≤ 160) (h0 : 0 ≤ M 157 7) : mj_Rn d 150 0 [.inr (.inl 157), .inr (.inr 0)] [] (SGx 170) M Q = Q (some (.inl (q_blB M))) (SGx 170) (q_bl 160 M) := by
  have h := l_150 (d := d) (Q := Q) (f := M 157 7) 160 M (by omega) he h0
  push_cast at h
  unfold q_blB
  rw [← h]
  simp (disch := omega) only [i_150_0, i_150_1, i_150_4, i_150_6, i_150_9, i_150_10, i_150_13, i_150_16, i_150_17, i_150_20, i_150_21, i_150_24, i_150_25, i_150_27, i_150_30, i_150_31, i_150_32, i_150_35, i_150_36, i_150_37, i_150_40, i_150_43, i_150_44, i_150_47, i_150_48, i_150_51, i_150_52, i_150_55, i_150_56, g_o157, g_r157_0, g_r157_1, g_r157_2, g_r157_3, g_r157_4, g_r157_5, g_a158, g_t158, g_a159, g_t159, g_a160, g_t160, g_a161, g_t161, g_a170, g_t170, exists_eq_left', Option.some.injEq, exists_eq_left, ne_eq, List.length_nil, List.length_cons, Option.toList_some, Option.toList_none, List.cons_append, List.nil_append, mj_wt_nil, mj_wt_i, mj_wt_r, mj_wt_l, true_and, and_true, false_and, and_false, true_implies, false_implies, implies_true, not_true_eq_false, not_false_eq_true, and_self, Int.reduceEq, Nat.reduceEqDiff, ↓reduceIte, mj_w_id2]
  try grind
def q_isd (M : mj_M) : Int := if M 157 7 < M 157 6 ∧ 48 ≤ M 170 (M 157 7).toNat ∧ M 170 (M 157 7).toNat ≤ 57 then 1 else 0
theorem q_isd_01 : q_isd M = 0 ∨ (q_isd M = 1 ∧ M 157 7 < M 157 6 ∧ 48 ≤ M 170 (M 157 7).toNat ∧ M 170 (M 157 7).toNat ≤ 57) := by
  unfold q_isd; split
  · rename_i h; exact Or.inr ⟨rfl, h⟩
  · exact Or.inl rfl
def q_dg (M : mj_M) : mj_M := q_at1 (mj_up M 157 8 (10 * M 157 8 + M 170 (M 157 7).toNat - 48))
theorem q_sp_dg (h : M 157 7 < M 157 6) : q_sp M (q_dg M) := by
  unfold q_dg
  exact q_sp_t (q_sp_up q_sp_r (by omega)) (q_sp_at1 (by simpa [mj_up] using h))
def q_nmC (M : mj_M) : mj_M := mj_up (q_bl 160 M) 157 8 0
def q_nm (M : mj_M) : Int := if q_blB M = 1 ∧ q_isd (q_nmC M) = 1 then 1 else 0
def q_nmD (M : mj_M) : mj_M := if q_isd M = 1 then (if q_isd (q_dg M) = 1 then q_dg (q_dg M) else q_dg M) else M
def q_nmM (M : mj_M) : mj_M := if q_blB M = 1 then q_nmD (q_nmC M) else q_bl 160 M
theorem q_nm_01 : q_nm M = 0 ∨ q_nm M = 1 := by unfold q_nm; split <;> simp
theorem q_nmD_sp : q_sp M (q_nmD M) := by
  unfold q_nmD
  rcases q_isd_01 (M := M) with h | ⟨h, h2, _⟩
  · rw [if_neg (by omega)]; exact q_sp_r
  · rw [if_pos h]
    rcases q_isd_01 (M := q_dg M) with k | ⟨k, k2, _⟩
    · rw [if_neg (by omega)]; exact q_sp_dg h2
    · rw [if_pos k]; exact q_sp_t (q_sp_dg h2) (q_sp_dg k2)
theorem q_nmM_sp : q_sp M (q_nmM M) := by
  unfold q_nmM
  split
  · exact q_sp_t (q_sp_up (q_bl_sp 160 M) (by omega)) q_nmD_sp
  · exact q_bl_sp 160 M
theorem l_149a {v : Int} (he : M 157 6 ≤ 160) (h0 : 0 ≤ M 157 7) (hv : v = 0 ∨ v = 1) (h8 : 0 ≤ M 157 8 ∧ M 157 8 ≤ 9) :
    mj_Rn (d + 1) 149 16 [.inr (.inl 157), .inl v] [] (SGx 170) M Q = if q_isd M = 1 then mj_Rn (d + 1) 149 16 [.inr (.inl 157), .inl (v + 1)] [] (SGx 170) (q_dg M) Q else mj_Rn (d + 1) 149 100 [.inr (.inl 157), .inl v] [] (SGx 170) M Q := by
  have v2 : v < 2 := by omega
  rw [i_149_16]
  by_cases h1 : M 157 7 < M 157 6
  · by_cases h2 : 48 ≤ M 170 (M 157 7).toNat
    · by_cases h3 : M 170 (M 157 7).toNat ≤ 57
      · have hd : q_isd M = 1 := by unfold q_isd; simp [h1, h2, h3]
        rw [if_pos hd]
        have e7 : mj_up M 157 8 (10 * M 157 8 + M 170 (M 157 7).toNat - 48) 157 7 = M 157 7 := by simp [mj_up]
        unfold q_dg q_at1
        simp (disch := omega) only [i_149_0, i_149_1, i_149_4, i_149_7, i_149_8, i_149_9, i_149_10, i_149_11, i_149_12, i_149_13, i_149_17, i_149_18, i_149_21, i_149_22, i_149_25, i_149_26, i_149_29, i_149_32, i_149_33, i_149_36, i_149_37, i_149_40, i_149_41, i_149_43, i_149_46, i_149_47, i_149_50, i_149_51, i_149_54, i_149_55, i_149_57, i_149_60, i_149_61, i_149_63, i_149_64, i_149_67, i_149_68, i_149_69, i_149_72, i_149_73, i_149_76, i_149_77, i_149_78, i_149_80, i_149_81, i_149_84, i_149_87, i_149_88, i_149_89, i_149_92, i_149_93, i_149_94, i_149_97, i_149_101, i_149_104, i_149_105, i_149_108, i_149_109, g_o157, g_r157_0, g_r157_1, g_r157_2, g_r157_3, g_r157_4, g_r157_5, g_a158, g_t158, g_a159, g_t159, g_a160, g_t160, g_a161, g_t161, g_a170, g_t170, exists_eq_left', Option.some.injEq, exists_eq_left, ne_eq, List.length_nil, List.length_cons, Option.toList_some, Option.toList_none, List.cons_append, List.nil_append, mj_wt_nil, mj_wt_i, mj_wt_r, mj_wt_l, true_and, and_true, false_and, and_false, true_implies, false_implies, implies_true, not_true_eq_false, not_false_eq_true, and_self, Int.reduceEq, Nat.reduceEqDiff, ↓reduceIte, mj_w_id2, h1, h2, h3, if_true, if_false, Int.not_lt, Int.not_le, v2, e7]
        try grind [mj_w]
      · have hd : ¬ q_isd M = 1 := by unfold q_isd; simp [h3]
        rw [if_neg hd]
        simp (disch := omega) only [i_149_0, i_149_1, i_149_4, i_149_7, i_149_8, i_149_9, i_149_10, i_149_11, i_149_12, i_149_13, i_149_17, i_149_18, i_149_21, i_149_22, i_149_25, i_149_26, i_149_29, i_149_32, i_149_33, i_149_36, i_149_37, i_149_40, i_149_41, i_149_43, i_149_46, i_149_47, i_149_50, i_149_51, i_149_54, i_149_55, i_149_57, i_149_60, i_149_61, i_149_63, i_149_64, i_149_67, i_149_68, i_149_69, i_149_72, i_149_73, i_149_76, i_149_77, i_149_78, i_149_80, i_149_81, i_149_84, i_149_87, i_149_88, i_149_89, i_149_92, i_149_93, i_149_94, i_149_97, i_149_101, i_149_104, i_149_105, i_149_108, i_149_109, g_o157, g_r157_0, g_r157_1, g_r157_2, g_r157_3, g_r157_4, g_r157_5, g_a158, g_t158, g_a159, g_t159, g_a160, g_t160, g_a161, g_t161, g_a170, g_t170, exists_eq_left', Option.some.injEq, exists_eq_left, ne_eq, List.length_nil, List.length_cons, Option.toList_some, Option.toList_none, List.cons_append, List.nil_append, mj_wt_nil, mj_wt_i, mj_wt_r, mj_wt_l, true_and, and_true, false_and, and_false, true_implies, false_implies, implies_true, not_true_eq_false, not_false_eq_true, and_self, Int.reduceEq, Nat.reduceEqDiff, ↓reduceIte, mj_w_id2, h1, h2, h3, if_true, if_false, Int.not_lt, Int.not_le, v2]
        try grind [mj_w]
    · have hd : ¬ q_isd M = 1 := by unfold q_isd; simp [h2]
      rw [if_neg hd]
      simp (disch := omega) only [i_149_0, i_149_1, i_149_4, i_149_7, i_149_8, i_149_9, i_149_10, i_149_11, i_149_12, i_149_13, i_149_17, i_149_18, i_149_21, i_149_22, i_149_25, i_149_26, i_149_29, i_149_32, i_149_33, i_149_36, i_149_37, i_149_40, i_149_41, i_149_43, i_149_46, i_149_47, i_149_50, i_149_51, i_149_54, i_149_55, i_149_57, i_149_60, i_149_61, i_149_63, i_149_64, i_149_67, i_149_68, i_149_69, i_149_72, i_149_73, i_149_76, i_149_77, i_149_78, i_149_80, i_149_81, i_149_84, i_149_87, i_149_88, i_149_89, i_149_92, i_149_93, i_149_94, i_149_97, i_149_101, i_149_104, i_149_105, i_149_108, i_149_109, g_o157, g_r157_0, g_r157_1, g_r157_2, g_r157_3, g_r157_4, g_r157_5, g_a158, g_t158, g_a159, g_t159, g_a160, g_t160, g_a161, g_t161, g_a170, g_t170, exists_eq_left', Option.some.injEq, exists_eq_left, ne_eq, List.length_nil, List.length_cons, Option.toList_some, Option.toList_none, List.cons_append, List.nil_append, mj_wt_nil, mj_wt_i, mj_wt_r, mj_wt_l, true_and, and_true, false_and, and_false, true_implies, false_implies, implies_true, not_true_eq_false, not_false_eq_true, and_self, Int.reduceEq, Nat.reduceEqDiff, ↓reduceIte, mj_w_id2, h1, h2, if_true, if_false, Int.not_lt, Int.not_le, v2]
      try grind [mj_w]
  · have hd : ¬ q_isd M = 1 := by unfold q_isd; simp [h1]
    rw [if_neg hd]
    simp (disch := omega) only [i_149_0, i_149_1, i_149_4, i_149_7, i_149_8, i_149_9, i_149_10, i_149_11, i_149_12, i_149_13, i_149_17, i_149_18, i_149_21, i_149_22, i_149_25, i_149_26, i_149_29, i_149_32, i_149_33, i_149_36, i_149_37, i_149_40, i_149_41, i_149_43, i_149_46, i_149_47, i_149_50, i_149_51, i_149_54, i_149_55, i_149_57, i_149_60, i_149_61, i_149_63, i_149_64, i_149_67, i_149_68, i_149_69, i_149_72, i_149_73, i_149_76, i_149_77, i_149_78, i_149_80, i_149_81, i_149_84, i_149_87, i_149_88, i_149_89, i_149_92, i_149_93, i_149_94, i_149_97, i_149_101, i_149_104, i_149_105, i_149_108, i_149_109, g_o157, g_r157_0, g_r157_1, g_r157_2, g_r157_3, g_r157_4, g_r157_5, g_a158, g_t158, g_a159, g_t159, g_a160, g_t160, g_a161, g_t161, g_a170, g_t170, exists_eq_left', Option.some.injEq, exists_eq_left, ne_eq, List.length_nil, List.length_cons, Option.toList_some, Option.toList_none, List.cons_append, List.nil_append, mj_wt_nil, mj_wt_i, mj_wt_r, mj_wt_l, true_and, and_true, false_and, and_false, true_implies, false_implies, implies_true, not_true_eq_false, not_false_eq_true, and_self, Int.reduceEq, Nat.reduceEqDiff, ↓reduceIte, mj_w_id2, h1, if_true, if_false, Int.not_lt, Int.not_le, v2]
    try grind [mj_w]
theorem e_149 (he : M 157 6 ≤ 160) (h0 : 0 ≤ M 157 7) : mj_Rn (d + 1) 149 0 [.inr (.inl 157), .inr (.inr 0)] [] (SGx 170) M Q = Q (some (.inl (q_nm M))) (SGx 170) (q_nmM M) := by
  have sb := q_bl_sp 160 M
  have hC8 : q_nmC M 157 8 = 0 := by unfold q_nmC; simp [mj_up]
  have sC : q_sp M (q_nmC M) := q_sp_up sb (by omega)
  have heC : q_nmC M 157 6 ≤ 160 := by rw [sC.1]; exact he
  have h0C : 0 ≤ q_nmC M 157 7 := by have := sC.2.2.1; omega
  have ef : mj_up (q_bl 160 M) 157 8 0 = q_nmC M := rfl
  unfold q_nm q_nmM
  rcases q_blB_01 (M := M) with hb | hb
  · simp (disch := omega) only [i_149_0, i_149_1, i_149_4, i_149_7, i_149_8, i_149_9, i_149_10, i_149_11, i_149_12, i_149_13, i_149_17, i_149_18, i_149_21, i_149_22, i_149_25, i_149_26, i_149_29, i_149_32, i_149_33, i_149_36, i_149_37, i_149_40, i_149_41, i_149_43, i_149_46, i_149_47, i_149_50, i_149_51, i_149_54, i_149_55, i_149_57, i_149_60, i_149_61, i_149_63, i_149_64, i_149_67, i_149_68, i_149_69, i_149_72, i_149_73, i_149_76, i_149_77, i_149_78, i_149_80, i_149_81, i_149_84, i_149_87, i_149_88, i_149_89, i_149_92, i_149_93, i_149_94, i_149_97, i_149_100, i_149_101, i_149_104, i_149_105, i_149_108, i_149_109, g_o157, g_r157_0, g_r157_1, g_r157_2, g_r157_3, g_r157_4, g_r157_5, g_a158, g_t158, g_a159, g_t159, g_a160, g_t160, g_a161, g_t161, g_a170, g_t170, exists_eq_left', Option.some.injEq, exists_eq_left, ne_eq, List.length_nil, List.length_cons, Option.toList_some, Option.toList_none, List.cons_append, List.nil_append, mj_wt_nil, mj_wt_i, mj_wt_r, mj_wt_l, true_and, and_true, false_and, and_false, true_implies, false_implies, implies_true, not_true_eq_false, not_false_eq_true, and_self, Int.reduceEq, Nat.reduceEqDiff, ↓reduceIte, mj_w_id2, e_150 he h0, hb, ef, Int.reduceAdd, Int.reduceLT, Int.reduceLE]
    try grind
  · have a1 := l_149a (d := d) (Q := Q) (M := q_nmC M) (v := 0) heC h0C (Or.inl rfl) (by omega)
    rcases q_isd_01 (M := q_nmC M) with hd | ⟨hd, hd2, hd3, hd4⟩
    · rw [if_neg (by omega)] at a1
      unfold q_nmD
      simp (disch := omega) only [i_149_0, i_149_1, i_149_4, i_149_7, i_149_8, i_149_9, i_149_10, i_149_11, i_149_12, i_149_13, i_149_17, i_149_18, i_149_21, i_149_22, i_149_25, i_149_26, i_149_29, i_149_32, i_149_33, i_149_36, i_149_37, i_149_40, i_149_41, i_149_43, i_149_46, i_149_47, i_149_50, i_149_51, i_149_54, i_149_55, i_149_57, i_149_60, i_149_61, i_149_63, i_149_64, i_149_67, i_149_68, i_149_69, i_149_72, i_149_73, i_149_76, i_149_77, i_149_78, i_149_80, i_149_81, i_149_84, i_149_87, i_149_88, i_149_89, i_149_92, i_149_93, i_149_94, i_149_97, i_149_100, i_149_101, i_149_104, i_149_105, i_149_108, i_149_109, g_o157, g_r157_0, g_r157_1, g_r157_2, g_r157_3, g_r157_4, g_r157_5, g_a158, g_t158, g_a159, g_t159, g_a160, g_t160, g_a161, g_t161, g_a170, g_t170, exists_eq_left', Option.some.injEq, exists_eq_left, ne_eq, List.length_nil, List.length_cons, Option.toList_some, Option.toList_none, List.cons_append, List.nil_append, mj_wt_nil, mj_wt_i, mj_wt_r, mj_wt_l, true_and, and_true, false_and, and_false, true_implies, false_implies, implies_true, not_true_eq_false, not_false_eq_true, and_self, Int.reduceEq, Nat.reduceEqDiff, ↓reduceIte, mj_w_id2, e_150 he h0, hb, hd, ef, a1, Int.reduceAdd, Int.reduceLT, Int.reduceLE]
      try grind
    · rw [if_pos hd] at a1
      have s1 := q_sp_dg hd2
      have e8 : q_dg (q_nmC M) 157 8 = q_nmC M 170 (q_nmC M 157 7).toNat - 48 := by unfold q_dg q_at1; simp [mj_up, hC8]
      have a2 := l_149a (d := d) (Q := Q) (M := q_dg (q_nmC M)) (v := 1) (by rw [s1.1]; exact heC) (by have := s1.2.2.1; omega) (Or.inr rfl) (by rw [e8]; omega)
      rcases q_isd_01 (M := q_dg (q_nmC M)) with hk | ⟨hk, hk2, _⟩
      · rw [if_neg (by omega)] at a2
        unfold q_nmD
        simp (disch := omega) only [i_149_0, i_149_1, i_149_4, i_149_7, i_149_8, i_149_9, i_149_10, i_149_11, i_149_12, i_149_13, i_149_17, i_149_18, i_149_21, i_149_22, i_149_25, i_149_26, i_149_29, i_149_32, i_149_33, i_149_36, i_149_37, i_149_40, i_149_41, i_149_43, i_149_46, i_149_47, i_149_50, i_149_51, i_149_54, i_149_55, i_149_57, i_149_60, i_149_61, i_149_63, i_149_64, i_149_67, i_149_68, i_149_69, i_149_72, i_149_73, i_149_76, i_149_77, i_149_78, i_149_80, i_149_81, i_149_84, i_149_87, i_149_88, i_149_89, i_149_92, i_149_93, i_149_94, i_149_97, i_149_100, i_149_101, i_149_104, i_149_105, i_149_108, i_149_109, g_o157, g_r157_0, g_r157_1, g_r157_2, g_r157_3, g_r157_4, g_r157_5, g_a158, g_t158, g_a159, g_t159, g_a160, g_t160, g_a161, g_t161, g_a170, g_t170, exists_eq_left', Option.some.injEq, exists_eq_left, ne_eq, List.length_nil, List.length_cons, Option.toList_some, Option.toList_none, List.cons_append, List.nil_append, mj_wt_nil, mj_wt_i, mj_wt_r, mj_wt_l, true_and, and_true, false_and, and_false, true_implies, false_implies, implies_true, not_true_eq_false, not_false_eq_true, and_self, Int.reduceEq, Nat.reduceEqDiff, ↓reduceIte, mj_w_id2, e_150 he h0, hb, hd, hk, ef, a1, a2, Int.reduceAdd, Int.reduceLT, Int.reduceLE]
        try grind
      · rw [if_pos hk] at a2
        unfold q_nmD
        simp (disch := omega) only [i_149_0, i_149_1, i_149_4, i_149_7, i_149_8, i_149_9, i_149_10, i_149_11, i_149_12, i_149_13, i_149_17, i_149_18, i_149_21, i_149_22, i_149_25, i_149_26, i_149_29, i_149_32, i_149_33, i_149_36, i_149_37, i_149_40, i_149_41, i_149_43, i_149_46, i_149_47, i_149_50, i_149_51, i_149_54, i_149_55, i_149_57, i_149_60, i_149_61, i_149_63, i_149_64, i_149_67, i_149_68, i_149_69, i_149_72, i_149_73, i_149_76, i_149_77, i_149_78, i_149_80, i_149_81, i_149_84, i_149_87, i_149_88, i_149_89, i_149_92, i_149_93, i_149_94, i_149_97, i_149_100, i_149_101, i_149_104, i_149_105, i_149_108, i_149_109, g_o157, g_r157_0, g_r157_1, g_r157_2, g_r157_3, g_r157_4, g_r157_5, g_a158, g_t158, g_a159, g_t159, g_a160, g_t160, g_a161, g_t161, g_a170, g_t170, exists_eq_left', Option.some.injEq, exists_eq_left, ne_eq, List.length_nil, List.length_cons, Option.toList_some, Option.toList_none, List.cons_append, List.nil_append, mj_wt_nil, mj_wt_i, mj_wt_r, mj_wt_l, true_and, and_true, false_and, and_false, true_implies, false_implies, implies_true, not_true_eq_false, not_false_eq_true, and_self, Int.reduceEq, Nat.reduceEqDiff, ↓reduceIte, mj_w_id2, e_150 he h0, hb, hd, hk, ef, a1, a2, Int.reduceAdd, Int.reduceLT, Int.reduceLE]
        rw [i_149_16]
        simp (disch := omega) only [i_149_0, i_149_1, i_149_4, i_149_7, i_149_8, i_149_9, i_149_10, i_149_11, i_149_12, i_149_13, i_149_17, i_149_18, i_149_21, i_149_22, i_149_25, i_149_26, i_149_29, i_149_32, i_149_33, i_149_36, i_149_37, i_149_40, i_149_41, i_149_43, i_149_46, i_149_47, i_149_50, i_149_51, i_149_54, i_149_55, i_149_57, i_149_60, i_149_61, i_149_63, i_149_64, i_149_67, i_149_68, i_149_69, i_149_72, i_149_73, i_149_76, i_149_77, i_149_78, i_149_80, i_149_81, i_149_84, i_149_87, i_149_88, i_149_89, i_149_92, i_149_93, i_149_94, i_149_97, i_149_100, i_149_101, i_149_104, i_149_105, i_149_108, i_149_109, g_o157, g_r157_0, g_r157_1, g_r157_2, g_r157_3, g_r157_4, g_r157_5, g_a158, g_t158, g_a159, g_t159, g_a160, g_t160, g_a161, g_t161, g_a170, g_t170, exists_eq_left', Option.some.injEq, exists_eq_left, ne_eq, List.length_nil, List.length_cons, Option.toList_some, Option.toList_none, List.cons_append, List.nil_append, mj_wt_nil, mj_wt_i, mj_wt_r, mj_wt_l, true_and, and_true, false_and, and_false, true_implies, false_implies, implies_true, not_true_eq_false, not_false_eq_true, and_self, Int.reduceEq, Nat.reduceEqDiff, ↓reduceIte, mj_w_id2, e_150 he h0, hb, hd, hk, ef, a1, a2, Int.reduceAdd, Int.reduceLT, Int.reduceLE]
        try grind
end sp69
