section sp43
variable {x : Nat} {M : mj_M} {Q : Option mj_V → mj_G → mj_M → Prop} {d : Nat}
def q_okv (a i : Nat) (v : Int) : Prop := (a = 3 → i < 120 → -1 ≤ v ∧ v ≤ 3) ∧
  (a = 4 → i < 120 → -1 ≤ v ∧ v < 40) ∧
  (a = 7 → i < 120 → -1 ≤ v ∧ v < 120) ∧
  (a = 8 → i < 120 → 0 ≤ v ∧ v < 40) ∧
  (a = 9 → i < 120 → 0 ≤ v ∧ v < 10) ∧
  (a = 10 → i < 120 → -1 ≤ v ∧ v ≤ 40) ∧
  (a = 42 → i < 400 → -1 ≤ v ∧ v < 120) ∧
  (a = 14 → i < 40 → -1 ≤ v ∧ v < 6) ∧
  (a = 15 → i < 40 → -1 ≤ v ∧ v < 120) ∧
  (a = 17 → i < 40 → 0 ≤ v ∧ v < 100000000) ∧
  (a = 18 → i < 40 → 0 ≤ v ∧ v ≤ 30) ∧
  (a = 19 → i < 40 → 0 ≤ v ∧ v ≤ 30) ∧
  (a = 23 → i < 8 → 0 ≤ v ∧ v < 40) ∧
  (a = 27 → i < 8 → -1 ≤ v ∧ v < 40) ∧
  (a = 28 → i < 8 → -1 ≤ v ∧ v < 40) ∧
  (a = 29 → i < 8 → -1 ≤ v ∧ v < 8) ∧
  (a = 30 → i < 8 → -1 ≤ v ∧ v < 8) ∧
  (a = 31 → i < 8 → 0 ≤ v ∧ v ≤ 40) ∧
  (a = 22 → i = 13 → 0 ≤ v ∧ v ≤ 8) ∧
  (a = 36 → i = 5 → 0 ≤ v ∧ v ≤ 20) ∧
  (a = 1 → i = 6 → 0 ≤ v ∧ v ≤ 16) ∧
  (a = 1 → i = 7 → 0 ≤ v ∧ v ≤ 9999) ∧
  (a = 1 → i = 10 → -1 ≤ v ∧ v < 8)
theorem q_wr_okv (w : q_wr M) (a i : Nat) : q_okv a i (M a i) := by
  unfold q_wr at w
  obtain ⟨h0, h1, h2, h3, h4, h5, h6, h7, h8, h9, h10, h11, h12, h13, h14, h15, h16, h17, h18, h19, h20, h21, h22⟩ := w
  refine ⟨(fun ha hi => ha ▸ h0 i hi), (fun ha hi => ha ▸ h1 i hi), (fun ha hi => ha ▸ h2 i hi), (fun ha hi => ha ▸ h3 i hi), (fun ha hi => ha ▸ h4 i hi), (fun ha hi => ha ▸ h5 i hi), (fun ha hi => ha ▸ h6 i hi), (fun ha hi => ha ▸ h7 i hi), (fun ha hi => ha ▸ h8 i hi), (fun ha hi => ha ▸ h9 i hi), (fun ha hi => ha ▸ h10 i hi), (fun ha hi => ha ▸ h11 i hi), (fun ha hi => ha ▸ h12 i hi), (fun ha hi => ha ▸ h13 i hi), (fun ha hi => ha ▸ h14 i hi), (fun ha hi => ha ▸ h15 i hi), (fun ha hi => ha ▸ h16 i hi), (fun ha hi => ha ▸ h17 i hi), (fun ha hi => ha ▸ hi ▸ h18), (fun ha hi => ha ▸ hi ▸ h19), (fun ha hi => ha ▸ hi ▸ h20), (fun ha hi => ha ▸ hi ▸ h21), (fun ha hi => ha ▸ hi ▸ h22)⟩
theorem q_okv_wr (h : ∀ a i, q_okv a i (M a i)) : q_wr M := by
  unfold q_wr
  refine ⟨(fun i hi => (h 3 i).1 rfl hi), (fun i hi => (h 4 i).2.1 rfl hi), (fun i hi => (h 7 i).2.2.1 rfl hi), (fun i hi => (h 8 i).2.2.2.1 rfl hi), (fun i hi => (h 9 i).2.2.2.2.1 rfl hi), (fun i hi => (h 10 i).2.2.2.2.2.1 rfl hi), (fun i hi => (h 42 i).2.2.2.2.2.2.1 rfl hi), (fun i hi => (h 14 i).2.2.2.2.2.2.2.1 rfl hi), (fun i hi => (h 15 i).2.2.2.2.2.2.2.2.1 rfl hi), (fun i hi => (h 17 i).2.2.2.2.2.2.2.2.2.1 rfl hi), (fun i hi => (h 18 i).2.2.2.2.2.2.2.2.2.2.1 rfl hi), (fun i hi => (h 19 i).2.2.2.2.2.2.2.2.2.2.2.1 rfl hi), (fun i hi => (h 23 i).2.2.2.2.2.2.2.2.2.2.2.2.1 rfl hi), (fun i hi => (h 27 i).2.2.2.2.2.2.2.2.2.2.2.2.2.1 rfl hi), (fun i hi => (h 28 i).2.2.2.2.2.2.2.2.2.2.2.2.2.2.1 rfl hi), (fun i hi => (h 29 i).2.2.2.2.2.2.2.2.2.2.2.2.2.2.2.1 rfl hi), (fun i hi => (h 30 i).2.2.2.2.2.2.2.2.2.2.2.2.2.2.2.2.1 rfl hi), (fun i hi => (h 31 i).2.2.2.2.2.2.2.2.2.2.2.2.2.2.2.2.2.1 rfl hi), (h 22 13).2.2.2.2.2.2.2.2.2.2.2.2.2.2.2.2.2.2.1 rfl rfl, (h 36 5).2.2.2.2.2.2.2.2.2.2.2.2.2.2.2.2.2.2.2.1 rfl rfl, (h 1 6).2.2.2.2.2.2.2.2.2.2.2.2.2.2.2.2.2.2.2.2.1 rfl rfl, (h 1 7).2.2.2.2.2.2.2.2.2.2.2.2.2.2.2.2.2.2.2.2.2.1 rfl rfl, (h 1 10).2.2.2.2.2.2.2.2.2.2.2.2.2.2.2.2.2.2.2.2.2.2 rfl rfl⟩
theorem q_wr_up {a i : Nat} {v : Int} (w : q_wr M) (h : q_okv a i v) : q_wr (mj_up M a i v) := by
  apply q_okv_wr
  intro b j
  have h2 := q_wr_okv w b j
  unfold mj_up
  grind
theorem q_w3 {i : Nat} (w : q_wr M) (h : i < 120) : -1 ≤ M 3 i ∧ M 3 i ≤ 3 := (q_wr_okv w 3 i).1 rfl h
theorem q_w4 {i : Nat} (w : q_wr M) (h : i < 120) : -1 ≤ M 4 i ∧ M 4 i < 40 := (q_wr_okv w 4 i).2.1 rfl h
theorem q_w7 {i : Nat} (w : q_wr M) (h : i < 120) : -1 ≤ M 7 i ∧ M 7 i < 120 := (q_wr_okv w 7 i).2.2.1 rfl h
theorem q_w8 {i : Nat} (w : q_wr M) (h : i < 120) : 0 ≤ M 8 i ∧ M 8 i < 40 := (q_wr_okv w 8 i).2.2.2.1 rfl h
theorem q_w9 {i : Nat} (w : q_wr M) (h : i < 120) : 0 ≤ M 9 i ∧ M 9 i < 10 := (q_wr_okv w 9 i).2.2.2.2.1 rfl h
theorem q_w10 {i : Nat} (w : q_wr M) (h : i < 120) : -1 ≤ M 10 i ∧ M 10 i ≤ 40 := (q_wr_okv w 10 i).2.2.2.2.2.1 rfl h
theorem q_w42 {i : Nat} (w : q_wr M) (h : i < 400) : -1 ≤ M 42 i ∧ M 42 i < 120 := (q_wr_okv w 42 i).2.2.2.2.2.2.1 rfl h
theorem q_w14 {i : Nat} (w : q_wr M) (h : i < 40) : -1 ≤ M 14 i ∧ M 14 i < 6 := (q_wr_okv w 14 i).2.2.2.2.2.2.2.1 rfl h
theorem q_w15 {i : Nat} (w : q_wr M) (h : i < 40) : -1 ≤ M 15 i ∧ M 15 i < 120 := (q_wr_okv w 15 i).2.2.2.2.2.2.2.2.1 rfl h
theorem q_w17 {i : Nat} (w : q_wr M) (h : i < 40) : 0 ≤ M 17 i ∧ M 17 i < 100000000 := (q_wr_okv w 17 i).2.2.2.2.2.2.2.2.2.1 rfl h
theorem q_w18 {i : Nat} (w : q_wr M) (h : i < 40) : 0 ≤ M 18 i ∧ M 18 i ≤ 30 := (q_wr_okv w 18 i).2.2.2.2.2.2.2.2.2.2.1 rfl h
theorem q_w19 {i : Nat} (w : q_wr M) (h : i < 40) : 0 ≤ M 19 i ∧ M 19 i ≤ 30 := (q_wr_okv w 19 i).2.2.2.2.2.2.2.2.2.2.2.1 rfl h
theorem q_w23 {i : Nat} (w : q_wr M) (h : i < 8) : 0 ≤ M 23 i ∧ M 23 i < 40 := (q_wr_okv w 23 i).2.2.2.2.2.2.2.2.2.2.2.2.1 rfl h
theorem q_w27 {i : Nat} (w : q_wr M) (h : i < 8) : -1 ≤ M 27 i ∧ M 27 i < 40 := (q_wr_okv w 27 i).2.2.2.2.2.2.2.2.2.2.2.2.2.1 rfl h
theorem q_w28 {i : Nat} (w : q_wr M) (h : i < 8) : -1 ≤ M 28 i ∧ M 28 i < 40 := (q_wr_okv w 28 i).2.2.2.2.2.2.2.2.2.2.2.2.2.2.1 rfl h
theorem q_w29 {i : Nat} (w : q_wr M) (h : i < 8) : -1 ≤ M 29 i ∧ M 29 i < 8 := (q_wr_okv w 29 i).2.2.2.2.2.2.2.2.2.2.2.2.2.2.2.1 rfl h
theorem q_w30 {i : Nat} (w : q_wr M) (h : i < 8) : -1 ≤ M 30 i ∧ M 30 i < 8 := (q_wr_okv w 30 i).2.2.2.2.2.2.2.2.2.2.2.2.2.2.2.2.1 rfl h
theorem q_w31 {i : Nat} (w : q_wr M) (h : i < 8) : 0 ≤ M 31 i ∧ M 31 i ≤ 40 := (q_wr_okv w 31 i).2.2.2.2.2.2.2.2.2.2.2.2.2.2.2.2.2.1 rfl h
theorem q_w22_13 (w : q_wr M) : 0 ≤ M 22 13 ∧ M 22 13 ≤ 8 := (q_wr_okv w 22 13).2.2.2.2.2.2.2.2.2.2.2.2.2.2.2.2.2.2.1 rfl rfl
theorem q_w36_5 (w : q_wr M) : 0 ≤ M 36 5 ∧ M 36 5 ≤ 20 := (q_wr_okv w 36 5).2.2.2.2.2.2.2.2.2.2.2.2.2.2.2.2.2.2.2.1 rfl rfl
theorem q_w1_6 (w : q_wr M) : 0 ≤ M 1 6 ∧ M 1 6 ≤ 16 := (q_wr_okv w 1 6).2.2.2.2.2.2.2.2.2.2.2.2.2.2.2.2.2.2.2.2.1 rfl rfl
theorem q_w1_7 (w : q_wr M) : 0 ≤ M 1 7 ∧ M 1 7 ≤ 9999 := (q_wr_okv w 1 7).2.2.2.2.2.2.2.2.2.2.2.2.2.2.2.2.2.2.2.2.2.1 rfl rfl
theorem q_w1_10 (w : q_wr M) : -1 ≤ M 1 10 ∧ M 1 10 < 8 := (q_wr_okv w 1 10).2.2.2.2.2.2.2.2.2.2.2.2.2.2.2.2.2.2.2.2.2.2 rfl rfl
def q_for (F : Nat → mj_M → mj_M) : Nat → Nat → mj_M → mj_M
  | 0, _, M => M
  | n + 1, t, M => q_for F n (t + 1) (F t M)
theorem q_for_rule {N : Nat} {F : Nat → mj_M → mj_M} {P : Nat → mj_M → Prop} {H : Nat → mj_M → Prop} {E : mj_M → Prop}
    (h1 : ∀ t M, t < N → P t M → P (t + 1) (F t M) ∧ H t M = H (t + 1) (F t M)) (h2 : ∀ M, P N M → H N M = E M) :
    ∀ (n t : Nat) (M : mj_M), t + n = N → P t M → H t M = E (q_for F n t M) := by
  intro n
  induction n with
  | zero => intro t M h hP; have : t = N := by omega
            subst this; exact h2 M hP
  | succ n ih =>
    intro t M h hP
    obtain ⟨a, b⟩ := h1 t M (by omega) hP
    rw [b, ih (t + 1) _ (by omega) a]; rfl
theorem q_for_inv {N : Nat} {F : Nat → mj_M → mj_M} {P : Nat → mj_M → Prop}
    (h1 : ∀ t M, t < N → P t M → P (t + 1) (F t M)) : ∀ (n t : Nat) (M : mj_M), t + n = N → P t M → P N (q_for F n t M) := by
  intro n
  induction n with
  | zero => intro t M h hP; have : t = N := by omega
            subst this; exact hP
  | succ n ih => intro t M h hP; exact ih (t + 1) _ (by omega) (h1 t M (by omega) hP)
/-- how many -/
def q_sum (f : Nat → Int) : Nat → Nat → Int
  | 0, _ => 0
  | n + 1, t => f t + q_sum f n (t + 1)
/-- the first -/
def q_fst (p : Nat → Bool) : Nat → Nat → Int
  | 0, _ => -1
  | n + 1, t => if p t then (t : Int) else q_fst p n (t + 1)
theorem q_fst_in {p : Nat → Bool} : ∀ (n t : Nat), q_fst p n t = -1 ∨ ((t : Int) ≤ q_fst p n t ∧ q_fst p n t < t + n ∧ p (q_fst p n t).toNat = true) := by
  intro n
  induction n with
  | zero => intro t; exact Or.inl rfl
  | succ n ih =>
    intro t
    have := ih (t + 1)
    unfold q_fst
    split
    · rename_i h; exact Or.inr ⟨by omega, by omega, by simpa using h⟩
    · rcases this with h | ⟨h1, h2, h3⟩
      · exact Or.inl h
      · exact Or.inr ⟨by omega, by omega, h3⟩
theorem q_okv_o {a i : Nat} {v : Int} (h : a ∉ [1, 3, 4, 7, 8, 9, 10, 14, 15, 17, 18, 19, 22, 23, 27, 28, 29, 30, 31, 36, 42]) : q_okv a i v := by
  simp only [List.mem_cons, List.not_mem_nil, or_false, not_or] at h
  unfold q_okv
  refine ⟨fun q => absurd q (by omega), fun q => absurd q (by omega), fun q => absurd q (by omega), fun q => absurd q (by omega), fun q => absurd q (by omega), fun q => absurd q (by omega), fun q => absurd q (by omega), fun q => absurd q (by omega), fun q => absurd q (by omega), fun q => absurd q (by omega), fun q => absurd q (by omega), fun q => absurd q (by omega), fun q => absurd q (by omega), fun q => absurd q (by omega), fun q => absurd q (by omega), fun q => absurd q (by omega), fun q => absurd q (by omega), fun q => absurd q (by omega), fun q => absurd q (by omega), fun q => absurd q (by omega), fun q => absurd q (by omega), fun q => absurd q (by omega), fun q => absurd q (by omega)⟩
def q_wake (M : mj_M) (r a : Int) : mj_M := mj_up (mj_up (mj_up (mj_up (mj_up M 24 r.toNat 0) 25 r.toNat (mj_w (M 25 r.toNat + 1))) 26 r.toNat a) 28 r.toNat (-1)) 29 r.toNat (-1)
theorem e_56 {r a : Int} (hr : 0 ≤ r ∧ r < 8) : mj_Rn d 56 0 [.inr (.inl 22), .inl r, .inl a] [] (SGx x) M Q = Q none (SGx x) (q_wake M r a) := by
  simp (disch := omega) only [i_56_0, i_56_1, i_56_4, i_56_5, i_56_6, i_56_7, i_56_8, i_56_11, i_56_12, i_56_13, i_56_14, i_56_15, i_56_16, i_56_17, i_56_18, i_56_21, i_56_22, i_56_23, i_56_24, i_56_25, i_56_28, i_56_29, i_56_30, i_56_31, i_56_32, i_56_35, i_56_36, i_56_37, i_56_38, g_o22, g_r22_0, g_r22_1, g_r22_2, g_r22_3, g_r22_4, g_r22_5, g_r22_6, g_r22_7, g_r22_8, g_r22_9, g_r22_10, g_r22_11, g_r22_12, g_a23, g_t23, g_a24, g_t24, g_a25, g_t25, g_a26, g_t26, g_a27, g_t27, g_a28, g_t28, g_a29, g_t29, g_a30, g_t30, g_a31, g_t31, g_a32, g_t32, g_a33, g_t33, g_a34, g_t34, g_a35, g_t35, exists_eq_left', Option.some.injEq, exists_eq_left, ne_eq, List.length_nil, List.length_cons, Option.toList_some, Option.toList_none, List.cons_append, List.nil_append, mj_wt_nil, mj_wt_i, mj_wt_r, mj_wt_l, true_and, and_true, false_and, and_false, true_implies, false_implies, implies_true, not_true_eq_false, not_false_eq_true, and_self, Int.reduceEq, Nat.reduceEqDiff, ↓reduceIte, mj_w_id2, mj_up_ne (show (25 : Nat) ≠ 24 by decide)]
  grind (splits := 40) [q_wake, mj_up, mj_w]
def q_goes (M : mj_M) (r s g b c n : Int) : mj_M := mj_up (mj_up (mj_up (mj_up (mj_up M 24 r.toNat s) 28 r.toNat g) 32 r.toNat b) 33 r.toNat c) 34 r.toNat n
theorem e_106 {r s k b c n : Int} (hr : 0 ≤ r ∧ r < 8) : mj_Rn d 106 0 [.inr (.inl 22), .inl r, .inl s, .inl k, .inl b, .inl c, .inl n] [] (SGx x) M Q = Q none (SGx x) (q_goes M r s k b c n) := by
  simp (disch := omega) only [i_106_0, i_106_1, i_106_4, i_106_5, i_106_6, i_106_7, i_106_8, i_106_11, i_106_12, i_106_13, i_106_14, i_106_15, i_106_18, i_106_19, i_106_21, i_106_22, i_106_23, i_106_26, i_106_27, i_106_29, i_106_30, i_106_31, i_106_34, i_106_35, i_106_37, i_106_38, g_o22, g_r22_0, g_r22_1, g_r22_2, g_r22_3, g_r22_4, g_r22_5, g_r22_6, g_r22_7, g_r22_8, g_r22_9, g_r22_10, g_r22_11, g_r22_12, g_a23, g_t23, g_a24, g_t24, g_a25, g_t25, g_a26, g_t26, g_a27, g_t27, g_a28, g_t28, g_a29, g_t29, g_a30, g_t30, g_a31, g_t31, g_a32, g_t32, g_a33, g_t33, g_a34, g_t34, g_a35, g_t35, exists_eq_left', Option.some.injEq, exists_eq_left, ne_eq, List.length_nil, List.length_cons, Option.toList_some, Option.toList_none, List.cons_append, List.nil_append, mj_wt_nil, mj_wt_i, mj_wt_r, mj_wt_l, true_and, and_true, false_and, and_false, true_implies, false_implies, implies_true, not_true_eq_false, not_false_eq_true, and_self, Int.reduceEq, Nat.reduceEqDiff, ↓reduceIte, mj_w_id2]
  grind (splits := 40) [q_goes, mj_w]
def q_serve (M : mj_M) (s c : Int) : mj_M := mj_up (mj_up (q_wake M s (M 26 c.toNat)) 30 s.toNat c) 29 c.toNat s
theorem e_105 {s c : Int} (hs : 0 ≤ s ∧ s < 8) (hc : 0 ≤ c ∧ c < 8) : mj_Rn (d + 1) 105 0 [.inr (.inl 133), .inl s, .inl c] [] (SGx x) M Q = Q none (SGx x) (q_serve M s c) := by
  simp (disch := omega) only [i_105_0, i_105_1, i_105_4, i_105_5, i_105_6, i_105_9, i_105_12, i_105_13, i_105_14, i_105_17, i_105_18, i_105_21, i_105_24, i_105_25, i_105_26, i_105_27, i_105_28, i_105_31, i_105_34, i_105_35, i_105_36, i_105_37, g_o22, g_r22_0, g_r22_1, g_r22_2, g_r22_3, g_r22_4, g_r22_5, g_r22_6, g_r22_7, g_r22_8, g_r22_9, g_r22_10, g_r22_11, g_r22_12, g_a23, g_t23, g_a24, g_t24, g_a25, g_t25, g_a26, g_t26, g_a27, g_t27, g_a28, g_t28, g_a29, g_t29, g_a30, g_t30, g_a31, g_t31, g_a32, g_t32, g_a33, g_t33, g_a34, g_t34, g_a35, g_t35, g_o133, g_r133_0, g_r133_1, g_r133_2, g_r133_3, exists_eq_left', Option.some.injEq, exists_eq_left, ne_eq, List.length_nil, List.length_cons, Option.toList_some, Option.toList_none, List.cons_append, List.nil_append, mj_wt_nil, mj_wt_i, mj_wt_r, mj_wt_l, true_and, and_true, false_and, and_false, true_implies, false_implies, implies_true, not_true_eq_false, not_false_eq_true, and_self, Int.reduceEq, Nat.reduceEqDiff, ↓reduceIte, mj_w_id2, e_56 hs]
  grind (splits := 40) [q_serve, mj_w]
def q_end1 (M : mj_M) (r : Int) : mj_M := if M 30 r.toNat = -1 then M else mj_up (q_wake M (M 30 r.toNat) (-1)) 30 r.toNat (-1)
def q_end2 (M : mj_M) (r : Int) : mj_M := if M 29 r.toNat = -1 then M else mj_up (mj_up M 30 (M 29 r.toNat).toNat (-1)) 29 r.toNat (-1)
def q_end (M : mj_M) (r s : Int) : mj_M := mj_up (mj_up (q_end2 (q_end1 M r) r) 28 r.toNat (-1)) 24 r.toNat s
theorem q_wake_w {r a : Int} (w : q_wr M) : q_wr (q_wake M r a) := by
  unfold q_wake
  refine q_wr_up (q_wr_up (q_wr_up (q_wr_up (q_wr_up w (q_okv_o (by decide))) (q_okv_o (by decide))) (q_okv_o (by decide))) ?_) ?_ <;> simp [q_okv]
theorem q_end1_w {r : Int} (w : q_wr M) : q_wr (q_end1 M r) := by
  unfold q_end1
  split
  · exact w
  · exact q_wr_up (q_wake_w w) (by simp [q_okv])
theorem q_end2_w {r : Int} (w : q_wr M) : q_wr (q_end2 M r) := by
  unfold q_end2
  split
  · exact w
  · exact q_wr_up (q_wr_up w (by simp [q_okv])) (by simp [q_okv])
theorem q_end_w {r s : Int} (w : q_wr M) : q_wr (q_end M r s) := by
  unfold q_end
  exact q_wr_up (q_wr_up (q_end2_w (q_end1_w w)) (by simp [q_okv])) (q_okv_o (by decide))
theorem e_55 {r s : Int} (hr : 0 ≤ r ∧ r < 8) (w : q_wr M) : mj_Rn (d + 1) 55 0 [.inr (.inl 22), .inl r, .inl s] [] (SGx x) M Q = Q none (SGx x) (q_end M r s) := by
  have h1 := q_w30 (i := r.toNat) w (by omega)
  have h2 := q_w29 (i := r.toNat) w (by omega)
  have h3 := q_w29 (i := r.toNat) (q_wake_w (r := M 30 r.toNat) (a := -1) w) (by omega)
  by_cases h0 : M 30 r.toNat = -1
  · simp only [h0] at h1 h3
    simp (disch := omega) only [i_55_0, i_55_1, i_55_4, i_55_5, i_55_6, i_55_7, i_55_10, i_55_11, i_55_12, i_55_15, i_55_16, i_55_17, i_55_18, i_55_21, i_55_22, i_55_25, i_55_26, i_55_27, i_55_28, i_55_29, i_55_32, i_55_33, i_55_34, i_55_35, i_55_38, i_55_39, i_55_42, i_55_43, i_55_46, i_55_47, i_55_48, i_55_49, i_55_50, i_55_51, i_55_54, i_55_55, i_55_56, i_55_57, i_55_58, i_55_61, i_55_62, i_55_63, i_55_64, i_55_65, i_55_68, i_55_69, i_55_70, i_55_71, g_o22, g_r22_0, g_r22_1, g_r22_2, g_r22_3, g_r22_4, g_r22_5, g_r22_6, g_r22_7, g_r22_8, g_r22_9, g_r22_10, g_r22_11, g_r22_12, g_a23, g_t23, g_a24, g_t24, g_a25, g_t25, g_a26, g_t26, g_a27, g_t27, g_a28, g_t28, g_a29, g_t29, g_a30, g_t30, g_a31, g_t31, g_a32, g_t32, g_a33, g_t33, g_a34, g_t34, g_a35, g_t35, exists_eq_left', Option.some.injEq, exists_eq_left, ne_eq, List.length_nil, List.length_cons, Option.toList_some, Option.toList_none, List.cons_append, List.nil_append, mj_wt_nil, mj_wt_i, mj_wt_r, mj_wt_l, true_and, and_true, false_and, and_false, true_implies, false_implies, implies_true, not_true_eq_false, not_false_eq_true, and_self, Int.reduceEq, Nat.reduceEqDiff, ↓reduceIte, mj_w_id2, h0, mj_up_ne (show (29 : Nat) ≠ 30 by decide)]
    simp only [q_end, q_end1, q_end2, h0, if_true]
    grind (splits := 40)
  have h30 : 0 ≤ M 30 r.toNat ∧ M 30 r.toNat < 8 := by omega
  simp (disch := omega) only [i_55_0, i_55_1, i_55_4, i_55_5, i_55_6, i_55_7, i_55_10, i_55_11, i_55_12, i_55_15, i_55_16, i_55_17, i_55_18, i_55_21, i_55_22, i_55_25, i_55_26, i_55_27, i_55_28, i_55_29, i_55_32, i_55_33, i_55_34, i_55_35, i_55_38, i_55_39, i_55_42, i_55_43, i_55_46, i_55_47, i_55_48, i_55_49, i_55_50, i_55_51, i_55_54, i_55_55, i_55_56, i_55_57, i_55_58, i_55_61, i_55_62, i_55_63, i_55_64, i_55_65, i_55_68, i_55_69, i_55_70, i_55_71, g_o22, g_r22_0, g_r22_1, g_r22_2, g_r22_3, g_r22_4, g_r22_5, g_r22_6, g_r22_7, g_r22_8, g_r22_9, g_r22_10, g_r22_11, g_r22_12, g_a23, g_t23, g_a24, g_t24, g_a25, g_t25, g_a26, g_t26, g_a27, g_t27, g_a28, g_t28, g_a29, g_t29, g_a30, g_t30, g_a31, g_t31, g_a32, g_t32, g_a33, g_t33, g_a34, g_t34, g_a35, g_t35, exists_eq_left', Option.some.injEq, exists_eq_left, ne_eq, List.length_nil, List.length_cons, Option.toList_some, Option.toList_none, List.cons_append, List.nil_append, mj_wt_nil, mj_wt_i, mj_wt_r, mj_wt_l, true_and, and_true, false_and, and_false, true_implies, false_implies, implies_true, not_true_eq_false, not_false_eq_true, and_self, Int.reduceEq, Nat.reduceEqDiff, ↓reduceIte, mj_w_id2, e_56 h30, h0, mj_up_ne (show (29 : Nat) ≠ 30 by decide)]
  simp only [q_end, q_end1, q_end2, h0, if_false, mj_up_ne (show (29 : Nat) ≠ 30 by decide)]
  grind (splits := 40)
end sp43
