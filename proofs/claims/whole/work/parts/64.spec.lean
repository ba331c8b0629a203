section sp64
variable {x : Nat} {M : mj_M} {Q : Option mj_V → mj_G → mj_M → Prop} {d : Nat}
theorem q_tick_fr {a i : Nat} (h : 1 < a) (h2 : ¬ q_mut a i) : q_tick M a i = M a i := by
  have hh : q_ch M (q_tk2 (q_tk1 M) (q_tkR (q_tk1 M))) := q_ch_t q_tk1_c q_tk2_c
  have h7 := hh a i h2
  unfold q_tick
  rw [mj_up_ne (by omega)]
  exact h7
theorem q_tfS_o {s : Nat} {n : Int} (hs : 43 ≤ s) (h : ∀ i : Nat, i < 40 → M (s + 17) i ≤ n) : q_o n (q_tfS s 0 M) := by
  intro i hi
  have e : q_inS 17 i = true := by unfold q_inS q_regs q_inR; simp; omega
  rw [q_tfS_at (by omega), if_pos ⟨by omega, e⟩]
  exact h i hi
theorem q_inS_7 : q_inS 1 7 = true := by decide
theorem q_tfS_7 {s t : Nat} (hs : s + 43 ≤ t ∨ t + 43 ≤ s) : q_tfS s t M (t + 1) 7 = M (s + 1) 7 := by
  rw [q_tfS_at hs, if_pos ⟨by omega, by rw [show t + 1 - t = 1 by omega]; exact q_inS_7⟩]
  rw [show t + 1 - t = 1 by omega]
theorem q_tfS_17 {s t : Nat} {i : Nat} (hs : s + 43 ≤ t ∨ t + 43 ≤ s) (hi : i < 40) : q_tfS s t M (t + 17) i = M (s + 17) i := by
  have e : q_inS 17 i = true := by unfold q_inS q_regs q_inR; simp; omega
  rw [q_tfS_at hs, if_pos ⟨by omega, by rw [show t + 17 - t = 17 by omega]; exact e⟩]
  rw [show t + 17 - t = 17 by omega]
theorem q_tfS_up {s t b i : Nat} (hs : s + 43 ≤ t) (h : b < t) : q_tfS s t M b i = M b i := by
  rw [q_tfS_at (by omega), if_neg (by omega)]
theorem q_tfS_dn {s t b i : Nat} (hs : t + 43 ≤ s) (h : b < t ∨ t + 43 < b) : q_tfS s t M b i = M b i := by
  rw [q_tfS_at (by omega), if_neg]
  rintro ⟨h1, h2⟩
  rw [q_inS_big (by omega)] at h2
  simp at h2
/-- what a trial begins with -/
def q_tri (b c : Int) (M : mj_M) : Prop := q_wr M ∧ q_ws 86 M ∧ q_o b M ∧ (∀ i : Nat, i < 40 → M 103 i ≤ b) ∧ M 1 7 = c ∧ M 87 7 = c
theorem q_tri_beg {b : Int} (w : q_wr M) (h : q_o b M) : q_tri b (M 1 7) (q_tfS 0 86 M) := by
  refine ⟨q_tfS_wr2 (by omega) (by omega) w, q_tfS_ws (by omega) w, ?_, ?_, ?_, ?_⟩
  · intro i hi; rw [q_tfS_up (by omega) (by omega)]; exact h i hi
  · intro i hi
    have := q_tfS_17 (M := M) (s := 0) (t := 86) (i := i) (by omega) hi
    simp only [Nat.reduceAdd] at this
    rw [this]; exact h i hi
  · rw [q_tfS_up (by omega) (by omega)]
  · have := q_tfS_7 (M := M) (s := 0) (t := 86) (by omega)
    simpa using this
/-- taken back -/
theorem q_tri_end {b c : Int} {A : mj_M} (h : q_tri b c M) (w : q_wr A) (f : ∀ a i, 86 < a → a < 130 → A a i = M a i) : q_tri b c (q_tfS 86 0 A) := by
  obtain ⟨h1, h2, h3, h4, h5, h6⟩ := h
  have ws : q_ws 86 A := by
    intro a i hi
    have h0 : a ≠ 0 := by intro h0; rw [h0, q_inS_0] at hi; simp at hi
    have h43 : a ≤ 43 := by
      rcases Nat.lt_or_ge 43 a with g | g
      · rw [q_inS_big g] at hi; simp at hi
      · exact g
    rw [f (86 + a) i (by omega) (by omega)]
    exact h2 a i hi
  refine ⟨q_tfS_wr (by omega) w ws, ?_, ?_, ?_, ?_, ?_⟩
  · intro a i hi
    have h0 : a ≠ 0 := by intro h0; rw [h0, q_inS_0] at hi; simp at hi
    rw [q_tfS_dn (by omega) (by omega)]
    exact ws a i hi
  · apply q_tfS_o (by omega)
    intro i hi; rw [f _ _ (by omega) (by omega)]; exact h4 i hi
  · intro i hi; rw [q_tfS_dn (by omega) (by omega), f _ _ (by omega) (by omega)]; exact h4 i hi
  · have := q_tfS_7 (M := A) (s := 86) (t := 0) (by omega)
    simp only [Nat.reduceAdd, Nat.zero_add] at this
    rw [this, f _ _ (by omega) (by omega)]; exact h6
  · rw [q_tfS_dn (by omega) (by omega), f _ _ (by omega) (by omega)]; exact h6
/-- a tick in a trial -/
theorem q_tick_p {b c : Int} (w : q_wr M) (h : q_o b M) (hb : 0 ≤ b) (hl : b < 99999999) (h7 : M 1 7 = c) (hc : c < 9999) : q_wr (q_tick M) ∧ q_o (b + 1) (q_tick M) ∧ q_tick M 1 7 = c + 1 := by
  refine ⟨q_tick_w w h hl (by omega), q_o_tick w h hb hl, ?_⟩
  rw [q_tick_nowE w, h7]
def q_trM (r : Int) : Nat → mj_M → mj_M
  | 0, M => M
  | n + 1, M => if M 1 7 < 9999 ∧ q_rdy M r = 0 then q_trM r n (q_tick M) else M
def q_trN (r : Int) : Nat → mj_M → Nat → Int
  | 0, _, t => t
  | n + 1, M, t => if M 1 7 < 9999 ∧ q_rdy M r = 0 then q_trN r n (q_tick M) (t + 1) else t
def q_late (M : mj_M) (r : Int) : Int := let A := q_tfS 0 86 M
  if q_rdy (q_trM r 60 A) r = 1 then q_trN r 60 A 0 else -1
def q_lateM (M : mj_M) (r : Int) : mj_M := q_tfS 86 0 (q_trM r 60 (q_tfS 0 86 M))
theorem q_rdy_01 {r : Int} : q_rdy M r = 0 ∨ q_rdy M r = 1 := by unfold q_rdy; split <;> simp
theorem q_trM_w {r : Int} : ∀ (n : Nat) (b : Int) (M : mj_M), q_wr M → q_o b M → 0 ≤ b → b + n < 99999999 → q_wr (q_trM r n M) := by
  intro n
  induction n with
  | zero => intro b M w h _ _; exact w
  | succ n ih =>
    intro b M w h hb hl
    unfold q_trM
    split
    · rename_i hh
      obtain ⟨a1, a2, a3⟩ := q_tick_p w h hb (by omega) rfl hh.1
      exact ih (b + 1) _ a1 a2 (by omega) (by push_cast at hl; omega)
    · exact w
theorem q_trM_fr {r : Int} {a i : Nat} (h1 : 1 < a) (h2 : ¬ q_mut a i) : ∀ (n : Nat) (M : mj_M), q_trM r n M a i = M a i := by
  intro n
  induction n with
  | zero => intro M; rfl
  | succ n ih =>
    intro M
    unfold q_trM
    split
    · rw [ih, q_tick_fr h1 h2]
    · rfl
theorem l_124 {r : Int} (n : Nat) : ∀ (t : Nat) (b : Int) (M : mj_M) (v : mj_V), t + n = 60 → q_wr M → q_o b M → 0 ≤ b → b + n < 99999999 →
    mj_Rn (d + 7) 124 13 [.inr (.inl 134), .inl r, .inl (t : Int), v] [] (SGx x) M Q = Q (some (.inl (if q_rdy (q_trM r n M) r = 1 then q_trN r n M t else -1))) (SGx x) (q_tfS 86 0 (q_trM r n M)) := by
  induction n with
  | zero =>
    intro t b M v h w ho hb hl
    rw [i_124_13, q_trM, q_trN]
    rcases q_rdy_01 (M := M) (r := r) with hr | hr
    · simp (disch := omega) only [i_124_0, i_124_1, i_124_4, i_124_5, i_124_8, i_124_11, i_124_12, i_124_14, i_124_16, i_124_19, i_124_20, i_124_23, i_124_26, i_124_29, i_124_32, i_124_33, i_124_36, i_124_39, i_124_40, i_124_43, i_124_46, i_124_47, i_124_50, i_124_53, i_124_54, i_124_57, i_124_60, i_124_61, i_124_64, i_124_67, i_124_68, i_124_71, i_124_72, i_124_73, i_124_76, i_124_77, i_124_80, i_124_83, i_124_84, i_124_87, i_124_88, i_124_91, i_124_92, g_o134, g_r134_0, g_r134_1, g_r134_2, g_r134_3, g_t135, g_o87, g_r87_0, g_r87_1, g_r87_2, g_r87_3, g_r87_4, g_r87_5, g_o133, g_r133_0, g_r133_1, g_r133_2, g_r133_3, g_o1, g_r1_0, g_r1_1, g_r1_2, g_r1_3, g_r1_4, g_r1_5, g_a42, g_t42, g_a43, g_t43, g_o22, g_r22_0, g_r22_1, g_r22_2, g_r22_3, g_r22_4, g_r22_5, g_r22_6, g_r22_7, g_r22_8, g_r22_9, g_r22_10, g_r22_11, g_r22_12, g_a23, g_t23, g_a24, g_t24, g_a25, g_t25, g_a26, g_t26, g_a27, g_t27, g_a28, g_t28, g_a29, g_t29, g_a30, g_t30, g_a31, g_t31, g_a32, g_t32, g_a33, g_t33, g_a34, g_t34, g_a35, g_t35, exists_eq_left', Option.some.injEq, exists_eq_left, ne_eq, List.length_nil, List.length_cons, Option.toList_some, Option.toList_none, List.cons_append, List.nil_append, mj_wt_nil, mj_wt_i, mj_wt_r, mj_wt_l, true_and, and_true, false_and, and_false, true_implies, false_implies, implies_true, not_true_eq_false, not_false_eq_true, and_self, Int.reduceEq, Nat.reduceEqDiff, ↓reduceIte, mj_w_id2, e_96 w, hr, e_115_86_0]
      try grind
    · simp (disch := omega) only [i_124_0, i_124_1, i_124_4, i_124_5, i_124_8, i_124_11, i_124_12, i_124_14, i_124_16, i_124_19, i_124_20, i_124_23, i_124_26, i_124_29, i_124_32, i_124_33, i_124_36, i_124_39, i_124_40, i_124_43, i_124_46, i_124_47, i_124_50, i_124_53, i_124_54, i_124_57, i_124_60, i_124_61, i_124_64, i_124_67, i_124_68, i_124_71, i_124_72, i_124_73, i_124_76, i_124_77, i_124_80, i_124_83, i_124_84, i_124_87, i_124_88, i_124_91, i_124_92, g_o134, g_r134_0, g_r134_1, g_r134_2, g_r134_3, g_t135, g_o87, g_r87_0, g_r87_1, g_r87_2, g_r87_3, g_r87_4, g_r87_5, g_o133, g_r133_0, g_r133_1, g_r133_2, g_r133_3, g_o1, g_r1_0, g_r1_1, g_r1_2, g_r1_3, g_r1_4, g_r1_5, g_a42, g_t42, g_a43, g_t43, g_o22, g_r22_0, g_r22_1, g_r22_2, g_r22_3, g_r22_4, g_r22_5, g_r22_6, g_r22_7, g_r22_8, g_r22_9, g_r22_10, g_r22_11, g_r22_12, g_a23, g_t23, g_a24, g_t24, g_a25, g_t25, g_a26, g_t26, g_a27, g_t27, g_a28, g_t28, g_a29, g_t29, g_a30, g_t30, g_a31, g_t31, g_a32, g_t32, g_a33, g_t33, g_a34, g_t34, g_a35, g_t35, exists_eq_left', Option.some.injEq, exists_eq_left, ne_eq, List.length_nil, List.length_cons, Option.toList_some, Option.toList_none, List.cons_append, List.nil_append, mj_wt_nil, mj_wt_i, mj_wt_r, mj_wt_l, true_and, and_true, false_and, and_false, true_implies, false_implies, implies_true, not_true_eq_false, not_false_eq_true, and_self, Int.reduceEq, Nat.reduceEqDiff, ↓reduceIte, mj_w_id2, e_96 w, hr, e_115_86_0]
      try grind
  | succ n ih =>
    intro t b M v h w ho hb hl
    rw [i_124_13, q_trM, q_trN]
    rcases q_rdy_01 (M := M) (r := r) with hr | hr
    · by_cases h7 : M 1 7 < 9999
      · obtain ⟨a1, a2, a3⟩ := q_tick_p w ho hb (by omega) rfl h7
        have i1 := ih (t + 1) (b + 1) (q_tick M) v (by omega) a1 a2 (by omega) (by push_cast at hl; omega)
        have hn := q_few_tk1 ho (by omega)
        push_cast at i1
        clear ih
        simp (disch := omega) only [i_124_0, i_124_1, i_124_4, i_124_5, i_124_8, i_124_11, i_124_12, i_124_14, i_124_16, i_124_19, i_124_20, i_124_23, i_124_26, i_124_29, i_124_32, i_124_33, i_124_36, i_124_39, i_124_40, i_124_43, i_124_46, i_124_47, i_124_50, i_124_53, i_124_54, i_124_57, i_124_60, i_124_61, i_124_64, i_124_67, i_124_68, i_124_71, i_124_72, i_124_73, i_124_76, i_124_77, i_124_80, i_124_83, i_124_84, i_124_87, i_124_88, i_124_91, i_124_92, g_o134, g_r134_0, g_r134_1, g_r134_2, g_r134_3, g_t135, g_o87, g_r87_0, g_r87_1, g_r87_2, g_r87_3, g_r87_4, g_r87_5, g_o133, g_r133_0, g_r133_1, g_r133_2, g_r133_3, g_o1, g_r1_0, g_r1_1, g_r1_2, g_r1_3, g_r1_4, g_r1_5, g_a42, g_t42, g_a43, g_t43, g_o22, g_r22_0, g_r22_1, g_r22_2, g_r22_3, g_r22_4, g_r22_5, g_r22_6, g_r22_7, g_r22_8, g_r22_9, g_r22_10, g_r22_11, g_r22_12, g_a23, g_t23, g_a24, g_t24, g_a25, g_t25, g_a26, g_t26, g_a27, g_t27, g_a28, g_t28, g_a29, g_t29, g_a30, g_t30, g_a31, g_t31, g_a32, g_t32, g_a33, g_t33, g_a34, g_t34, g_a35, g_t35, exists_eq_left', Option.some.injEq, exists_eq_left, ne_eq, List.length_nil, List.length_cons, Option.toList_some, Option.toList_none, List.cons_append, List.nil_append, mj_wt_nil, mj_wt_i, mj_wt_r, mj_wt_l, true_and, and_true, false_and, and_false, true_implies, false_implies, implies_true, not_true_eq_false, not_false_eq_true, and_self, Int.reduceEq, Nat.reduceEqDiff, ↓reduceIte, mj_w_id2, e_96 w, hr, h7, e_93 w hn, i1, e_115_86_0]
        try grind [mj_w]
      · clear ih
        simp (disch := omega) only [i_124_0, i_124_1, i_124_4, i_124_5, i_124_8, i_124_11, i_124_12, i_124_14, i_124_16, i_124_19, i_124_20, i_124_23, i_124_26, i_124_29, i_124_32, i_124_33, i_124_36, i_124_39, i_124_40, i_124_43, i_124_46, i_124_47, i_124_50, i_124_53, i_124_54, i_124_57, i_124_60, i_124_61, i_124_64, i_124_67, i_124_68, i_124_71, i_124_72, i_124_73, i_124_76, i_124_77, i_124_80, i_124_83, i_124_84, i_124_87, i_124_88, i_124_91, i_124_92, g_o134, g_r134_0, g_r134_1, g_r134_2, g_r134_3, g_t135, g_o87, g_r87_0, g_r87_1, g_r87_2, g_r87_3, g_r87_4, g_r87_5, g_o133, g_r133_0, g_r133_1, g_r133_2, g_r133_3, g_o1, g_r1_0, g_r1_1, g_r1_2, g_r1_3, g_r1_4, g_r1_5, g_a42, g_t42, g_a43, g_t43, g_o22, g_r22_0, g_r22_1, g_r22_2, g_r22_3, g_r22_4, g_r22_5, g_r22_6, g_r22_7, g_r22_8, g_r22_9, g_r22_10, g_r22_11, g_r22_12, g_a23, g_t23, g_a24, g_t24, g_a25, g_t25, g_a26, g_t26, g_a27, g_t27, g_a28, g_t28, g_a29, g_t29, g_a30, g_t30, g_a31, g_t31, g_a32, g_t32, g_a33, g_t33, g_a34, g_t34, g_a35, g_t35, exists_eq_left', Option.some.injEq, exists_eq_left, ne_eq, List.length_nil, List.length_cons, Option.toList_some, Option.toList_none, List.cons_append, List.nil_append, mj_wt_nil, mj_wt_i, mj_wt_r, mj_wt_l, true_and, and_true, false_and, and_false, true_implies, false_implies, implies_true, not_true_eq_false, not_false_eq_true, and_self, Int.reduceEq, Nat.reduceEqDiff, ↓reduceIte, mj_w_id2, e_96 w, hr, h7, e_115_86_0]
        try grind [mj_w]
    · clear ih
      simp (disch := omega) only [i_124_0, i_124_1, i_124_4, i_124_5, i_124_8, i_124_11, i_124_12, i_124_14, i_124_16, i_124_19, i_124_20, i_124_23, i_124_26, i_124_29, i_124_32, i_124_33, i_124_36, i_124_39, i_124_40, i_124_43, i_124_46, i_124_47, i_124_50, i_124_53, i_124_54, i_124_57, i_124_60, i_124_61, i_124_64, i_124_67, i_124_68, i_124_71, i_124_72, i_124_73, i_124_76, i_124_77, i_124_80, i_124_83, i_124_84, i_124_87, i_124_88, i_124_91, i_124_92, g_o134, g_r134_0, g_r134_1, g_r134_2, g_r134_3, g_t135, g_o87, g_r87_0, g_r87_1, g_r87_2, g_r87_3, g_r87_4, g_r87_5, g_o133, g_r133_0, g_r133_1, g_r133_2, g_r133_3, g_o1, g_r1_0, g_r1_1, g_r1_2, g_r1_3, g_r1_4, g_r1_5, g_a42, g_t42, g_a43, g_t43, g_o22, g_r22_0, g_r22_1, g_r22_2, g_r22_3, g_r22_4, g_r22_5, g_r22_6, g_r22_7, g_r22_8, g_r22_9, g_r22_10, g_r22_11, g_r22_12, g_a23, g_t23, g_a24, g_t24, g_a25, g_t25, g_a26, g_t26, g_a27, g_t27, g_a28, g_t28, g_a29, g_t29, g_a30, g_t30, g_a31, g_t31, g_a32, g_t32, g_a33, g_t33, g_a34, g_t34, g_a35, g_t35, exists_eq_left', Option.some.injEq, exists_eq_left, ne_eq, List.length_nil, List.length_cons, Option.toList_some, Option.toList_none, List.cons_append, List.nil_append, mj_wt_nil, mj_wt_i, mj_wt_r, mj_wt_l, true_and, and_true, false_and, and_false, true_implies, false_implies, implies_true, not_true_eq_false, not_false_eq_true, and_self, Int.reduceEq, Nat.reduceEqDiff, ↓reduceIte, mj_w_id2, e_96 w, hr, e_115_86_0]
      try grind [mj_w]
theorem e_124 {r b : Int} (w : q_wr M) (ho : q_o b M) (hb : 0 ≤ b) (hl : b + 60 < 99999999) : mj_Rn (d + 7) 124 0 [.inr (.inl 134), .inl r, .inr (.inr 0), .inr (.inr 0)] [] (SGx x) M Q = Q (some (.inl (q_late M r))) (SGx x) (q_lateM M r) := by
  have ht := q_tri_beg w ho
  have h := l_124 (d := d) (x := x) (Q := Q) (r := r) 60 0 b (q_tfS 0 86 M) (.inr (.inr 0)) rfl ht.1 ht.2.2.1 hb (by omega)
  push_cast at h
  unfold q_late q_lateM
  simp (disch := omega) only [i_124_0, i_124_1, i_124_4, i_124_5, i_124_8, i_124_11, i_124_12, i_124_14, i_124_16, i_124_19, i_124_20, i_124_23, i_124_26, i_124_29, i_124_32, i_124_33, i_124_36, i_124_39, i_124_40, i_124_43, i_124_46, i_124_47, i_124_50, i_124_53, i_124_54, i_124_57, i_124_60, i_124_61, i_124_64, i_124_67, i_124_68, i_124_71, i_124_72, i_124_73, i_124_76, i_124_77, i_124_80, i_124_83, i_124_84, i_124_87, i_124_88, i_124_91, i_124_92, g_o134, g_r134_0, g_r134_1, g_r134_2, g_r134_3, g_t135, g_o87, g_r87_0, g_r87_1, g_r87_2, g_r87_3, g_r87_4, g_r87_5, g_o133, g_r133_0, g_r133_1, g_r133_2, g_r133_3, g_o1, g_r1_0, g_r1_1, g_r1_2, g_r1_3, g_r1_4, g_r1_5, g_a42, g_t42, g_a43, g_t43, g_o22, g_r22_0, g_r22_1, g_r22_2, g_r22_3, g_r22_4, g_r22_5, g_r22_6, g_r22_7, g_r22_8, g_r22_9, g_r22_10, g_r22_11, g_r22_12, g_a23, g_t23, g_a24, g_t24, g_a25, g_t25, g_a26, g_t26, g_a27, g_t27, g_a28, g_t28, g_a29, g_t29, g_a30, g_t30, g_a31, g_t31, g_a32, g_t32, g_a33, g_t33, g_a34, g_t34, g_a35, g_t35, exists_eq_left', Option.some.injEq, exists_eq_left, ne_eq, List.length_nil, List.length_cons, Option.toList_some, Option.toList_none, List.cons_append, List.nil_append, mj_wt_nil, mj_wt_i, mj_wt_r, mj_wt_l, true_and, and_true, false_and, and_false, true_implies, false_implies, implies_true, not_true_eq_false, not_false_eq_true, and_self, Int.reduceEq, Nat.reduceEqDiff, ↓reduceIte, mj_w_id2, e_115_0_86]
  first
    | exact h
    | simpa using h
    | grind
def q_fuM : Nat → Nat → mj_M → mj_M
  | 0, _, M => M
  | n + 1, i, M => if q_tickR M = q_tick M 169 i then q_fuM n (i + 1) (q_tick M) else q_tick M
def q_fuR : Nat → Nat → mj_M → Int
  | 0, _, _ => -1
  | n + 1, i, M => if q_tickR M = q_tick M 169 i then q_fuR n (i + 1) (q_tick M) else i
theorem q_fuM_w : ∀ (n i : Nat) (b c : Int) (M : mj_M), q_wr M → q_o b M → 0 ≤ b → b + n < 99999999 → M 1 7 = c → c + n ≤ 9999 → q_wr (q_fuM n i M) := by
  intro n
  induction n with
  | zero => intro i b c M w _ _ _ _ _; exact w
  | succ n ih =>
    intro i b c M w h hb hl h7 hc
    push_cast at hl hc
    obtain ⟨a1, a2, a3⟩ := q_tick_p w h hb (by omega) h7 (by omega)
    unfold q_fuM
    split
    · exact ih (i + 1) (b + 1) (c + 1) _ a1 a2 (by omega) (by omega) a3 (by omega)
    · exact a1
theorem q_fuM_fr {a i : Nat} (h1 : 1 < a) (h2 : ¬ q_mut a i) : ∀ (n k : Nat) (M : mj_M), q_fuM n k M a i = M a i := by
  intro n
  induction n with
  | zero => intro k M; rfl
  | succ n ih =>
    intro k M
    unfold q_fuM
    split
    · rw [ih, q_tick_fr h1 h2]
    · rw [q_tick_fr h1 h2]
theorem l_126 {sz : Nat} (hs : sz ≤ 60) (n : Nat) : ∀ (i : Nat) (b c : Int) (M : mj_M), i + n = sz → q_wr M → q_o b M → 0 ≤ b → b + n < 99999999 → M 1 7 = c → c + n ≤ 9999 →
    mj_Rn (d + 7) 126 16 [.inr (.inl 134), .inr (.inl 169), .inl (sz : Int), .inl (-1), .inl (i : Int)] [] (SGx x) M Q = Q (some (.inl (q_fuR n i M))) (SGx x) (q_tfS 86 0 (q_fuM n i M)) := by
  induction n with
  | zero =>
    intro i b c M h w ho hb hl h7 hc
    rw [i_126_16, q_fuM, q_fuR]
    simp (disch := omega) only [i_126_0, i_126_1, i_126_4, i_126_5, i_126_8, i_126_11, i_126_12, i_126_13, i_126_14, i_126_18, i_126_19, i_126_22, i_126_23, i_126_24, i_126_27, i_126_28, i_126_31, i_126_34, i_126_35, i_126_37, i_126_38, i_126_41, i_126_43, i_126_44, i_126_47, i_126_50, i_126_51, i_126_54, i_126_55, i_126_58, i_126_61, i_126_62, g_o134, g_r134_0, g_r134_1, g_r134_2, g_r134_3, g_t135, g_o87, g_r87_0, g_r87_1, g_r87_2, g_r87_3, g_r87_4, g_r87_5, g_o133, g_r133_0, g_r133_1, g_r133_2, g_r133_3, g_o1, g_r1_0, g_r1_1, g_r1_2, g_r1_3, g_r1_4, g_r1_5, g_a42, g_t42, g_a43, g_t43, g_o22, g_r22_0, g_r22_1, g_r22_2, g_r22_3, g_r22_4, g_r22_5, g_r22_6, g_r22_7, g_r22_8, g_r22_9, g_r22_10, g_r22_11, g_r22_12, g_a23, g_t23, g_a24, g_t24, g_a25, g_t25, g_a26, g_t26, g_a27, g_t27, g_a28, g_t28, g_a29, g_t29, g_a30, g_t30, g_a31, g_t31, g_a32, g_t32, g_a33, g_t33, g_a34, g_t34, g_a35, g_t35, g_a169, g_t169, exists_eq_left', Option.some.injEq, exists_eq_left, ne_eq, List.length_nil, List.length_cons, Option.toList_some, Option.toList_none, List.cons_append, List.nil_append, mj_wt_nil, mj_wt_i, mj_wt_r, mj_wt_l, true_and, and_true, false_and, and_false, true_implies, false_implies, implies_true, not_true_eq_false, not_false_eq_true, and_self, Int.reduceEq, Nat.reduceEqDiff, ↓reduceIte, mj_w_id2, e_115_86_0, Int.toNat_natCast]
    try grind
  | succ n ih =>
    intro i b c M h w ho hb hl h7 hc
    push_cast at hl hc
    obtain ⟨a1, a2, a3⟩ := q_tick_p w ho hb (by omega) h7 (by omega)
    have i1 := ih (i + 1) (b + 1) (c + 1) (q_tick M) (by omega) a1 a2 (by omega) (by omega) a3 (by omega)
    have hn := q_few_tk1 ho (by omega)
    push_cast at i1
    clear ih
    rw [i_126_16, q_fuM, q_fuR]
    by_cases he : q_tickR M = q_tick M 169 i
    · simp (disch := omega) only [i_126_0, i_126_1, i_126_4, i_126_5, i_126_8, i_126_11, i_126_12, i_126_13, i_126_14, i_126_18, i_126_19, i_126_22, i_126_23, i_126_24, i_126_27, i_126_28, i_126_31, i_126_34, i_126_35, i_126_37, i_126_38, i_126_41, i_126_43, i_126_44, i_126_47, i_126_50, i_126_51, i_126_54, i_126_55, i_126_58, i_126_61, i_126_62, g_o134, g_r134_0, g_r134_1, g_r134_2, g_r134_3, g_t135, g_o87, g_r87_0, g_r87_1, g_r87_2, g_r87_3, g_r87_4, g_r87_5, g_o133, g_r133_0, g_r133_1, g_r133_2, g_r133_3, g_o1, g_r1_0, g_r1_1, g_r1_2, g_r1_3, g_r1_4, g_r1_5, g_a42, g_t42, g_a43, g_t43, g_o22, g_r22_0, g_r22_1, g_r22_2, g_r22_3, g_r22_4, g_r22_5, g_r22_6, g_r22_7, g_r22_8, g_r22_9, g_r22_10, g_r22_11, g_r22_12, g_a23, g_t23, g_a24, g_t24, g_a25, g_t25, g_a26, g_t26, g_a27, g_t27, g_a28, g_t28, g_a29, g_t29, g_a30, g_t30, g_a31, g_t31, g_a32, g_t32, g_a33, g_t33, g_a34, g_t34, g_a35, g_t35, g_a169, g_t169, exists_eq_left', Option.some.injEq, exists_eq_left, ne_eq, List.length_nil, List.length_cons, Option.toList_some, Option.toList_none, List.cons_append, List.nil_append, mj_wt_nil, mj_wt_i, mj_wt_r, mj_wt_l, true_and, and_true, false_and, and_false, true_implies, false_implies, implies_true, not_true_eq_false, not_false_eq_true, and_self, Int.reduceEq, Nat.reduceEqDiff, ↓reduceIte, mj_w_id2, e_93 w hn, i1, he, Int.toNat_natCast, e_115_86_0]
      try grind [mj_w]
    · simp (disch := omega) only [i_126_0, i_126_1, i_126_4, i_126_5, i_126_8, i_126_11, i_126_12, i_126_13, i_126_14, i_126_18, i_126_19, i_126_22, i_126_23, i_126_24, i_126_27, i_126_28, i_126_31, i_126_34, i_126_35, i_126_37, i_126_38, i_126_41, i_126_43, i_126_44, i_126_47, i_126_50, i_126_51, i_126_54, i_126_55, i_126_58, i_126_61, i_126_62, g_o134, g_r134_0, g_r134_1, g_r134_2, g_r134_3, g_t135, g_o87, g_r87_0, g_r87_1, g_r87_2, g_r87_3, g_r87_4, g_r87_5, g_o133, g_r133_0, g_r133_1, g_r133_2, g_r133_3, g_o1, g_r1_0, g_r1_1, g_r1_2, g_r1_3, g_r1_4, g_r1_5, g_a42, g_t42, g_a43, g_t43, g_o22, g_r22_0, g_r22_1, g_r22_2, g_r22_3, g_r22_4, g_r22_5, g_r22_6, g_r22_7, g_r22_8, g_r22_9, g_r22_10, g_r22_11, g_r22_12, g_a23, g_t23, g_a24, g_t24, g_a25, g_t25, g_a26, g_t26, g_a27, g_t27, g_a28, g_t28, g_a29, g_t29, g_a30, g_t30, g_a31, g_t31, g_a32, g_t32, g_a33, g_t33, g_a34, g_t34, g_a35, g_t35, g_a169, g_t169, exists_eq_left', Option.some.injEq, exists_eq_left, ne_eq, List.length_nil, List.length_cons, Option.toList_some, Option.toList_none, List.cons_append, List.nil_append, mj_wt_nil, mj_wt_i, mj_wt_r, mj_wt_l, true_and, and_true, false_and, and_false, true_implies, false_implies, implies_true, not_true_eq_false, not_false_eq_true, and_self, Int.reduceEq, Nat.reduceEqDiff, ↓reduceIte, mj_w_id2, e_93 w hn, he, Int.toNat_natCast, e_115_86_0]
      rw [i_126_16]
      simp (disch := omega) only [i_126_0, i_126_1, i_126_4, i_126_5, i_126_8, i_126_11, i_126_12, i_126_13, i_126_14, i_126_18, i_126_19, i_126_22, i_126_23, i_126_24, i_126_27, i_126_28, i_126_31, i_126_34, i_126_35, i_126_37, i_126_38, i_126_41, i_126_43, i_126_44, i_126_47, i_126_50, i_126_51, i_126_54, i_126_55, i_126_58, i_126_61, i_126_62, g_o134, g_r134_0, g_r134_1, g_r134_2, g_r134_3, g_t135, g_o87, g_r87_0, g_r87_1, g_r87_2, g_r87_3, g_r87_4, g_r87_5, g_o133, g_r133_0, g_r133_1, g_r133_2, g_r133_3, g_o1, g_r1_0, g_r1_1, g_r1_2, g_r1_3, g_r1_4, g_r1_5, g_a42, g_t42, g_a43, g_t43, g_o22, g_r22_0, g_r22_1, g_r22_2, g_r22_3, g_r22_4, g_r22_5, g_r22_6, g_r22_7, g_r22_8, g_r22_9, g_r22_10, g_r22_11, g_r22_12, g_a23, g_t23, g_a24, g_t24, g_a25, g_t25, g_a26, g_t26, g_a27, g_t27, g_a28, g_t28, g_a29, g_t29, g_a30, g_t30, g_a31, g_t31, g_a32, g_t32, g_a33, g_t33, g_a34, g_t34, g_a35, g_t35, g_a169, g_t169, exists_eq_left', Option.some.injEq, exists_eq_left, ne_eq, List.length_nil, List.length_cons, Option.toList_some, Option.toList_none, List.cons_append, List.nil_append, mj_wt_nil, mj_wt_i, mj_wt_r, mj_wt_l, true_and, and_true, false_and, and_false, true_implies, false_implies, implies_true, not_true_eq_false, not_false_eq_true, and_self, Int.reduceEq, Nat.reduceEqDiff, ↓reduceIte, mj_w_id2, e_93 w hn, he, Int.toNat_natCast, e_115_86_0]
      try grind [mj_w]
def q_judge (M : mj_M) (n : Nat) : Int := q_fuR n 0 (q_tfS 0 86 M)
def q_judgeM (M : mj_M) (n : Nat) : mj_M := q_tfS 86 0 (q_fuM n 0 (q_tfS 0 86 M))
theorem e_126 {b : Int} {sz : Nat} (hs : sz ≤ 60) (w : q_wr M) (ho : q_o b M) (hb : 0 ≤ b) (hl : b + 60 < 99999999) (hc : M 1 7 + sz ≤ 9999) : mj_Rn (d + 7) 126 0 [.inr (.inl 134), .inr (.inl 169), .inl (sz : Int), .inr (.inr 0), .inr (.inr 0)] [] (SGx x) M Q = Q (some (.inl (q_judge M sz))) (SGx x) (q_judgeM M sz) := by
  have ht := q_tri_beg w ho
  have h := l_126 (d := d) (x := x) (Q := Q) hs sz 0 b (M 1 7) (q_tfS 0 86 M) (by omega) ht.1 ht.2.2.1 hb (by omega) ht.2.2.2.2.1 hc
  push_cast at h
  unfold q_judge q_judgeM
  simp (disch := omega) only [i_126_0, i_126_1, i_126_4, i_126_5, i_126_8, i_126_11, i_126_12, i_126_13, i_126_14, i_126_18, i_126_19, i_126_22, i_126_23, i_126_24, i_126_27, i_126_28, i_126_31, i_126_34, i_126_35, i_126_37, i_126_38, i_126_41, i_126_43, i_126_44, i_126_47, i_126_50, i_126_51, i_126_54, i_126_55, i_126_58, i_126_61, i_126_62, g_o134, g_r134_0, g_r134_1, g_r134_2, g_r134_3, g_t135, g_o87, g_r87_0, g_r87_1, g_r87_2, g_r87_3, g_r87_4, g_r87_5, g_o133, g_r133_0, g_r133_1, g_r133_2, g_r133_3, g_o1, g_r1_0, g_r1_1, g_r1_2, g_r1_3, g_r1_4, g_r1_5, g_a42, g_t42, g_a43, g_t43, g_o22, g_r22_0, g_r22_1, g_r22_2, g_r22_3, g_r22_4, g_r22_5, g_r22_6, g_r22_7, g_r22_8, g_r22_9, g_r22_10, g_r22_11, g_r22_12, g_a23, g_t23, g_a24, g_t24, g_a25, g_t25, g_a26, g_t26, g_a27, g_t27, g_a28, g_t28, g_a29, g_t29, g_a30, g_t30, g_a31, g_t31, g_a32, g_t32, g_a33, g_t33, g_a34, g_t34, g_a35, g_t35, g_a169, g_t169, exists_eq_left', Option.some.injEq, exists_eq_left, ne_eq, List.length_nil, List.length_cons, Option.toList_some, Option.toList_none, List.cons_append, List.nil_append, mj_wt_nil, mj_wt_i, mj_wt_r, mj_wt_l, true_and, and_true, false_and, and_false, true_implies, false_implies, implies_true, not_true_eq_false, not_false_eq_true, and_self, Int.reduceEq, Nat.reduceEqDiff, ↓reduceIte, mj_w_id2, e_115_0_86]
  first
    | exact h
    | simpa using h
    | grind
end sp64
