section sp65
variable {x : Nat} {M : mj_M} {Q : Option mj_V → mj_G → mj_M → Prop} {d : Nat}
def f_gi (u : Int) (j i : Nat) (M : mj_M) : mj_M := q_nt (q_tick M) u j (3 * (i : Int))
def f_go (f u rl : Int) (n j : Nat) (M : mj_M) : mj_M := q_tfS 86 0 (q_for (f_gi u j) n 0 (mj_up (mj_up M 1 9 rl) 26 f.toNat (j : Int)))
theorem q_nt_at {u : Int} {j : Nat} {a : Int} {b i : Nat} (h : b < 136) : q_nt M u j a b i = M b i := by
  unfold q_nt
  rw [mj_up_ne (by omega), mj_up_ne (by omega), mj_up_ne (by omega)]
theorem q_nt_w {u : Int} {j : Nat} {a : Int} (w : q_wr M) : q_wr (q_nt M u j a) := by
  apply q_okv_wr
  intro b i
  by_cases h : b < 136
  · rw [q_nt_at h]; exact q_wr_okv w b i
  · unfold q_okv; omega
theorem q_nt_o {u : Int} {j : Nat} {a n : Int} (h : q_o n M) : q_o n (q_nt M u j a) := by
  intro i hi; rw [q_nt_at (by omega)]; exact h i hi
theorem f_gi_fr {u : Int} {j i a e : Nat} (h1 : 1 < a) (h2 : ¬ q_mut a e) (h3 : a < 136) : f_gi u j i M a e = M a e := by
  unfold f_gi; rw [q_nt_at h3, q_tick_fr h1 h2]
theorem f_gi_frs {u : Int} {j a e : Nat} (h1 : 1 < a) (h2 : ¬ q_mut a e) (h3 : a < 136) : ∀ (n t : Nat) (M : mj_M), q_for (f_gi u j) n t M a e = M a e := by
  intro n
  induction n with
  | zero => intro t M; rfl
  | succ n ih => intro t M; rw [q_for, ih, f_gi_fr h1 h2 h3]
/-- in a trial -/
def q_trp (b c : Int) (t : Nat) (M : mj_M) : Prop := q_wr M ∧ q_o (b + t) M ∧ M 1 7 = c + t
theorem q_trp_s {b c u : Int} {j t : Nat} (h : q_trp b c t M) (hb : 0 ≤ b) (hl : b + t < 99999999) (hc : c + t < 9999) : q_trp b c (t + 1) (f_gi u j t M) := by
  obtain ⟨h1, h2, h3⟩ := h
  obtain ⟨a1, a2, a3⟩ := q_tick_p h1 h2 (by omega) hl h3 hc
  refine ⟨q_nt_w a1, ?_, ?_⟩
  · push_cast; rw [← Int.add_assoc]; exact q_nt_o a2
  · unfold f_gi; rw [q_nt_at (by omega), a3]; push_cast; omega
theorem q_trp_for {b c u : Int} {j n : Nat} (hb : 0 ≤ b) (hl : b + n < 99999999) (hc : c + n ≤ 9999) (h : q_trp b c 0 M) : q_trp b c n (q_for (f_gi u j) n 0 M) :=
  q_for_inv (N := n) (P := fun t M => q_trp b c t M) (fun t M ht h => q_trp_s h hb (by omega) (by omega)) n 0 M (by omega) h
theorem l_114i {f u rl b c : Int} {k n j : Nat} (hu : 0 ≤ u ∧ u < 8) (hj : j < 16) (hn : n ≤ 60) (hb : 0 ≤ b) (hl : b + n < 99999999) (hc : c + n ≤ 9999) :
    ∀ (m t : Nat) (M : mj_M), t + m = n → q_trp b c t M → mj_Rn (d + 7) 114 46 [.inr (.inl 134), .inl f, .inl u, .inl rl, .inl (k : Int), .inl (n : Int), .inl (j : Int), .inl (t : Int)] [] (SGx x) M Q = mj_Rn (d + 7) 114 83 [.inr (.inl 134), .inl f, .inl u, .inl rl, .inl (k : Int), .inl (n : Int), .inl (j : Int), .inl (n : Int)] [] (SGx x) (q_for (f_gi u j) m t M) Q := by
  refine q_for_rule (N := n) (F := f_gi u j) (P := fun t M => q_trp b c t M) (H := fun t M => mj_Rn (d + 7) 114 46 [.inr (.inl 134), .inl f, .inl u, .inl rl, .inl (k : Int), .inl (n : Int), .inl (j : Int), .inl (t : Int)] [] (SGx x) M Q) (E := fun M => mj_Rn (d + 7) 114 83 [.inr (.inl 134), .inl f, .inl u, .inl rl, .inl (k : Int), .inl (n : Int), .inl (j : Int), .inl (n : Int)] [] (SGx x) M Q) ?_ ?_
  · intro t M ht hP
    refine ⟨q_trp_s hP hb (by omega) (by omega), ?_⟩
    have h1t : ((t + 1 : Nat) : Int) = (t : Int) + 1 := by push_cast; rfl
    have w := hP.1
    have hq := q_few_tk1 hP.2.1 (by omega)
    have h120 := e_120 (d := d + 3) (x := x) (Q := fun r G' M' => mj_Rn (d + 7) 114 77 [.inr (.inl 134), .inl f, .inl u, .inl rl, .inl (k : Int), .inl (n : Int), .inl (j : Int), .inl (t : Int)] (r.toList ++ []) G' M' Q) (M := q_tick M) (u := u) (a := 3 * (t : Int)) (j := j) hu hj (by omega)
    have s2 := g_seen (x := x) (j := (j : Int)) (by omega)
    have ef : q_nt (q_tick M) u j (3 * (t : Int)) = f_gi u j t M := rfl
    simp only [Int.toNat_natCast] at s2
    simp only [h1t]
    rw [i_114_46]
    simp (disch := omega) only [i_114_0, i_114_1, i_114_4, i_114_5, i_114_8, i_114_11, i_114_12, i_114_16, i_114_18, i_114_21, i_114_22, i_114_25, i_114_26, i_114_29, i_114_30, i_114_33, i_114_36, i_114_39, i_114_40, i_114_42, i_114_43, i_114_44, i_114_48, i_114_50, i_114_53, i_114_54, i_114_57, i_114_60, i_114_61, i_114_62, i_114_63, i_114_64, i_114_67, i_114_69, i_114_70, i_114_71, i_114_73, i_114_74, i_114_77, i_114_80, i_114_84, i_114_87, i_114_88, i_114_91, i_114_94, i_114_97, i_114_100, i_114_101, i_114_103, i_114_104, i_114_108, i_114_110, i_114_113, i_114_115, i_114_116, i_114_118, i_114_119, i_114_121, i_114_122, i_114_125, i_114_128, i_114_129, i_114_132, i_114_133, i_114_134, i_114_136, i_114_139, i_114_142, i_114_144, g_o134, g_r134_0, g_r134_1, g_r134_2, g_r134_3, g_t135, g_o87, g_r87_0, g_r87_1, g_r87_2, g_r87_3, g_r87_4, g_r87_5, g_o133, g_r133_0, g_r133_1, g_r133_2, g_r133_3, g_o1, g_r1_0, g_r1_1, g_r1_2, g_r1_3, g_r1_4, g_r1_5, g_a42, g_t42, g_a43, g_t43, g_o22, g_r22_0, g_r22_1, g_r22_2, g_r22_3, g_r22_4, g_r22_5, g_r22_6, g_r22_7, g_r22_8, g_r22_9, g_r22_10, g_r22_11, g_r22_12, g_a23, g_t23, g_a24, g_t24, g_a25, g_t25, g_a26, g_t26, g_a27, g_t27, g_a28, g_t28, g_a29, g_t29, g_a30, g_t30, g_a31, g_t31, g_a32, g_t32, g_a33, g_t33, g_a34, g_t34, g_a35, g_t35, exists_eq_left', Option.some.injEq, exists_eq_left, ne_eq, List.length_nil, List.length_cons, Option.toList_some, Option.toList_none, List.cons_append, List.nil_append, mj_wt_nil, mj_wt_i, mj_wt_r, mj_wt_l, true_and, and_true, false_and, and_false, true_implies, false_implies, implies_true, not_true_eq_false, not_false_eq_true, and_self, Int.reduceEq, Nat.reduceEqDiff, ↓reduceIte, mj_w_id2, e_93 w hq, e_120 hu hj, s2, ef, Int.toNat_natCast]
    try grind [mj_w]
  · intro M hP
    rw [i_114_46]
    simp (disch := omega) only [i_114_0, i_114_1, i_114_4, i_114_5, i_114_8, i_114_11, i_114_12, i_114_16, i_114_18, i_114_21, i_114_22, i_114_25, i_114_26, i_114_29, i_114_30, i_114_33, i_114_36, i_114_39, i_114_40, i_114_42, i_114_43, i_114_44, i_114_48, i_114_50, i_114_53, i_114_54, i_114_57, i_114_60, i_114_61, i_114_62, i_114_63, i_114_64, i_114_67, i_114_69, i_114_70, i_114_71, i_114_73, i_114_74, i_114_77, i_114_80, i_114_84, i_114_87, i_114_88, i_114_91, i_114_94, i_114_97, i_114_100, i_114_101, i_114_103, i_114_104, i_114_108, i_114_110, i_114_113, i_114_115, i_114_116, i_114_118, i_114_119, i_114_121, i_114_122, i_114_125, i_114_128, i_114_129, i_114_132, i_114_133, i_114_134, i_114_136, i_114_139, i_114_142, i_114_144, g_o134, g_r134_0, g_r134_1, g_r134_2, g_r134_3, g_t135, g_o87, g_r87_0, g_r87_1, g_r87_2, g_r87_3, g_r87_4, g_r87_5, g_o133, g_r133_0, g_r133_1, g_r133_2, g_r133_3, g_o1, g_r1_0, g_r1_1, g_r1_2, g_r1_3, g_r1_4, g_r1_5, g_a42, g_t42, g_a43, g_t43, g_o22, g_r22_0, g_r22_1, g_r22_2, g_r22_3, g_r22_4, g_r22_5, g_r22_6, g_r22_7, g_r22_8, g_r22_9, g_r22_10, g_r22_11, g_r22_12, g_a23, g_t23, g_a24, g_t24, g_a25, g_t25, g_a26, g_t26, g_a27, g_t27, g_a28, g_t28, g_a29, g_t29, g_a30, g_t30, g_a31, g_t31, g_a32, g_t32, g_a33, g_t33, g_a34, g_t34, g_a35, g_t35, exists_eq_left', Option.some.injEq, exists_eq_left, ne_eq, List.length_nil, List.length_cons, Option.toList_some, Option.toList_none, List.cons_append, List.nil_append, mj_wt_nil, mj_wt_i, mj_wt_r, mj_wt_l, true_and, and_true, false_and, and_false, true_implies, false_implies, implies_true, not_true_eq_false, not_false_eq_true, and_self, Int.reduceEq, Nat.reduceEqDiff, ↓reduceIte, mj_w_id2]
    try grind
theorem f_go_t {f u rl b c : Int} {n j : Nat} (hb : 0 ≤ b) (hl : b + n < 99999999) (hc : c + n ≤ 9999) (h : q_tri b c M) : q_tri b c (f_go f u rl n j M) := by
  have h2 := h
  obtain ⟨h1, _, h3, _, h5, _⟩ := h2
  have hp : q_trp b c 0 (mj_up (mj_up M 1 9 rl) 26 f.toNat (j : Int)) := by
    refine ⟨q_wr_up (q_wr_up h1 (by simp [q_okv])) (by simp [q_okv]), ?_, ?_⟩
    · intro i hi; rw [mj_up_ne (by omega), mj_up_ne (by omega)]; have := h3 i hi; simpa using this
    · rw [mj_up_ne (by omega)]; simpa [mj_up] using h5
  have hp2 := q_trp_for (u := u) (j := j) hb hl hc hp
  refine q_tri_end h hp2.1 ?_
  intro a i h1 h2
  rw [f_gi_frs (by omega) (by unfold q_mut; omega) (by omega), mj_up_ne (by omega), mj_up_ne (by omega)]
theorem l_114o {f u rl b c : Int} {k n : Nat} (hf : 0 ≤ f ∧ f < 8) (hu : 0 ≤ u ∧ u < 8) (hk : k ≤ 16) (hn : n ≤ 60) (hb : 0 ≤ b) (hl : b + n < 99999999) (hc : c + n ≤ 9999) :
    ∀ (m t : Nat) (v : mj_V) (M : mj_M), t + m = k → q_tri b c M → mj_Rn (d + 7) 114 14 [.inr (.inl 134), .inl f, .inl u, .inl rl, .inl (k : Int), .inl (n : Int), .inl (t : Int), v] [] (SGx x) M Q = mj_Rn (d + 7) 114 106 [.inr (.inl 134), .inl f, .inl u, .inl rl, .inl (k : Int), .inl (n : Int), .inl 0, .inl 0] [] (SGx x) (q_for (f_go f u rl n) m t M) Q := by
  refine q_for_ruleV (N := k) (F := f_go f u rl n) (P := fun t M => q_tri b c M) (H := fun v t M => mj_Rn (d + 7) 114 14 [.inr (.inl 134), .inl f, .inl u, .inl rl, .inl (k : Int), .inl (n : Int), .inl (t : Int), v] [] (SGx x) M Q) (E := fun M => mj_Rn (d + 7) 114 106 [.inr (.inl 134), .inl f, .inl u, .inl rl, .inl (k : Int), .inl (n : Int), .inl 0, .inl 0] [] (SGx x) M Q) ?_ ?_
  · intro v t M ht hP
    refine ⟨f_go_t hb hl hc hP, .inl (n : Int), ?_⟩
    have h1t : ((t + 1 : Nat) : Int) = (t : Int) + 1 := by push_cast; rfl
    have h1 := hP.1
    have h3 := hP.2.2.1
    have h5 := hP.2.2.2.2.1
    have hp : q_trp b c 0 (mj_up (mj_up M 1 9 rl) 26 f.toNat (t : Int)) := by
      refine ⟨q_wr_up (q_wr_up h1 (by simp [q_okv])) (by simp [q_okv]), ?_, ?_⟩
      · intro i hi; rw [mj_up_ne (by omega), mj_up_ne (by omega)]; have := h3 i hi; simpa using this
      · rw [mj_up_ne (by omega)]; simpa [mj_up] using h5
    have hli := l_114i (d := d) (x := x) (Q := Q) (f := f) (rl := rl) (k := k) (j := t) hu (by omega) hn hb hl hc n 0 (mj_up (mj_up M 1 9 rl) 26 f.toNat (t : Int)) (by omega) hp
    have ef : q_tfS 86 0 (q_for (f_gi u t) n 0 (mj_up (mj_up M 1 9 rl) 26 f.toNat (t : Int))) = f_go f u rl n t M := rfl
    push_cast at hli
    simp only [h1t]
    rw [i_114_14]
    simp (disch := omega) only [i_114_0, i_114_1, i_114_4, i_114_5, i_114_8, i_114_11, i_114_12, i_114_16, i_114_18, i_114_21, i_114_22, i_114_25, i_114_26, i_114_29, i_114_30, i_114_33, i_114_36, i_114_39, i_114_40, i_114_42, i_114_43, i_114_44, i_114_48, i_114_50, i_114_53, i_114_54, i_114_57, i_114_60, i_114_61, i_114_62, i_114_63, i_114_64, i_114_67, i_114_69, i_114_70, i_114_71, i_114_73, i_114_74, i_114_77, i_114_80, i_114_83, i_114_84, i_114_87, i_114_88, i_114_91, i_114_94, i_114_97, i_114_100, i_114_101, i_114_103, i_114_104, i_114_108, i_114_110, i_114_113, i_114_115, i_114_116, i_114_118, i_114_119, i_114_121, i_114_122, i_114_125, i_114_128, i_114_129, i_114_132, i_114_133, i_114_134, i_114_136, i_114_139, i_114_142, i_114_144, g_o134, g_r134_0, g_r134_1, g_r134_2, g_r134_3, g_t135, g_o87, g_r87_0, g_r87_1, g_r87_2, g_r87_3, g_r87_4, g_r87_5, g_o133, g_r133_0, g_r133_1, g_r133_2, g_r133_3, g_o1, g_r1_0, g_r1_1, g_r1_2, g_r1_3, g_r1_4, g_r1_5, g_a42, g_t42, g_a43, g_t43, g_o22, g_r22_0, g_r22_1, g_r22_2, g_r22_3, g_r22_4, g_r22_5, g_r22_6, g_r22_7, g_r22_8, g_r22_9, g_r22_10, g_r22_11, g_r22_12, g_a23, g_t23, g_a24, g_t24, g_a25, g_t25, g_a26, g_t26, g_a27, g_t27, g_a28, g_t28, g_a29, g_t29, g_a30, g_t30, g_a31, g_t31, g_a32, g_t32, g_a33, g_t33, g_a34, g_t34, g_a35, g_t35, exists_eq_left', Option.some.injEq, exists_eq_left, ne_eq, List.length_nil, List.length_cons, Option.toList_some, Option.toList_none, List.cons_append, List.nil_append, mj_wt_nil, mj_wt_i, mj_wt_r, mj_wt_l, true_and, and_true, false_and, and_false, true_implies, false_implies, implies_true, not_true_eq_false, not_false_eq_true, and_self, Int.reduceEq, Nat.reduceEqDiff, ↓reduceIte, mj_w_id2, hli, ef, e_115_86_0, Int.toNat_natCast]
    try grind [mj_w]
  · intro v M hP
    rw [i_114_14]
    simp (disch := omega) only [i_114_0, i_114_1, i_114_4, i_114_5, i_114_8, i_114_11, i_114_12, i_114_16, i_114_18, i_114_21, i_114_22, i_114_25, i_114_26, i_114_29, i_114_30, i_114_33, i_114_36, i_114_39, i_114_40, i_114_42, i_114_43, i_114_44, i_114_48, i_114_50, i_114_53, i_114_54, i_114_57, i_114_60, i_114_61, i_114_62, i_114_63, i_114_64, i_114_67, i_114_69, i_114_70, i_114_71, i_114_73, i_114_74, i_114_77, i_114_80, i_114_83, i_114_84, i_114_87, i_114_88, i_114_91, i_114_94, i_114_97, i_114_100, i_114_101, i_114_103, i_114_104, i_114_108, i_114_110, i_114_113, i_114_115, i_114_116, i_114_118, i_114_119, i_114_121, i_114_122, i_114_125, i_114_128, i_114_129, i_114_132, i_114_133, i_114_134, i_114_136, i_114_139, i_114_142, i_114_144, g_o134, g_r134_0, g_r134_1, g_r134_2, g_r134_3, g_t135, g_o87, g_r87_0, g_r87_1, g_r87_2, g_r87_3, g_r87_4, g_r87_5, g_o133, g_r133_0, g_r133_1, g_r133_2, g_r133_3, g_o1, g_r1_0, g_r1_1, g_r1_2, g_r1_3, g_r1_4, g_r1_5, g_a42, g_t42, g_a43, g_t43, g_o22, g_r22_0, g_r22_1, g_r22_2, g_r22_3, g_r22_4, g_r22_5, g_r22_6, g_r22_7, g_r22_8, g_r22_9, g_r22_10, g_r22_11, g_r22_12, g_a23, g_t23, g_a24, g_t24, g_a25, g_t25, g_a26, g_t26, g_a27, g_t27, g_a28, g_t28, g_a29, g_t29, g_a30, g_t30, g_a31, g_t31, g_a32, g_t32, g_a33, g_t33, g_a34, g_t34, g_a35, g_t35, exists_eq_left', Option.some.injEq, exists_eq_left, ne_eq, List.length_nil, List.length_cons, Option.toList_some, Option.toList_none, List.cons_append, List.nil_append, mj_wt_nil, mj_wt_i, mj_wt_r, mj_wt_l, true_and, and_true, false_and, and_false, true_implies, false_implies, implies_true, not_true_eq_false, not_false_eq_true, and_self, Int.reduceEq, Nat.reduceEqDiff, ↓reduceIte, mj_w_id2]
    try grind
def q_gc (M : mj_M) (sz : Nat) : Nat → Nat → Int → Int
  | 0, _, a => a
  | n + 1, t, a => q_gc M sz n (t + 1) (a + q_fig M t sz t 0)
theorem q_fig_01 {j sz : Nat} : ∀ (n i : Nat), q_fig M j sz n i = 0 ∨ q_fig M j sz n i = 1 := by
  intro n
  induction n with
  | zero => intro i; exact Or.inr rfl
  | succ n ih => intro i; unfold q_fig; split; exact Or.inl rfl; exact ih (i + 1)
theorem l_114c {f u rl : Int} {k n : Nat} (hk : k ≤ 16) (hn : n ≤ 60) (m : Nat) : ∀ (t : Nat) (a : Int), t + m = k → 0 ≤ a ∧ a ≤ t →
    mj_Rn (d + 7) 114 106 [.inr (.inl 134), .inl f, .inl u, .inl rl, .inl (k : Int), .inl (n : Int), .inl a, .inl (t : Int)] [] (SGx x) M Q = Q (some (.inl (q_gc M (3 * n) m t a))) (SGx x) M := by
  induction m with
  | zero =>
    intro t a h ha
    rw [i_114_106, q_gc]
    simp (disch := omega) only [i_114_0, i_114_1, i_114_4, i_114_5, i_114_8, i_114_11, i_114_12, i_114_16, i_114_18, i_114_21, i_114_22, i_114_25, i_114_26, i_114_29, i_114_30, i_114_33, i_114_36, i_114_39, i_114_40, i_114_42, i_114_43, i_114_44, i_114_48, i_114_50, i_114_53, i_114_54, i_114_57, i_114_60, i_114_61, i_114_62, i_114_63, i_114_64, i_114_67, i_114_69, i_114_70, i_114_71, i_114_73, i_114_74, i_114_77, i_114_80, i_114_83, i_114_84, i_114_87, i_114_88, i_114_91, i_114_94, i_114_97, i_114_100, i_114_101, i_114_103, i_114_104, i_114_108, i_114_110, i_114_113, i_114_115, i_114_116, i_114_118, i_114_119, i_114_121, i_114_122, i_114_125, i_114_128, i_114_129, i_114_132, i_114_133, i_114_134, i_114_136, i_114_139, i_114_142, i_114_144, g_o134, g_r134_0, g_r134_1, g_r134_2, g_r134_3, g_t135, g_o87, g_r87_0, g_r87_1, g_r87_2, g_r87_3, g_r87_4, g_r87_5, g_o133, g_r133_0, g_r133_1, g_r133_2, g_r133_3, g_o1, g_r1_0, g_r1_1, g_r1_2, g_r1_3, g_r1_4, g_r1_5, g_a42, g_t42, g_a43, g_t43, g_o22, g_r22_0, g_r22_1, g_r22_2, g_r22_3, g_r22_4, g_r22_5, g_r22_6, g_r22_7, g_r22_8, g_r22_9, g_r22_10, g_r22_11, g_r22_12, g_a23, g_t23, g_a24, g_t24, g_a25, g_t25, g_a26, g_t26, g_a27, g_t27, g_a28, g_t28, g_a29, g_t29, g_a30, g_t30, g_a31, g_t31, g_a32, g_t32, g_a33, g_t33, g_a34, g_t34, g_a35, g_t35, exists_eq_left', Option.some.injEq, exists_eq_left, ne_eq, List.length_nil, List.length_cons, Option.toList_some, Option.toList_none, List.cons_append, List.nil_append, mj_wt_nil, mj_wt_i, mj_wt_r, mj_wt_l, true_and, and_true, false_and, and_false, true_implies, false_implies, implies_true, not_true_eq_false, not_false_eq_true, and_self, Int.reduceEq, Nat.reduceEqDiff, ↓reduceIte, mj_w_id2]
    try grind
  | succ m ih =>
    intro t a h ha
    have h01 := q_fig_01 (M := M) (j := t) (sz := 3 * n) t 0
    have i1 := ih (t + 1) (a + q_fig M t (3 * n) t 0) (by omega) (by omega)
    have h122 : ∀ Q, mj_Rn (d + 6) 122 0 [.inr (.inl 134), .inl (t : Int), .inl (3 * (n : Int)), .inr (.inr 0), .inr (.inr 0), .inr (.inr 0)] [] (SGx x) M Q = Q (some (.inl (q_fig M t (3 * n) t 0))) (SGx x) M := by
      intro Q
      have := e_122 (d := d + 6) (x := x) (M := M) (Q := Q) (j := t) (sz := 3 * n) (by omega) (by omega)
      push_cast at this
      exact this
    push_cast at i1
    clear ih
    rw [i_114_106, q_gc]
    rcases h01 with h01 | h01
    · rw [h01] at i1 h122
      simp (disch := omega) only [i_114_0, i_114_1, i_114_4, i_114_5, i_114_8, i_114_11, i_114_12, i_114_16, i_114_18, i_114_21, i_114_22, i_114_25, i_114_26, i_114_29, i_114_30, i_114_33, i_114_36, i_114_39, i_114_40, i_114_42, i_114_43, i_114_44, i_114_48, i_114_50, i_114_53, i_114_54, i_114_57, i_114_60, i_114_61, i_114_62, i_114_63, i_114_64, i_114_67, i_114_69, i_114_70, i_114_71, i_114_73, i_114_74, i_114_77, i_114_80, i_114_83, i_114_84, i_114_87, i_114_88, i_114_91, i_114_94, i_114_97, i_114_100, i_114_101, i_114_103, i_114_104, i_114_108, i_114_110, i_114_113, i_114_115, i_114_116, i_114_118, i_114_119, i_114_121, i_114_122, i_114_125, i_114_128, i_114_129, i_114_132, i_114_133, i_114_134, i_114_136, i_114_139, i_114_142, i_114_144, g_o134, g_r134_0, g_r134_1, g_r134_2, g_r134_3, g_t135, g_o87, g_r87_0, g_r87_1, g_r87_2, g_r87_3, g_r87_4, g_r87_5, g_o133, g_r133_0, g_r133_1, g_r133_2, g_r133_3, g_o1, g_r1_0, g_r1_1, g_r1_2, g_r1_3, g_r1_4, g_r1_5, g_a42, g_t42, g_a43, g_t43, g_o22, g_r22_0, g_r22_1, g_r22_2, g_r22_3, g_r22_4, g_r22_5, g_r22_6, g_r22_7, g_r22_8, g_r22_9, g_r22_10, g_r22_11, g_r22_12, g_a23, g_t23, g_a24, g_t24, g_a25, g_t25, g_a26, g_t26, g_a27, g_t27, g_a28, g_t28, g_a29, g_t29, g_a30, g_t30, g_a31, g_t31, g_a32, g_t32, g_a33, g_t33, g_a34, g_t34, g_a35, g_t35, exists_eq_left', Option.some.injEq, exists_eq_left, ne_eq, List.length_nil, List.length_cons, Option.toList_some, Option.toList_none, List.cons_append, List.nil_append, mj_wt_nil, mj_wt_i, mj_wt_r, mj_wt_l, true_and, and_true, false_and, and_false, true_implies, false_implies, implies_true, not_true_eq_false, not_false_eq_true, and_self, Int.reduceEq, Nat.reduceEqDiff, ↓reduceIte, mj_w_id2, h122, h01, i1, Int.toNat_natCast]
      try grind [mj_w]
    · rw [h01] at i1 h122
      simp (disch := omega) only [i_114_0, i_114_1, i_114_4, i_114_5, i_114_8, i_114_11, i_114_12, i_114_16, i_114_18, i_114_21, i_114_22, i_114_25, i_114_26, i_114_29, i_114_30, i_114_33, i_114_36, i_114_39, i_114_40, i_114_42, i_114_43, i_114_44, i_114_48, i_114_50, i_114_53, i_114_54, i_114_57, i_114_60, i_114_61, i_114_62, i_114_63, i_114_64, i_114_67, i_114_69, i_114_70, i_114_71, i_114_73, i_114_74, i_114_77, i_114_80, i_114_83, i_114_84, i_114_87, i_114_88, i_114_91, i_114_94, i_114_97, i_114_100, i_114_101, i_114_103, i_114_104, i_114_108, i_114_110, i_114_113, i_114_115, i_114_116, i_114_118, i_114_119, i_114_121, i_114_122, i_114_125, i_114_128, i_114_129, i_114_132, i_114_133, i_114_134, i_114_136, i_114_139, i_114_142, i_114_144, g_o134, g_r134_0, g_r134_1, g_r134_2, g_r134_3, g_t135, g_o87, g_r87_0, g_r87_1, g_r87_2, g_r87_3, g_r87_4, g_r87_5, g_o133, g_r133_0, g_r133_1, g_r133_2, g_r133_3, g_o1, g_r1_0, g_r1_1, g_r1_2, g_r1_3, g_r1_4, g_r1_5, g_a42, g_t42, g_a43, g_t43, g_o22, g_r22_0, g_r22_1, g_r22_2, g_r22_3, g_r22_4, g_r22_5, g_r22_6, g_r22_7, g_r22_8, g_r22_9, g_r22_10, g_r22_11, g_r22_12, g_a23, g_t23, g_a24, g_t24, g_a25, g_t25, g_a26, g_t26, g_a27, g_t27, g_a28, g_t28, g_a29, g_t29, g_a30, g_t30, g_a31, g_t31, g_a32, g_t32, g_a33, g_t33, g_a34, g_t34, g_a35, g_t35, exists_eq_left', Option.some.injEq, exists_eq_left, ne_eq, List.length_nil, List.length_cons, Option.toList_some, Option.toList_none, List.cons_append, List.nil_append, mj_wt_nil, mj_wt_i, mj_wt_r, mj_wt_l, true_and, and_true, false_and, and_false, true_implies, false_implies, implies_true, not_true_eq_false, not_false_eq_true, and_self, Int.reduceEq, Nat.reduceEqDiff, ↓reduceIte, mj_w_id2, h122, h01, i1, Int.toNat_natCast]
      try grind [mj_w]
def q_grM (M : mj_M) (f u rl : Int) (k n : Nat) : mj_M := q_for (f_go f u rl n) k 0 (q_tfS 0 86 M)
theorem q_grM_t {f u rl b : Int} {k n : Nat} (hb : 0 ≤ b) (hl : b + n < 99999999) (hc : M 1 7 + n ≤ 9999) (w : q_wr M) (ho : q_o b M) : q_tri b (M 1 7) (q_grM M f u rl k n) :=
  q_for_inv (N := k) (P := fun _ A => q_tri b (M 1 7) A) (fun t A _ h => f_go_t hb hl hc h) k 0 _ (by omega) (q_tri_beg w ho)
theorem e_114 {f u rl b : Int} {k n : Nat} (hf : 0 ≤ f ∧ f < 8) (hu : 0 ≤ u ∧ u < 8) (hk : k ≤ 16) (hn : n ≤ 60) (hb : 0 ≤ b) (hl : b + n < 99999999) (hc : M 1 7 + n ≤ 9999) (w : q_wr M) (ho : q_o b M) : mj_Rn (d + 7) 114 0 [.inr (.inl 134), .inl f, .inl u, .inl rl, .inl (k : Int), .inl (n : Int), .inr (.inr 0), .inr (.inr 0)] [] (SGx x) M Q = Q (some (.inl (q_gc (q_grM M f u rl k n) (3 * n) k 0 0))) (SGx x) (q_grM M f u rl k n) := by
  have ht := q_tri_beg w ho
  have h1 := l_114o (d := d) (x := x) (Q := Q) (rl := rl) hf hu hk hn hb hl hc k 0 (.inr (.inr 0)) (q_tfS 0 86 M) (by omega) ht
  have h2 := l_114c (d := d) (x := x) (Q := Q) (M := q_grM M f u rl k n) (f := f) (u := u) (rl := rl) hk hn k 0 0 (by omega) (by omega)
  have ef : q_for (f_go f u rl n) k 0 (q_tfS 0 86 M) = q_grM M f u rl k n := rfl
  push_cast [ef] at h1 h2
  simp (disch := omega) only [i_114_0, i_114_1, i_114_4, i_114_5, i_114_8, i_114_11, i_114_12, i_114_16, i_114_18, i_114_21, i_114_22, i_114_25, i_114_26, i_114_29, i_114_30, i_114_33, i_114_36, i_114_39, i_114_40, i_114_42, i_114_43, i_114_44, i_114_48, i_114_50, i_114_53, i_114_54, i_114_57, i_114_60, i_114_61, i_114_62, i_114_63, i_114_64, i_114_67, i_114_69, i_114_70, i_114_71, i_114_73, i_114_74, i_114_77, i_114_80, i_114_83, i_114_84, i_114_87, i_114_88, i_114_91, i_114_94, i_114_97, i_114_100, i_114_101, i_114_103, i_114_104, i_114_108, i_114_110, i_114_113, i_114_115, i_114_116, i_114_118, i_114_119, i_114_121, i_114_122, i_114_125, i_114_128, i_114_129, i_114_132, i_114_133, i_114_134, i_114_136, i_114_139, i_114_142, i_114_144, g_o134, g_r134_0, g_r134_1, g_r134_2, g_r134_3, g_t135, g_o87, g_r87_0, g_r87_1, g_r87_2, g_r87_3, g_r87_4, g_r87_5, g_o133, g_r133_0, g_r133_1, g_r133_2, g_r133_3, g_o1, g_r1_0, g_r1_1, g_r1_2, g_r1_3, g_r1_4, g_r1_5, g_a42, g_t42, g_a43, g_t43, g_o22, g_r22_0, g_r22_1, g_r22_2, g_r22_3, g_r22_4, g_r22_5, g_r22_6, g_r22_7, g_r22_8, g_r22_9, g_r22_10, g_r22_11, g_r22_12, g_a23, g_t23, g_a24, g_t24, g_a25, g_t25, g_a26, g_t26, g_a27, g_t27, g_a28, g_t28, g_a29, g_t29, g_a30, g_t30, g_a31, g_t31, g_a32, g_t32, g_a33, g_t33, g_a34, g_t34, g_a35, g_t35, exists_eq_left', Option.some.injEq, exists_eq_left, ne_eq, List.length_nil, List.length_cons, Option.toList_some, Option.toList_none, List.cons_append, List.nil_append, mj_wt_nil, mj_wt_i, mj_wt_r, mj_wt_l, true_and, and_true, false_and, and_false, true_implies, false_implies, implies_true, not_true_eq_false, not_false_eq_true, and_self, Int.reduceEq, Nat.reduceEqDiff, ↓reduceIte, mj_w_id2, e_115_0_86, h1, h2]
  try grind
end sp65
