section sp68
variable {x : Nat} {M : mj_M} {Q : Option mj_V → mj_G → mj_M → Prop} {d : Nat}
theorem q_rb_w (w : q_wr M) : q_wr (q_rb M) := q_for_inv (N := 120) (P := fun _ M => q_wr M) (fun t M _ h => f_129_w h) 120 0 _ rfl (q_fill_w w (by omega))
/-- rounds -/
def q_rr : Nat → Int → mj_M → mj_M
  | 0, _, M => M
  | n + 1, c, M => if c = 0 then M else q_rr n (q_goR M) (q_goM M)
theorem l_128 {b y : Int} (hb : 0 ≤ b ∧ b < 40) (hy : 0 ≤ y ∧ y < 40) (n : Nat) : ∀ (t : Nat) (c : Int) (M : mj_M), t + n = 6401 → c = 0 ∨ c = 1 → q_wr M →
    mj_Rn (d + 4) 128 9 [.inr (.inl 152), .inl b, .inl y, .inl c, .inl (t : Int)] [] (SGx x) M Q = Q (some (.inl (q_rr n c M 153 (b * 40 + y).toNat))) (SGx x) (q_rr n c M) := by
  induction n with
  | zero =>
    intro t c M h hc w
    rw [i_128_9, q_rr]
    simp (disch := omega) only [i_128_0, i_128_1, i_128_4, i_128_5, i_128_6, i_128_7, i_128_11, i_128_14, i_128_17, i_128_18, i_128_21, i_128_22, i_128_25, i_128_26, i_128_29, i_128_32, i_128_33, i_128_36, i_128_37, i_128_39, i_128_40, i_128_41, i_128_42, i_128_43, g_o152, g_r152_0, g_r152_1, g_r152_2, g_r152_3, g_r152_4, g_a153, g_t153, g_a154, g_t154, g_t155, g_t156, exists_eq_left', Option.some.injEq, exists_eq_left, ne_eq, List.length_nil, List.length_cons, Option.toList_some, Option.toList_none, List.cons_append, List.nil_append, mj_wt_nil, mj_wt_i, mj_wt_r, mj_wt_l, true_and, and_true, false_and, and_false, true_implies, false_implies, implies_true, not_true_eq_false, not_false_eq_true, and_self, Int.reduceEq, Nat.reduceEqDiff, ↓reduceIte, mj_w_id2, e_131 w, Int.toNat_natCast]
    try grind
  | succ n ih =>
    intro t c M h hc w
    have i1 := ih (t + 1) (q_goR M) (q_goM M) (by omega) q_goR_01 (q_goM_w w)
    push_cast at i1
    clear ih
    rw [i_128_9, q_rr]
    rcases hc with hc | hc
    · subst hc
      simp (disch := omega) only [i_128_0, i_128_1, i_128_4, i_128_5, i_128_6, i_128_7, i_128_11, i_128_14, i_128_17, i_128_18, i_128_21, i_128_22, i_128_25, i_128_26, i_128_29, i_128_32, i_128_33, i_128_36, i_128_37, i_128_39, i_128_40, i_128_41, i_128_42, i_128_43, g_o152, g_r152_0, g_r152_1, g_r152_2, g_r152_3, g_r152_4, g_a153, g_t153, g_a154, g_t154, g_t155, g_t156, exists_eq_left', Option.some.injEq, exists_eq_left, ne_eq, List.length_nil, List.length_cons, Option.toList_some, Option.toList_none, List.cons_append, List.nil_append, mj_wt_nil, mj_wt_i, mj_wt_r, mj_wt_l, true_and, and_true, false_and, and_false, true_implies, false_implies, implies_true, not_true_eq_false, not_false_eq_true, and_self, Int.reduceEq, Nat.reduceEqDiff, ↓reduceIte, mj_w_id2, e_131 w, i1, Int.toNat_natCast]
      try grind
    · subst hc
      simp (disch := omega) only [i_128_0, i_128_1, i_128_4, i_128_5, i_128_6, i_128_7, i_128_11, i_128_14, i_128_17, i_128_18, i_128_21, i_128_22, i_128_25, i_128_26, i_128_29, i_128_32, i_128_33, i_128_36, i_128_37, i_128_39, i_128_40, i_128_41, i_128_42, i_128_43, g_o152, g_r152_0, g_r152_1, g_r152_2, g_r152_3, g_r152_4, g_a153, g_t153, g_a154, g_t154, g_t155, g_t156, exists_eq_left', Option.some.injEq, exists_eq_left, ne_eq, List.length_nil, List.length_cons, Option.toList_some, Option.toList_none, List.cons_append, List.nil_append, mj_wt_nil, mj_wt_i, mj_wt_r, mj_wt_l, true_and, and_true, false_and, and_false, true_implies, false_implies, implies_true, not_true_eq_false, not_false_eq_true, and_self, Int.reduceEq, Nat.reduceEqDiff, ↓reduceIte, mj_w_id2, e_131 w, i1, Int.toNat_natCast]
      try grind [mj_w]
def q_couldM (M : mj_M) : mj_M := q_rr 6401 1 (q_rb M)
theorem e_128 (w : q_wr M) {b y : Int} (hb : 0 ≤ b ∧ b < 40) (hy : 0 ≤ y ∧ y < 40) : mj_Rn (d + 4) 128 0 [.inr (.inl 152), .inl b, .inl y, .inr (.inr 0), .inr (.inr 0)] [] (SGx x) M Q = Q (some (.inl (q_couldM M 153 (b * 40 + y).toNat))) (SGx x) (q_couldM M) := by
  have h := l_128 (d := d) (x := x) (Q := Q) hb hy 6401 0 1 (q_rb M) rfl (Or.inr rfl) (q_rb_w w)
  unfold q_couldM
  push_cast at h
  simp (disch := omega) only [i_128_0, i_128_1, i_128_4, i_128_5, i_128_6, i_128_7, i_128_11, i_128_14, i_128_17, i_128_18, i_128_21, i_128_22, i_128_25, i_128_26, i_128_29, i_128_32, i_128_33, i_128_36, i_128_37, i_128_39, i_128_40, i_128_41, i_128_42, i_128_43, g_o152, g_r152_0, g_r152_1, g_r152_2, g_r152_3, g_r152_4, g_a153, g_t153, g_a154, g_t154, g_t155, g_t156, exists_eq_left', Option.some.injEq, exists_eq_left, ne_eq, List.length_nil, List.length_cons, Option.toList_some, Option.toList_none, List.cons_append, List.nil_append, mj_wt_nil, mj_wt_i, mj_wt_r, mj_wt_l, true_and, and_true, false_and, and_false, true_implies, false_implies, implies_true, not_true_eq_false, not_false_eq_true, and_self, Int.reduceEq, Nat.reduceEqDiff, ↓reduceIte, mj_w_id2, e_129 w, h]
  try grind
def q_fhM (i : Nat) (rt : Int) : Nat → Int → mj_M → mj_M
  | 0, _, M => M
  | n + 1, c, M => if c = 0 then M else if mj_and (M 153 i) rt = rt then M else q_fhM i rt n (q_goR M) (q_goM M)
def q_fhR (i : Nat) (rt : Int) : Nat → Nat → Int → mj_M → Int
  | 0, _, _, _ => -1
  | n + 1, t, c, M => if c = 0 then -1 else if mj_and (M 153 i) rt = rt then t else q_fhR i rt n (t + 1) (q_goR M) (q_goM M)
theorem l_137 {b y rt : Int} (hb : 0 ≤ b ∧ b < 40) (hy : 0 ≤ y ∧ y < 40) (n : Nat) : ∀ (t : Nat) (c : Int) (M : mj_M), t + n = 6401 → c = 0 ∨ c = 1 → q_wr M →
    mj_Rn (d + 4) 137 10 [.inr (.inl 152), .inl b, .inl y, .inl rt, .inl c, .inl (t : Int)] [] (SGx x) M Q = Q (some (.inl (q_fhR (b * 40 + y).toNat rt n t c M))) (SGx x) (q_fhM (b * 40 + y).toNat rt n c M) := by
  induction n with
  | zero =>
    intro t c M h hc w
    rw [i_137_10, q_fhM, q_fhR]
    simp (disch := omega) only [i_137_0, i_137_1, i_137_4, i_137_5, i_137_7, i_137_8, i_137_12, i_137_15, i_137_18, i_137_20, i_137_23, i_137_24, i_137_27, i_137_28, i_137_30, i_137_31, i_137_32, i_137_33, i_137_34, i_137_35, i_137_36, i_137_37, i_137_40, i_137_42, i_137_43, i_137_44, i_137_47, i_137_49, i_137_52, i_137_55, i_137_56, g_o152, g_r152_0, g_r152_1, g_r152_2, g_r152_3, g_r152_4, g_a153, g_t153, g_a154, g_t154, g_t155, g_t156, exists_eq_left', Option.some.injEq, exists_eq_left, ne_eq, List.length_nil, List.length_cons, Option.toList_some, Option.toList_none, List.cons_append, List.nil_append, mj_wt_nil, mj_wt_i, mj_wt_r, mj_wt_l, true_and, and_true, false_and, and_false, true_implies, false_implies, implies_true, not_true_eq_false, not_false_eq_true, and_self, Int.reduceEq, Nat.reduceEqDiff, ↓reduceIte, mj_w_id2, e_131 w, Int.toNat_natCast]
    try grind
  | succ n ih =>
    intro t c M h hc w
    have i1 := ih (t + 1) (q_goR M) (q_goM M) (by omega) q_goR_01 (q_goM_w w)
    push_cast at i1
    clear ih
    rw [i_137_10, q_fhM, q_fhR]
    rcases hc with hc | hc
    · subst hc
      simp (disch := omega) only [i_137_0, i_137_1, i_137_4, i_137_5, i_137_7, i_137_8, i_137_12, i_137_15, i_137_18, i_137_20, i_137_23, i_137_24, i_137_27, i_137_28, i_137_30, i_137_31, i_137_32, i_137_33, i_137_34, i_137_35, i_137_36, i_137_37, i_137_40, i_137_42, i_137_43, i_137_44, i_137_47, i_137_49, i_137_52, i_137_55, i_137_56, g_o152, g_r152_0, g_r152_1, g_r152_2, g_r152_3, g_r152_4, g_a153, g_t153, g_a154, g_t154, g_t155, g_t156, exists_eq_left', Option.some.injEq, exists_eq_left, ne_eq, List.length_nil, List.length_cons, Option.toList_some, Option.toList_none, List.cons_append, List.nil_append, mj_wt_nil, mj_wt_i, mj_wt_r, mj_wt_l, true_and, and_true, false_and, and_false, true_implies, false_implies, implies_true, not_true_eq_false, not_false_eq_true, and_self, Int.reduceEq, Nat.reduceEqDiff, ↓reduceIte, mj_w_id2, e_131 w, i1, Int.toNat_natCast]
      try grind
    · subst hc
      by_cases hh : mj_and (M 153 (b * 40 + y).toNat) rt = rt
      · simp (disch := omega) only [i_137_0, i_137_1, i_137_4, i_137_5, i_137_7, i_137_8, i_137_12, i_137_15, i_137_18, i_137_20, i_137_23, i_137_24, i_137_27, i_137_28, i_137_30, i_137_31, i_137_32, i_137_33, i_137_34, i_137_35, i_137_36, i_137_37, i_137_40, i_137_42, i_137_43, i_137_44, i_137_47, i_137_49, i_137_52, i_137_55, i_137_56, g_o152, g_r152_0, g_r152_1, g_r152_2, g_r152_3, g_r152_4, g_a153, g_t153, g_a154, g_t154, g_t155, g_t156, exists_eq_left', Option.some.injEq, exists_eq_left, ne_eq, List.length_nil, List.length_cons, Option.toList_some, Option.toList_none, List.cons_append, List.nil_append, mj_wt_nil, mj_wt_i, mj_wt_r, mj_wt_l, true_and, and_true, false_and, and_false, true_implies, false_implies, implies_true, not_true_eq_false, not_false_eq_true, and_self, Int.reduceEq, Nat.reduceEqDiff, ↓reduceIte, mj_w_id2, e_131 w, i1, hh, Int.toNat_natCast]
        try grind [mj_w]
      · simp (disch := omega) only [i_137_0, i_137_1, i_137_4, i_137_5, i_137_7, i_137_8, i_137_12, i_137_15, i_137_18, i_137_20, i_137_23, i_137_24, i_137_27, i_137_28, i_137_30, i_137_31, i_137_32, i_137_33, i_137_34, i_137_35, i_137_36, i_137_37, i_137_40, i_137_42, i_137_43, i_137_44, i_137_47, i_137_49, i_137_52, i_137_55, i_137_56, g_o152, g_r152_0, g_r152_1, g_r152_2, g_r152_3, g_r152_4, g_a153, g_t153, g_a154, g_t154, g_t155, g_t156, exists_eq_left', Option.some.injEq, exists_eq_left, ne_eq, List.length_nil, List.length_cons, Option.toList_some, Option.toList_none, List.cons_append, List.nil_append, mj_wt_nil, mj_wt_i, mj_wt_r, mj_wt_l, true_and, and_true, false_and, and_false, true_implies, false_implies, implies_true, not_true_eq_false, not_false_eq_true, and_self, Int.reduceEq, Nat.reduceEqDiff, ↓reduceIte, mj_w_id2, e_131 w, i1, hh, Int.toNat_natCast]
        try grind [mj_w]
def q_whenM (M : mj_M) (i : Nat) (rt : Int) : mj_M := q_fhM i rt 6401 1 (q_rb M)
def q_when (M : mj_M) (i : Nat) (rt : Int) : Int := q_fhR i rt 6401 0 1 (q_rb M)
theorem e_137 (w : q_wr M) {b y rt : Int} (hb : 0 ≤ b ∧ b < 40) (hy : 0 ≤ y ∧ y < 40) : mj_Rn (d + 4) 137 0 [.inr (.inl 152), .inl b, .inl y, .inl rt, .inr (.inr 0), .inr (.inr 0)] [] (SGx x) M Q = Q (some (.inl (q_when M (b * 40 + y).toNat rt))) (SGx x) (q_whenM M (b * 40 + y).toNat rt) := by
  have h := l_137 (d := d) (x := x) (Q := Q) (rt := rt) hb hy 6401 0 1 (q_rb M) rfl (Or.inr rfl) (q_rb_w w)
  unfold q_whenM q_when
  push_cast at h
  simp (disch := omega) only [i_137_0, i_137_1, i_137_4, i_137_5, i_137_7, i_137_8, i_137_12, i_137_15, i_137_18, i_137_20, i_137_23, i_137_24, i_137_27, i_137_28, i_137_30, i_137_31, i_137_32, i_137_33, i_137_34, i_137_35, i_137_36, i_137_37, i_137_40, i_137_42, i_137_43, i_137_44, i_137_47, i_137_49, i_137_52, i_137_55, i_137_56, g_o152, g_r152_0, g_r152_1, g_r152_2, g_r152_3, g_r152_4, g_a153, g_t153, g_a154, g_t154, g_t155, g_t156, exists_eq_left', Option.some.injEq, exists_eq_left, ne_eq, List.length_nil, List.length_cons, Option.toList_some, Option.toList_none, List.cons_append, List.nil_append, mj_wt_nil, mj_wt_i, mj_wt_r, mj_wt_l, true_and, and_true, false_and, and_false, true_implies, false_implies, implies_true, not_true_eq_false, not_false_eq_true, and_self, Int.reduceEq, Nat.reduceEqDiff, ↓reduceIte, mj_w_id2, e_129 w, h]
  try grind
def q_ib2 (M : mj_M) (y z : Int) : Nat → Nat → Int
  | 0, _ => 0
  | n + 1, t => if mj_and (M 153 (y * 40 + t).toNat) 7 ≠ 0 ∧ mj_and (M 153 (z * 40 + t).toNat) 7 ≠ 0 then 1 else q_ib2 M y z n (t + 1)
def q_ib (M : mj_M) (u : Nat) : Int := if M 37 u = 1 then (if mj_and (M 153 (M 38 u * 40 + M 39 u).toNat) (M 40 u) = 0 then 0 else 1) else q_ib2 M (M 38 u) (M 39 u) 40 0
theorem q_ib2_01 {y z : Int} : ∀ (n t : Nat), q_ib2 M y z n t = 0 ∨ q_ib2 M y z n t = 1 := by
  intro n
  induction n with
  | zero => intro t; exact Or.inl rfl
  | succ n ih => intro t; unfold q_ib2; split; exact Or.inr rfl; exact ih (t + 1)
theorem q_ib_01 {u : Nat} : q_ib M u = 0 ∨ q_ib M u = 1 := by
  unfold q_ib
  split
  · split
    · exact Or.inl rfl
    · exact Or.inr rfl
  · exact q_ib2_01 _ _
theorem l_140 {u y z : Int} (hy : 0 ≤ y ∧ y < 40) (hz : 0 ≤ z ∧ z < 40) (n : Nat) : ∀ (t : Nat), t + n = 40 →
    mj_Rn d 140 82 [.inr (.inl 152), .inl u, .inl y, .inl z, .inl 7, .inl (t : Int)] [] (SGx x) M Q = Q (some (.inl (q_ib2 M y z n t))) (SGx x) M := by
  induction n with
  | zero =>
    intro t h
    rw [i_140_82, q_ib2]
    simp (disch := omega) only [i_140_0, i_140_1, i_140_4, i_140_7, i_140_10, i_140_11, i_140_12, i_140_13, i_140_14, i_140_17, i_140_20, i_140_23, i_140_24, i_140_25, i_140_26, i_140_27, i_140_30, i_140_33, i_140_36, i_140_37, i_140_38, i_140_39, i_140_42, i_140_43, i_140_46, i_140_47, i_140_49, i_140_50, i_140_51, i_140_52, i_140_53, i_140_54, i_140_57, i_140_60, i_140_63, i_140_64, i_140_65, i_140_66, i_140_69, i_140_70, i_140_73, i_140_74, i_140_75, i_140_77, i_140_79, i_140_80, i_140_84, i_140_86, i_140_89, i_140_90, i_140_93, i_140_94, i_140_96, i_140_97, i_140_99, i_140_100, i_140_101, i_140_103, i_140_104, i_140_107, i_140_108, i_140_111, i_140_112, i_140_114, i_140_115, i_140_117, i_140_118, i_140_119, i_140_121, i_140_122, i_140_125, i_140_126, i_140_127, i_140_130, i_140_133, i_140_134, g_o152, g_r152_0, g_r152_1, g_r152_2, g_r152_3, g_r152_4, g_a153, g_t153, g_a154, g_t154, g_t155, g_t156, g_o36, g_r36_0, g_r36_1, g_r36_2, g_r36_3, g_r36_4, g_a37, g_t37, g_a38, g_t38, g_a39, g_t39, g_a40, g_t40, g_a41, g_t41, g_o1, g_r1_0, g_r1_1, g_r1_2, g_r1_3, g_r1_4, g_r1_5, g_a42, g_t42, g_a43, g_t43, exists_eq_left', Option.some.injEq, exists_eq_left, ne_eq, List.length_nil, List.length_cons, Option.toList_some, Option.toList_none, List.cons_append, List.nil_append, mj_wt_nil, mj_wt_i, mj_wt_r, mj_wt_l, true_and, and_true, false_and, and_false, true_implies, false_implies, implies_true, not_true_eq_false, not_false_eq_true, and_self, Int.reduceEq, Nat.reduceEqDiff, ↓reduceIte, mj_w_id2, Int.toNat_natCast]
    try grind
  | succ n ih =>
    intro t h
    have i1 := ih (t + 1) (by omega)
    push_cast at i1
    clear ih
    rw [i_140_82, q_ib2]
    by_cases h1 : mj_and (M 153 (y * 40 + t).toNat) 7 = 0
    · simp (disch := omega) only [i_140_0, i_140_1, i_140_4, i_140_7, i_140_10, i_140_11, i_140_12, i_140_13, i_140_14, i_140_17, i_140_20, i_140_23, i_140_24, i_140_25, i_140_26, i_140_27, i_140_30, i_140_33, i_140_36, i_140_37, i_140_38, i_140_39, i_140_42, i_140_43, i_140_46, i_140_47, i_140_49, i_140_50, i_140_51, i_140_52, i_140_53, i_140_54, i_140_57, i_140_60, i_140_63, i_140_64, i_140_65, i_140_66, i_140_69, i_140_70, i_140_73, i_140_74, i_140_75, i_140_77, i_140_79, i_140_80, i_140_84, i_140_86, i_140_89, i_140_90, i_140_93, i_140_94, i_140_96, i_140_97, i_140_99, i_140_100, i_140_101, i_140_103, i_140_104, i_140_107, i_140_108, i_140_111, i_140_112, i_140_114, i_140_115, i_140_117, i_140_118, i_140_119, i_140_121, i_140_122, i_140_125, i_140_126, i_140_127, i_140_130, i_140_133, i_140_134, g_o152, g_r152_0, g_r152_1, g_r152_2, g_r152_3, g_r152_4, g_a153, g_t153, g_a154, g_t154, g_t155, g_t156, g_o36, g_r36_0, g_r36_1, g_r36_2, g_r36_3, g_r36_4, g_a37, g_t37, g_a38, g_t38, g_a39, g_t39, g_a40, g_t40, g_a41, g_t41, g_o1, g_r1_0, g_r1_1, g_r1_2, g_r1_3, g_r1_4, g_r1_5, g_a42, g_t42, g_a43, g_t43, exists_eq_left', Option.some.injEq, exists_eq_left, ne_eq, List.length_nil, List.length_cons, Option.toList_some, Option.toList_none, List.cons_append, List.nil_append, mj_wt_nil, mj_wt_i, mj_wt_r, mj_wt_l, true_and, and_true, false_and, and_false, true_implies, false_implies, implies_true, not_true_eq_false, not_false_eq_true, and_self, Int.reduceEq, Nat.reduceEqDiff, ↓reduceIte, mj_w_id2, h1, i1, Int.toNat_natCast]
      try grind [mj_w]
    · by_cases h2 : mj_and (M 153 (z * 40 + t).toNat) 7 = 0
      · simp (disch := omega) only [i_140_0, i_140_1, i_140_4, i_140_7, i_140_10, i_140_11, i_140_12, i_140_13, i_140_14, i_140_17, i_140_20, i_140_23, i_140_24, i_140_25, i_140_26, i_140_27, i_140_30, i_140_33, i_140_36, i_140_37, i_140_38, i_140_39, i_140_42, i_140_43, i_140_46, i_140_47, i_140_49, i_140_50, i_140_51, i_140_52, i_140_53, i_140_54, i_140_57, i_140_60, i_140_63, i_140_64, i_140_65, i_140_66, i_140_69, i_140_70, i_140_73, i_140_74, i_140_75, i_140_77, i_140_79, i_140_80, i_140_84, i_140_86, i_140_89, i_140_90, i_140_93, i_140_94, i_140_96, i_140_97, i_140_99, i_140_100, i_140_101, i_140_103, i_140_104, i_140_107, i_140_108, i_140_111, i_140_112, i_140_114, i_140_115, i_140_117, i_140_118, i_140_119, i_140_121, i_140_122, i_140_125, i_140_126, i_140_127, i_140_130, i_140_133, i_140_134, g_o152, g_r152_0, g_r152_1, g_r152_2, g_r152_3, g_r152_4, g_a153, g_t153, g_a154, g_t154, g_t155, g_t156, g_o36, g_r36_0, g_r36_1, g_r36_2, g_r36_3, g_r36_4, g_a37, g_t37, g_a38, g_t38, g_a39, g_t39, g_a40, g_t40, g_a41, g_t41, g_o1, g_r1_0, g_r1_1, g_r1_2, g_r1_3, g_r1_4, g_r1_5, g_a42, g_t42, g_a43, g_t43, exists_eq_left', Option.some.injEq, exists_eq_left, ne_eq, List.length_nil, List.length_cons, Option.toList_some, Option.toList_none, List.cons_append, List.nil_append, mj_wt_nil, mj_wt_i, mj_wt_r, mj_wt_l, true_and, and_true, false_and, and_false, true_implies, false_implies, implies_true, not_true_eq_false, not_false_eq_true, and_self, Int.reduceEq, Nat.reduceEqDiff, ↓reduceIte, mj_w_id2, h1, h2, i1, Int.toNat_natCast]
        try grind [mj_w]
      · simp (disch := omega) only [i_140_0, i_140_1, i_140_4, i_140_7, i_140_10, i_140_11, i_140_12, i_140_13, i_140_14, i_140_17, i_140_20, i_140_23, i_140_24, i_140_25, i_140_26, i_140_27, i_140_30, i_140_33, i_140_36, i_140_37, i_140_38, i_140_39, i_140_42, i_140_43, i_140_46, i_140_47, i_140_49, i_140_50, i_140_51, i_140_52, i_140_53, i_140_54, i_140_57, i_140_60, i_140_63, i_140_64, i_140_65, i_140_66, i_140_69, i_140_70, i_140_73, i_140_74, i_140_75, i_140_77, i_140_79, i_140_80, i_140_84, i_140_86, i_140_89, i_140_90, i_140_93, i_140_94, i_140_96, i_140_97, i_140_99, i_140_100, i_140_101, i_140_103, i_140_104, i_140_107, i_140_108, i_140_111, i_140_112, i_140_114, i_140_115, i_140_117, i_140_118, i_140_119, i_140_121, i_140_122, i_140_125, i_140_126, i_140_127, i_140_130, i_140_133, i_140_134, g_o152, g_r152_0, g_r152_1, g_r152_2, g_r152_3, g_r152_4, g_a153, g_t153, g_a154, g_t154, g_t155, g_t156, g_o36, g_r36_0, g_r36_1, g_r36_2, g_r36_3, g_r36_4, g_a37, g_t37, g_a38, g_t38, g_a39, g_t39, g_a40, g_t40, g_a41, g_t41, g_o1, g_r1_0, g_r1_1, g_r1_2, g_r1_3, g_r1_4, g_r1_5, g_a42, g_t42, g_a43, g_t43, exists_eq_left', Option.some.injEq, exists_eq_left, ne_eq, List.length_nil, List.length_cons, Option.toList_some, Option.toList_none, List.cons_append, List.nil_append, mj_wt_nil, mj_wt_i, mj_wt_r, mj_wt_l, true_and, and_true, false_and, and_false, true_implies, false_implies, implies_true, not_true_eq_false, not_false_eq_true, and_self, Int.reduceEq, Nat.reduceEqDiff, ↓reduceIte, mj_w_id2, h1, h2, i1, Int.toNat_natCast]
        try grind [mj_w]
theorem e_140 {u : Nat} (hu : u < 20) (hy : 0 ≤ M 38 u ∧ M 38 u < 40) (hz : 0 ≤ M 39 u ∧ M 39 u < 40) : mj_Rn d 140 0 [.inr (.inl 152), .inl (u : Int), .inr (.inr 0), .inr (.inr 0), .inr (.inr 0), .inr (.inr 0)] [] (SGx x) M Q = Q (some (.inl (q_ib M u))) (SGx x) M := by
  have h := l_140 (d := d) (x := x) (Q := Q) (M := M) (u := (u : Int)) hy hz 40 0 rfl
  push_cast at h
  unfold q_ib
  by_cases hk : M 37 u = 1
  · by_cases h2 : mj_and (M 153 (M 38 u * 40 + M 39 u).toNat) (M 40 u) = 0
    · simp (disch := omega) only [i_140_0, i_140_1, i_140_4, i_140_7, i_140_10, i_140_11, i_140_12, i_140_13, i_140_14, i_140_17, i_140_20, i_140_23, i_140_24, i_140_25, i_140_26, i_140_27, i_140_30, i_140_33, i_140_36, i_140_37, i_140_38, i_140_39, i_140_42, i_140_43, i_140_46, i_140_47, i_140_49, i_140_50, i_140_51, i_140_52, i_140_53, i_140_54, i_140_57, i_140_60, i_140_63, i_140_64, i_140_65, i_140_66, i_140_69, i_140_70, i_140_73, i_140_74, i_140_75, i_140_77, i_140_79, i_140_80, i_140_84, i_140_86, i_140_89, i_140_90, i_140_93, i_140_94, i_140_96, i_140_97, i_140_99, i_140_100, i_140_101, i_140_103, i_140_104, i_140_107, i_140_108, i_140_111, i_140_112, i_140_114, i_140_115, i_140_117, i_140_118, i_140_119, i_140_121, i_140_122, i_140_125, i_140_126, i_140_127, i_140_130, i_140_133, i_140_134, g_o152, g_r152_0, g_r152_1, g_r152_2, g_r152_3, g_r152_4, g_a153, g_t153, g_a154, g_t154, g_t155, g_t156, g_o36, g_r36_0, g_r36_1, g_r36_2, g_r36_3, g_r36_4, g_a37, g_t37, g_a38, g_t38, g_a39, g_t39, g_a40, g_t40, g_a41, g_t41, g_o1, g_r1_0, g_r1_1, g_r1_2, g_r1_3, g_r1_4, g_r1_5, g_a42, g_t42, g_a43, g_t43, exists_eq_left', Option.some.injEq, exists_eq_left, ne_eq, List.length_nil, List.length_cons, Option.toList_some, Option.toList_none, List.cons_append, List.nil_append, mj_wt_nil, mj_wt_i, mj_wt_r, mj_wt_l, true_and, and_true, false_and, and_false, true_implies, false_implies, implies_true, not_true_eq_false, not_false_eq_true, and_self, Int.reduceEq, Nat.reduceEqDiff, ↓reduceIte, mj_w_id2, hk, h2, h, Int.toNat_natCast, if_true, if_false]
      try grind
    · simp (disch := omega) only [i_140_0, i_140_1, i_140_4, i_140_7, i_140_10, i_140_11, i_140_12, i_140_13, i_140_14, i_140_17, i_140_20, i_140_23, i_140_24, i_140_25, i_140_26, i_140_27, i_140_30, i_140_33, i_140_36, i_140_37, i_140_38, i_140_39, i_140_42, i_140_43, i_140_46, i_140_47, i_140_49, i_140_50, i_140_51, i_140_52, i_140_53, i_140_54, i_140_57, i_140_60, i_140_63, i_140_64, i_140_65, i_140_66, i_140_69, i_140_70, i_140_73, i_140_74, i_140_75, i_140_77, i_140_79, i_140_80, i_140_84, i_140_86, i_140_89, i_140_90, i_140_93, i_140_94, i_140_96, i_140_97, i_140_99, i_140_100, i_140_101, i_140_103, i_140_104, i_140_107, i_140_108, i_140_111, i_140_112, i_140_114, i_140_115, i_140_117, i_140_118, i_140_119, i_140_121, i_140_122, i_140_125, i_140_126, i_140_127, i_140_130, i_140_133, i_140_134, g_o152, g_r152_0, g_r152_1, g_r152_2, g_r152_3, g_r152_4, g_a153, g_t153, g_a154, g_t154, g_t155, g_t156, g_o36, g_r36_0, g_r36_1, g_r36_2, g_r36_3, g_r36_4, g_a37, g_t37, g_a38, g_t38, g_a39, g_t39, g_a40, g_t40, g_a41, g_t41, g_o1, g_r1_0, g_r1_1, g_r1_2, g_r1_3, g_r1_4, g_r1_5, g_a42, g_t42, g_a43, g_t43, exists_eq_left', Option.some.injEq, exists_eq_left, ne_eq, List.length_nil, List.length_cons, Option.toList_some, Option.toList_none, List.cons_append, List.nil_append, mj_wt_nil, mj_wt_i, mj_wt_r, mj_wt_l, true_and, and_true, false_and, and_false, true_implies, false_implies, implies_true, not_true_eq_false, not_false_eq_true, and_self, Int.reduceEq, Nat.reduceEqDiff, ↓reduceIte, mj_w_id2, hk, h2, h, Int.toNat_natCast, if_true, if_false]
      try grind
  · simp (disch := omega) only [i_140_0, i_140_1, i_140_4, i_140_7, i_140_10, i_140_11, i_140_12, i_140_13, i_140_14, i_140_17, i_140_20, i_140_23, i_140_24, i_140_25, i_140_26, i_140_27, i_140_30, i_140_33, i_140_36, i_140_37, i_140_38, i_140_39, i_140_42, i_140_43, i_140_46, i_140_47, i_140_49, i_140_50, i_140_51, i_140_52, i_140_53, i_140_54, i_140_57, i_140_60, i_140_63, i_140_64, i_140_65, i_140_66, i_140_69, i_140_70, i_140_73, i_140_74, i_140_75, i_140_77, i_140_79, i_140_80, i_140_84, i_140_86, i_140_89, i_140_90, i_140_93, i_140_94, i_140_96, i_140_97, i_140_99, i_140_100, i_140_101, i_140_103, i_140_104, i_140_107, i_140_108, i_140_111, i_140_112, i_140_114, i_140_115, i_140_117, i_140_118, i_140_119, i_140_121, i_140_122, i_140_125, i_140_126, i_140_127, i_140_130, i_140_133, i_140_134, g_o152, g_r152_0, g_r152_1, g_r152_2, g_r152_3, g_r152_4, g_a153, g_t153, g_a154, g_t154, g_t155, g_t156, g_o36, g_r36_0, g_r36_1, g_r36_2, g_r36_3, g_r36_4, g_a37, g_t37, g_a38, g_t38, g_a39, g_t39, g_a40, g_t40, g_a41, g_t41, g_o1, g_r1_0, g_r1_1, g_r1_2, g_r1_3, g_r1_4, g_r1_5, g_a42, g_t42, g_a43, g_t43, exists_eq_left', Option.some.injEq, exists_eq_left, ne_eq, List.length_nil, List.length_cons, Option.toList_some, Option.toList_none, List.cons_append, List.nil_append, mj_wt_nil, mj_wt_i, mj_wt_r, mj_wt_l, true_and, and_true, false_and, and_false, true_implies, false_implies, implies_true, not_true_eq_false, not_false_eq_true, and_self, Int.reduceEq, Nat.reduceEqDiff, ↓reduceIte, mj_w_id2, hk, h, Int.toNat_natCast, if_true, if_false]
    try grind
theorem q_goM_fr {a i : Nat} (h : a < 153 ∨ 156 < a) : q_goM M a i = M a i := by
  have c0 : ∀ (n t : Nat) (M : mj_M), q_for f_131c n t M a i = M a i := by
    intro n; induction n with
    | zero => intro t M; rfl
    | succ n ih => intro t M; rw [q_for, ih]; unfold f_131c; rw [mj_up_ne (by omega)]
  have c1 : ∀ (f g : Int) (n t : Nat) (M : mj_M), q_for (f_135 f g) n t M a i = M a i := by
    intro f g n; induction n with
    | zero => intro t M; rfl
    | succ n ih => intro t M; rw [q_for, ih]; unfold f_135; split; rw [mj_up_ne (by omega)]; rfl
  have c2 : ∀ (y z : Int) (M : mj_M), q_exA M y z a i = M a i := by
    intro y z M; unfold q_exA; split; exact c1 _ _ _ _ _; rfl
  have c3 : ∀ (y z : Int) (M : mj_M), q_ex M y z a i = M a i := by
    intro y z M; unfold q_ex; split; rw [show q_gv (q_exA M y z) z y a i = _ from c1 _ _ _ _ _]; exact c2 _ _ _; exact c2 _ _ _
  have c4 : ∀ (y n t : Nat) (M : mj_M), q_for (f_131y y) n t M a i = M a i := by
    intro y n; induction n with
    | zero => intro t M; rfl
    | succ n ih => intro t M; rw [q_for, ih]; unfold f_131y; split; exact c3 _ _ _; rfl
  have c5 : ∀ (n t : Nat) (M : mj_M), q_for f_131 n t M a i = M a i := by
    intro n; induction n with
    | zero => intro t M; rfl
    | succ n ih => intro t M; rw [q_for, ih]; exact c4 _ _ _ _
  have c6 : ∀ (y n t : Nat) (M : mj_M), q_for (f_133g y) n t M a i = M a i := by
    intro y n; induction n with
    | zero => intro t M; rfl
    | succ n ih => intro t M; rw [q_for, ih]; unfold f_133g; rw [mj_up_ne (by omega), mj_up_ne (by omega)]
  have c7 : ∀ (n t : Nat) (M : mj_M), q_for f_133 n t M a i = M a i := by
    intro n; induction n with
    | zero => intro t M; rfl
    | succ n ih => intro t M; rw [q_for, ih]; unfold f_133; rw [c6, mj_up_ne (by omega), mj_up_ne (by omega)]
  have c8 : ∀ (n t : Nat) (M : mj_M), q_for f_132 n t M a i = M a i := by
    intro n; induction n with
    | zero => intro t M; rfl
    | succ n ih => intro t M; rw [q_for, ih]; unfold f_132; split; rw [mj_up_ne (by omega)]; rfl
  unfold q_goM q_go0
  rw [c0, c5, c7, c8]
  unfold mj_cpy mj_upr
  rw [if_neg (by omega)]
theorem q_rb_fr {a i : Nat} (h : a < 153 ∨ 156 < a) : q_rb M a i = M a i := by
  have c8 : ∀ (n t : Nat) (M : mj_M), q_for f_129 n t M a i = M a i := by
    intro n; induction n with
    | zero => intro t M; rfl
    | succ n ih => intro t M; rw [q_for, ih]; unfold f_129; split; rw [mj_up_ne (by omega)]; rfl
  unfold q_rb
  rw [c8]
  unfold q_fill mj_upr
  rw [if_neg (by omega)]
def q_fbM (u : Nat) : Nat → Int → mj_M → mj_M
  | 0, _, M => M
  | n + 1, c, M => if c = 0 then M else if q_ib M u = 1 then M else q_fbM u n (q_goR M) (q_goM M)
def q_fbR (u : Nat) : Nat → Nat → Int → mj_M → Int
  | 0, _, _, _ => -1
  | n + 1, t, c, M => if c = 0 then -1 else if q_ib M u = 1 then t else q_fbR u n (t + 1) (q_goR M) (q_goM M)
theorem l_139 {u : Nat} (hu : u < 20) (n : Nat) : ∀ (t : Nat) (c : Int) (M : mj_M), t + n = 6401 → c = 0 ∨ c = 1 → q_wr M → (0 ≤ M 38 u ∧ M 38 u < 40) → (0 ≤ M 39 u ∧ M 39 u < 40) →
    mj_Rn (d + 4) 139 8 [.inr (.inl 152), .inl (u : Int), .inl c, .inl (t : Int)] [] (SGx x) M Q = Q (some (.inl (q_fbR u n t c M))) (SGx x) (q_fbM u n c M) := by
  induction n with
  | zero =>
    intro t c M h hc w hy hz
    rw [i_139_8, q_fbM, q_fbR]
    simp (disch := omega) only [i_139_0, i_139_1, i_139_4, i_139_5, i_139_6, i_139_7, i_139_9, i_139_12, i_139_15, i_139_16, i_139_19, i_139_20, i_139_21, i_139_24, i_139_27, i_139_28, i_139_29, i_139_30, i_139_33, i_139_34, i_139_37, i_139_40, i_139_41, g_o152, g_r152_0, g_r152_1, g_r152_2, g_r152_3, g_r152_4, g_a153, g_t153, g_a154, g_t154, g_t155, g_t156, exists_eq_left', Option.some.injEq, exists_eq_left, ne_eq, List.length_nil, List.length_cons, Option.toList_some, Option.toList_none, List.cons_append, List.nil_append, mj_wt_nil, mj_wt_i, mj_wt_r, mj_wt_l, true_and, and_true, false_and, and_false, true_implies, false_implies, implies_true, not_true_eq_false, not_false_eq_true, and_self, Int.reduceEq, Nat.reduceEqDiff, ↓reduceIte, mj_w_id2, e_131 w, e_140 hu hy hz, Int.toNat_natCast]
    try grind
  | succ n ih =>
    intro t c M h hc w hy hz
    have i1 := ih (t + 1) (q_goR M) (q_goM M) (by omega) q_goR_01 (q_goM_w w) (by rw [q_goM_fr (by omega)]; exact hy) (by rw [q_goM_fr (by omega)]; exact hz)
    push_cast at i1
    clear ih
    rw [i_139_8, q_fbM, q_fbR]
    rcases hc with hc | hc
    · subst hc
      simp (disch := omega) only [i_139_0, i_139_1, i_139_4, i_139_5, i_139_6, i_139_7, i_139_9, i_139_12, i_139_15, i_139_16, i_139_19, i_139_20, i_139_21, i_139_24, i_139_27, i_139_28, i_139_29, i_139_30, i_139_33, i_139_34, i_139_37, i_139_40, i_139_41, g_o152, g_r152_0, g_r152_1, g_r152_2, g_r152_3, g_r152_4, g_a153, g_t153, g_a154, g_t154, g_t155, g_t156, exists_eq_left', Option.some.injEq, exists_eq_left, ne_eq, List.length_nil, List.length_cons, Option.toList_some, Option.toList_none, List.cons_append, List.nil_append, mj_wt_nil, mj_wt_i, mj_wt_r, mj_wt_l, true_and, and_true, false_and, and_false, true_implies, false_implies, implies_true, not_true_eq_false, not_false_eq_true, and_self, Int.reduceEq, Nat.reduceEqDiff, ↓reduceIte, mj_w_id2, e_131 w, e_140 hu hy hz, i1, Int.toNat_natCast]
      try grind
    · subst hc
      rcases q_ib_01 (M := M) (u := u) with hh | hh
      · simp (disch := omega) only [i_139_0, i_139_1, i_139_4, i_139_5, i_139_6, i_139_7, i_139_9, i_139_12, i_139_15, i_139_16, i_139_19, i_139_20, i_139_21, i_139_24, i_139_27, i_139_28, i_139_29, i_139_30, i_139_33, i_139_34, i_139_37, i_139_40, i_139_41, g_o152, g_r152_0, g_r152_1, g_r152_2, g_r152_3, g_r152_4, g_a153, g_t153, g_a154, g_t154, g_t155, g_t156, exists_eq_left', Option.some.injEq, exists_eq_left, ne_eq, List.length_nil, List.length_cons, Option.toList_some, Option.toList_none, List.cons_append, List.nil_append, mj_wt_nil, mj_wt_i, mj_wt_r, mj_wt_l, true_and, and_true, false_and, and_false, true_implies, false_implies, implies_true, not_true_eq_false, not_false_eq_true, and_self, Int.reduceEq, Nat.reduceEqDiff, ↓reduceIte, mj_w_id2, e_131 w, e_140 hu hy hz, hh, i1, Int.toNat_natCast]
        try grind [mj_w]
      · simp (disch := omega) only [i_139_0, i_139_1, i_139_4, i_139_5, i_139_6, i_139_7, i_139_9, i_139_12, i_139_15, i_139_16, i_139_19, i_139_20, i_139_21, i_139_24, i_139_27, i_139_28, i_139_29, i_139_30, i_139_33, i_139_34, i_139_37, i_139_40, i_139_41, g_o152, g_r152_0, g_r152_1, g_r152_2, g_r152_3, g_r152_4, g_a153, g_t153, g_a154, g_t154, g_t155, g_t156, exists_eq_left', Option.some.injEq, exists_eq_left, ne_eq, List.length_nil, List.length_cons, Option.toList_some, Option.toList_none, List.cons_append, List.nil_append, mj_wt_nil, mj_wt_i, mj_wt_r, mj_wt_l, true_and, and_true, false_and, and_false, true_implies, false_implies, implies_true, not_true_eq_false, not_false_eq_true, and_self, Int.reduceEq, Nat.reduceEqDiff, ↓reduceIte, mj_w_id2, e_131 w, e_140 hu hy hz, hh, i1, Int.toNat_natCast]
        try grind [mj_w]
def q_showM (M : mj_M) (u : Nat) : mj_M := q_fbM u 6401 1 (q_rb M)
def q_show (M : mj_M) (u : Nat) : Int := q_fbR u 6401 0 1 (q_rb M)
theorem e_139 (w : q_wr M) {u : Nat} (hu : u < 20) (hy : 0 ≤ M 38 u ∧ M 38 u < 40) (hz : 0 ≤ M 39 u ∧ M 39 u < 40) : mj_Rn (d + 4) 139 0 [.inr (.inl 152), .inl (u : Int), .inr (.inr 0), .inr (.inr 0)] [] (SGx x) M Q = Q (some (.inl (q_show M u))) (SGx x) (q_showM M u) := by
  have h := l_139 (d := d) (x := x) (Q := Q) hu 6401 0 1 (q_rb M) rfl (Or.inr rfl) (q_rb_w w) (by rw [q_rb_fr (by omega)]; exact hy) (by rw [q_rb_fr (by omega)]; exact hz)
  unfold q_showM q_show
  push_cast at h
  simp (disch := omega) only [i_139_0, i_139_1, i_139_4, i_139_5, i_139_6, i_139_7, i_139_9, i_139_12, i_139_15, i_139_16, i_139_19, i_139_20, i_139_21, i_139_24, i_139_27, i_139_28, i_139_29, i_139_30, i_139_33, i_139_34, i_139_37, i_139_40, i_139_41, g_o152, g_r152_0, g_r152_1, g_r152_2, g_r152_3, g_r152_4, g_a153, g_t153, g_a154, g_t154, g_t155, g_t156, exists_eq_left', Option.some.injEq, exists_eq_left, ne_eq, List.length_nil, List.length_cons, Option.toList_some, Option.toList_none, List.cons_append, List.nil_append, mj_wt_nil, mj_wt_i, mj_wt_r, mj_wt_l, true_and, and_true, false_and, and_false, true_implies, false_implies, implies_true, not_true_eq_false, not_false_eq_true, and_self, Int.reduceEq, Nat.reduceEqDiff, ↓reduceIte, mj_w_id2, e_129 w, h]
  try grind
end sp68
