section sp70
variable {x : Nat} {M : mj_M} {Q : Option mj_V → mj_G → mj_M → Prop} {d : Nat}
def q_nr (M : mj_M) : Int := if q_nx M 114 = 1 then 1 else if q_nx M 119 = 1 then 2 else if q_nx M 108 = 1 then 4 else if q_nx M 116 = 1 then 8 else 0
theorem q_nr_lt : q_nr M = 0 ∨ M 157 7 < M 157 6 := by
  unfold q_nr
  have a1 := q_nx_01 (M := M) (c := 114)
  have a2 := q_nx_01 (M := M) (c := 119)
  have a3 := q_nx_01 (M := M) (c := 108)
  have a4 := q_nx_01 (M := M) (c := 116)
  by_cases h : M 157 7 < M 157 6
  · exact Or.inr h
  · have b1 : q_nx M 114 = 0 := by omega
    have b2 : q_nx M 119 = 0 := by omega
    have b3 : q_nx M 108 = 0 := by omega
    have b4 : q_nx M 116 = 0 := by omega
    simp [b1, b2, b3, b4]
theorem l_152 {t c : Int} (ht : 0 ≤ t ∧ t < 4) (hc : (mj_schr.getD (9013 - 9010) []).getD t.toNat 0 = c) (he : M 157 6 ≤ 160) (h0 : 0 ≤ M 157 7) : mj_Rn (d + 1) 152 2 [.inr (.inl 157), .inl t] [] (SGx 170) M Q = if q_nx M c = 1 then Q (some (.inl (mj_shl 1 t))) (SGx 170) M else mj_Rn (d + 1) 152 2 [.inr (.inl 157), .inl (t + 1)] [] (SGx 170) M Q := by
  have cl : mj_slen.getD (9013 - 9010) 0 = 4 := rfl
  have c4 : ((4 : Nat) : Int) = 4 := rfl
  rw [i_152_2]
  rcases q_nx_01 (M := M) (c := c) with h1 | ⟨h1, _⟩
  · simp (disch := omega) only [i_152_0, i_152_1, i_152_3, i_152_5, i_152_8, i_152_11, i_152_12, i_152_14, i_152_15, i_152_18, i_152_21, i_152_24, i_152_25, i_152_26, i_152_27, i_152_28, i_152_31, i_152_34, i_152_35, g_o157, g_r157_0, g_r157_1, g_r157_2, g_r157_3, g_r157_4, g_r157_5, g_a158, g_t158, g_a159, g_t159, g_a160, g_t160, g_a161, g_t161, g_a170, g_t170, exists_eq_left', Option.some.injEq, exists_eq_left, ne_eq, List.length_nil, List.length_cons, Option.toList_some, Option.toList_none, List.cons_append, List.nil_append, mj_wt_nil, mj_wt_i, mj_wt_r, mj_wt_l, true_and, and_true, false_and, and_false, true_implies, false_implies, implies_true, not_true_eq_false, not_false_eq_true, and_self, Int.reduceEq, Nat.reduceEqDiff, ↓reduceIte, mj_w_id2, e_146 he h0, h1, hc, cl, c4, if_true, if_false, Int.reduceLT]
    try grind [mj_w]
  · simp (disch := omega) only [i_152_0, i_152_1, i_152_3, i_152_5, i_152_8, i_152_11, i_152_12, i_152_14, i_152_15, i_152_18, i_152_21, i_152_24, i_152_25, i_152_26, i_152_27, i_152_28, i_152_31, i_152_34, i_152_35, g_o157, g_r157_0, g_r157_1, g_r157_2, g_r157_3, g_r157_4, g_r157_5, g_a158, g_t158, g_a159, g_t159, g_a160, g_t160, g_a161, g_t161, g_a170, g_t170, exists_eq_left', Option.some.injEq, exists_eq_left, ne_eq, List.length_nil, List.length_cons, Option.toList_some, Option.toList_none, List.cons_append, List.nil_append, mj_wt_nil, mj_wt_i, mj_wt_r, mj_wt_l, true_and, and_true, false_and, and_false, true_implies, false_implies, implies_true, not_true_eq_false, not_false_eq_true, and_self, Int.reduceEq, Nat.reduceEqDiff, ↓reduceIte, mj_w_id2, e_146 he h0, h1, hc, cl, c4, if_true, if_false, Int.reduceLT]
    try grind [mj_w]
theorem l_152e : mj_Rn (d + 1) 152 2 [.inr (.inl 157), .inl 4] [] (SGx 170) M Q = Q (some (.inl 0)) (SGx 170) M := by
  have cl : mj_slen.getD (9013 - 9010) 0 = 4 := rfl
  have c4 : ((4 : Nat) : Int) = 4 := rfl
  rw [i_152_2]
  simp (disch := omega) only [i_152_0, i_152_1, i_152_3, i_152_5, i_152_8, i_152_11, i_152_12, i_152_14, i_152_15, i_152_18, i_152_21, i_152_24, i_152_25, i_152_26, i_152_27, i_152_28, i_152_31, i_152_34, i_152_35, g_o157, g_r157_0, g_r157_1, g_r157_2, g_r157_3, g_r157_4, g_r157_5, g_a158, g_t158, g_a159, g_t159, g_a160, g_t160, g_a161, g_t161, g_a170, g_t170, exists_eq_left', Option.some.injEq, exists_eq_left, ne_eq, List.length_nil, List.length_cons, Option.toList_some, Option.toList_none, List.cons_append, List.nil_append, mj_wt_nil, mj_wt_i, mj_wt_r, mj_wt_l, true_and, and_true, false_and, and_false, true_implies, false_implies, implies_true, not_true_eq_false, not_false_eq_true, and_self, Int.reduceEq, Nat.reduceEqDiff, ↓reduceIte, mj_w_id2, cl, c4, if_true, if_false, Int.reduceLT]
  try grind [mj_w]
theorem e_152 (he : M 157 6 ≤ 160) (h0 : 0 ≤ M 157 7) : mj_Rn (d + 1) 152 0 [.inr (.inl 157), .inr (.inr 0)] [] (SGx 170) M Q = Q (some (.inl (q_nr M))) (SGx 170) M := by
  have s0 : mj_shl 1 0 = 1 := by decide
  have s1 : mj_shl 1 1 = 2 := by decide
  have s2 : mj_shl 1 2 = 4 := by decide
  have s3 : mj_shl 1 3 = 8 := by decide
  have a0 := l_152 (d := d) (Q := Q) (t := 0) (c := 114) (by omega) rfl he h0
  have a1 := l_152 (d := d) (Q := Q) (t := 1) (c := 119) (by omega) rfl he h0
  have a2 := l_152 (d := d) (Q := Q) (t := 2) (c := 108) (by omega) rfl he h0
  have a3 := l_152 (d := d) (Q := Q) (t := 3) (c := 116) (by omega) rfl he h0
  have a4 := l_152e (d := d) (M := M) (Q := Q)
  simp only [Int.reduceAdd, s0, s1, s2, s3] at a0 a1 a2 a3
  rw [i_152_0, i_152_1]
  unfold q_nr
  rw [a0, a1, a2, a3, a4]
  split
  · rfl
  · split
    · rfl
    · split
      · rfl
      · split <;> rfl
def q_rgM : Nat → Int → Int → mj_M → mj_M
  | 0, _, _, M => M
  | n + 1, a, b, M => if b ≠ 0 ∧ mj_and a b = 0 then q_rgM n (mj_or a b) (q_nr (q_at1 M)) (q_at1 M) else M
def q_rgV : Nat → Int → Int → mj_M → Int
  | 0, a, _, _ => a
  | n + 1, a, b, M => if b ≠ 0 ∧ mj_and a b = 0 then q_rgV n (mj_or a b) (q_nr (q_at1 M)) (q_at1 M) else a
theorem q_rgM_sp : ∀ (n : Nat) (a b : Int) (M : mj_M), (b = 0 ∨ M 157 7 < M 157 6) → q_sp M (q_rgM n a b M) := by
  intro n
  induction n with
  | zero => intro a b M h; exact q_sp_r
  | succ n ih =>
    intro a b M h
    unfold q_rgM
    split
    · rename_i hh
      exact q_sp_t (q_sp_at1 (by omega)) (ih _ _ _ q_nr_lt)
    · exact q_sp_r
theorem l_151 (n : Nat) : ∀ (t : Nat) (a b : Int) (M : mj_M), t + n = 4 → (b = 0 ∨ M 157 7 < M 157 6) → M 157 6 ≤ 160 → 0 ≤ M 157 7 →
    mj_Rn (d + 2) 151 20 [.inr (.inl 157), .inl a, .inl b, .inl (t : Int)] [] (SGx 170) M Q = Q (some (.inl (q_rgV n a b M))) (SGx 170) (q_rgM n a b M) := by
  have cl : mj_slen.getD (9013 - 9010) 0 = 4 := rfl
  induction n with
  | zero =>
    intro t a b M h hb he h0
    have h4 : (t : Int) = 4 := by omega
    rw [i_151_20, q_rgV, q_rgM]
    simp (disch := omega) only [i_151_0, i_151_1, i_151_2, i_151_3, i_151_6, i_151_9, i_151_10, i_151_13, i_151_16, i_151_17, i_151_18, i_151_19, i_151_21, i_151_23, i_151_26, i_151_29, i_151_30, i_151_33, i_151_34, i_151_35, i_151_36, i_151_39, i_151_40, i_151_41, i_151_42, i_151_43, i_151_44, i_151_45, i_151_48, i_151_49, i_151_50, i_151_53, i_151_54, i_151_57, i_151_58, i_151_61, i_151_64, i_151_65, g_o157, g_r157_0, g_r157_1, g_r157_2, g_r157_3, g_r157_4, g_r157_5, g_a158, g_t158, g_a159, g_t159, g_a160, g_t160, g_a161, g_t161, g_a170, g_t170, exists_eq_left', Option.some.injEq, exists_eq_left, ne_eq, List.length_nil, List.length_cons, Option.toList_some, Option.toList_none, List.cons_append, List.nil_append, mj_wt_nil, mj_wt_i, mj_wt_r, mj_wt_l, true_and, and_true, false_and, and_false, true_implies, false_implies, implies_true, not_true_eq_false, not_false_eq_true, and_self, Int.reduceEq, Nat.reduceEqDiff, ↓reduceIte, mj_w_id2, cl, h4, Int.toNat_natCast, Nat.reduceLeDiff, Int.reduceLT]
    try grind
  | succ n ih =>
    intro t a b M h hb he h0
    have h4 : (t : Int) < 4 := by omega
    have ef : mj_up M 157 7 (M 157 7 + 1) = q_at1 M := rfl
    rw [i_151_20, q_rgV, q_rgM]
    by_cases h1 : b = 0
    · clear ih
      simp (disch := omega) only [i_151_0, i_151_1, i_151_2, i_151_3, i_151_6, i_151_9, i_151_10, i_151_13, i_151_16, i_151_17, i_151_18, i_151_19, i_151_21, i_151_23, i_151_26, i_151_29, i_151_30, i_151_33, i_151_34, i_151_35, i_151_36, i_151_39, i_151_40, i_151_41, i_151_42, i_151_43, i_151_44, i_151_45, i_151_48, i_151_49, i_151_50, i_151_53, i_151_54, i_151_57, i_151_58, i_151_61, i_151_64, i_151_65, g_o157, g_r157_0, g_r157_1, g_r157_2, g_r157_3, g_r157_4, g_r157_5, g_a158, g_t158, g_a159, g_t159, g_a160, g_t160, g_a161, g_t161, g_a170, g_t170, exists_eq_left', Option.some.injEq, exists_eq_left, ne_eq, List.length_nil, List.length_cons, Option.toList_some, Option.toList_none, List.cons_append, List.nil_append, mj_wt_nil, mj_wt_i, mj_wt_r, mj_wt_l, true_and, and_true, false_and, and_false, true_implies, false_implies, implies_true, not_true_eq_false, not_false_eq_true, and_self, Int.reduceEq, Nat.reduceEqDiff, ↓reduceIte, mj_w_id2, cl, h1, h4, ef, Int.toNat_natCast, Nat.reduceLeDiff, Int.reduceLT]
      try grind
    · by_cases h2 : mj_and a b = 0
      · have hlt : M 157 7 < M 157 6 := by omega
        have sp := q_sp_at1 hlt
        have he2 : q_at1 M 157 6 ≤ 160 := by rw [sp.1]; exact he
        have h02 : 0 ≤ q_at1 M 157 7 := by have := sp.2.2.1; omega
        have i1 := ih (t + 1) (mj_or a b) (q_nr (q_at1 M)) (q_at1 M) (by omega) q_nr_lt he2 h02
        push_cast at i1
        clear ih
        simp (disch := omega) only [i_151_0, i_151_1, i_151_2, i_151_3, i_151_6, i_151_9, i_151_10, i_151_13, i_151_16, i_151_17, i_151_18, i_151_19, i_151_21, i_151_23, i_151_26, i_151_29, i_151_30, i_151_33, i_151_34, i_151_35, i_151_36, i_151_39, i_151_40, i_151_41, i_151_42, i_151_43, i_151_44, i_151_45, i_151_48, i_151_49, i_151_50, i_151_53, i_151_54, i_151_57, i_151_58, i_151_61, i_151_64, i_151_65, g_o157, g_r157_0, g_r157_1, g_r157_2, g_r157_3, g_r157_4, g_r157_5, g_a158, g_t158, g_a159, g_t159, g_a160, g_t160, g_a161, g_t161, g_a170, g_t170, exists_eq_left', Option.some.injEq, exists_eq_left, ne_eq, List.length_nil, List.length_cons, Option.toList_some, Option.toList_none, List.cons_append, List.nil_append, mj_wt_nil, mj_wt_i, mj_wt_r, mj_wt_l, true_and, and_true, false_and, and_false, true_implies, false_implies, implies_true, not_true_eq_false, not_false_eq_true, and_self, Int.reduceEq, Nat.reduceEqDiff, ↓reduceIte, mj_w_id2, e_152 he2 h02, cl, h1, h2, h4, ef, i1, Int.toNat_natCast, Nat.reduceLeDiff, Int.reduceLT]
        try grind [mj_w]
      · clear ih
        simp (disch := omega) only [i_151_0, i_151_1, i_151_2, i_151_3, i_151_6, i_151_9, i_151_10, i_151_13, i_151_16, i_151_17, i_151_18, i_151_19, i_151_21, i_151_23, i_151_26, i_151_29, i_151_30, i_151_33, i_151_34, i_151_35, i_151_36, i_151_39, i_151_40, i_151_41, i_151_42, i_151_43, i_151_44, i_151_45, i_151_48, i_151_49, i_151_50, i_151_53, i_151_54, i_151_57, i_151_58, i_151_61, i_151_64, i_151_65, g_o157, g_r157_0, g_r157_1, g_r157_2, g_r157_3, g_r157_4, g_r157_5, g_a158, g_t158, g_a159, g_t159, g_a160, g_t160, g_a161, g_t161, g_a170, g_t170, exists_eq_left', Option.some.injEq, exists_eq_left, ne_eq, List.length_nil, List.length_cons, Option.toList_some, Option.toList_none, List.cons_append, List.nil_append, mj_wt_nil, mj_wt_i, mj_wt_r, mj_wt_l, true_and, and_true, false_and, and_false, true_implies, false_implies, implies_true, not_true_eq_false, not_false_eq_true, and_self, Int.reduceEq, Nat.reduceEqDiff, ↓reduceIte, mj_w_id2, cl, h1, h2, h4, ef, Int.toNat_natCast, Nat.reduceLeDiff, Int.reduceLT]
        try grind
def q_rtM (M : mj_M) : mj_M := if q_blB M = 1 then q_rgM 4 0 (q_nr (q_bl 160 M)) (q_bl 160 M) else q_bl 160 M
def q_rtV (M : mj_M) : Int := if q_blB M = 1 then q_rgV 4 0 (q_nr (q_bl 160 M)) (q_bl 160 M) else 0
theorem q_rtM_sp : q_sp M (q_rtM M) := by
  unfold q_rtM
  split
  · exact q_sp_t (q_bl_sp 160 M) (q_rgM_sp _ _ _ _ q_nr_lt)
  · exact q_bl_sp 160 M
theorem e_151 (he : M 157 6 ≤ 160) (h0 : 0 ≤ M 157 7) : mj_Rn (d + 2) 151 0 [.inr (.inl 157), .inr (.inr 0), .inr (.inr 0), .inr (.inr 0)] [] (SGx 170) M Q = Q (some (.inl (q_rtV M))) (SGx 170) (q_rtM M) := by
  have sb := q_bl_sp 160 M
  have he2 : q_bl 160 M 157 6 ≤ 160 := by rw [sb.1]; exact he
  have h02 : 0 ≤ q_bl 160 M 157 7 := by have := sb.2.2.1; omega
  unfold q_rtM q_rtV
  rcases q_blB_01 (M := M) with hb | hb
  · have h := l_151 (d := d) (Q := Q) 4 0 0 0 (q_bl 160 M) rfl (Or.inl rfl) he2 h02
    have z1 : q_rgV 4 0 0 (q_bl 160 M) = 0 := by unfold q_rgV; simp
    have z2 : q_rgM 4 0 0 (q_bl 160 M) = q_bl 160 M := by unfold q_rgM; simp
    rw [z1, z2] at h
    push_cast at h
    simp (disch := omega) only [i_151_0, i_151_1, i_151_2, i_151_3, i_151_6, i_151_9, i_151_10, i_151_13, i_151_16, i_151_17, i_151_18, i_151_19, i_151_21, i_151_23, i_151_26, i_151_29, i_151_30, i_151_33, i_151_34, i_151_35, i_151_36, i_151_39, i_151_40, i_151_41, i_151_42, i_151_43, i_151_44, i_151_45, i_151_48, i_151_49, i_151_50, i_151_53, i_151_54, i_151_57, i_151_58, i_151_61, i_151_64, i_151_65, g_o157, g_r157_0, g_r157_1, g_r157_2, g_r157_3, g_r157_4, g_r157_5, g_a158, g_t158, g_a159, g_t159, g_a160, g_t160, g_a161, g_t161, g_a170, g_t170, exists_eq_left', Option.some.injEq, exists_eq_left, ne_eq, List.length_nil, List.length_cons, Option.toList_some, Option.toList_none, List.cons_append, List.nil_append, mj_wt_nil, mj_wt_i, mj_wt_r, mj_wt_l, true_and, and_true, false_and, and_false, true_implies, false_implies, implies_true, not_true_eq_false, not_false_eq_true, and_self, Int.reduceEq, Nat.reduceEqDiff, ↓reduceIte, mj_w_id2, e_150 he h0, e_152 he2 h02, hb, h]
    try grind
  · have h := l_151 (d := d) (Q := Q) 4 0 0 (q_nr (q_bl 160 M)) (q_bl 160 M) rfl q_nr_lt he2 h02
    push_cast at h
    simp (disch := omega) only [i_151_0, i_151_1, i_151_2, i_151_3, i_151_6, i_151_9, i_151_10, i_151_13, i_151_16, i_151_17, i_151_18, i_151_19, i_151_21, i_151_23, i_151_26, i_151_29, i_151_30, i_151_33, i_151_34, i_151_35, i_151_36, i_151_39, i_151_40, i_151_41, i_151_42, i_151_43, i_151_44, i_151_45, i_151_48, i_151_49, i_151_50, i_151_53, i_151_54, i_151_57, i_151_58, i_151_61, i_151_64, i_151_65, g_o157, g_r157_0, g_r157_1, g_r157_2, g_r157_3, g_r157_4, g_r157_5, g_a158, g_t158, g_a159, g_t159, g_a160, g_t160, g_a161, g_t161, g_a170, g_t170, exists_eq_left', Option.some.injEq, exists_eq_left, ne_eq, List.length_nil, List.length_cons, Option.toList_some, Option.toList_none, List.cons_append, List.nil_append, mj_wt_nil, mj_wt_i, mj_wt_r, mj_wt_l, true_and, and_true, false_and, and_false, true_implies, false_implies, implies_true, not_true_eq_false, not_false_eq_true, and_self, Int.reduceEq, Nat.reduceEqDiff, ↓reduceIte, mj_w_id2, e_150 he h0, e_152 he2 h02, hb, h]
    try grind
def q_rpA (M : mj_M) (k : Int) : mj_M := mj_up M 158 (M 157 9).toNat k
def q_rpB (cs : List Int) (M : mj_M) (k : Int) : mj_M := q_wdM cs cs.length 0 (q_rpA M k)
def q_rpX (B : mj_M) : mj_M := mj_up (q_nmM B) 159 (B 157 9).toNat (q_nmM B 157 8)
def q_rpY (B : mj_M) : mj_M := mj_up (q_nmM B) 160 (B 157 9).toNat (q_nmM B 157 8)
def q_rpT (B : mj_M) : mj_M := mj_up (q_rtM B) 161 (B 157 9).toNat (q_rtV B)
def q_rp (cs : List Int) (M : mj_M) (k : Int) : Int :=
  if q_wdR cs cs.length 0 (q_rpA M k) = 0 then 0 else
  if q_nm (q_rpB cs M k) = 0 then 0 else
  if q_nm (q_rpX (q_rpB cs M k)) = 0 then 0 else
  if k = 2 then 1 else if q_rtV (q_rpY (q_rpX (q_rpB cs M k))) = 0 then 0 else 1
def q_rpM (cs : List Int) (M : mj_M) (k : Int) : mj_M :=
  if q_wdR cs cs.length 0 (q_rpA M k) = 0 then q_rpB cs M k else
  if q_nm (q_rpB cs M k) = 0 then q_nmM (q_rpB cs M k) else
  if q_nm (q_rpX (q_rpB cs M k)) = 0 then q_nmM (q_rpX (q_rpB cs M k)) else
  if k = 2 then q_rpY (q_rpX (q_rpB cs M k)) else q_rpT (q_rpY (q_rpX (q_rpB cs M k)))
theorem q_rpB_sp {cs : List Int} {k : Int} : q_sp M (q_rpB cs M k) := q_sp_t (q_sp_up q_sp_r (by omega)) (q_wdM_sp _ _ _)
theorem q_rpX_sp : q_sp M (q_rpX M) := q_sp_up q_nmM_sp (by omega)
theorem q_rpY_sp : q_sp M (q_rpY M) := q_sp_up q_nmM_sp (by omega)
theorem q_rpT_sp : q_sp M (q_rpT M) := q_sp_up q_rtM_sp (by omega)
theorem q_rpM_sp {cs : List Int} {k : Int} : q_sp M (q_rpM cs M k) := by
  unfold q_rpM
  split
  · exact q_rpB_sp
  · split
    · exact q_sp_t q_rpB_sp q_nmM_sp
    · split
      · exact q_sp_t (q_sp_t q_rpB_sp q_rpX_sp) q_nmM_sp
      · split
        · exact q_sp_t (q_sp_t q_rpB_sp q_rpX_sp) q_rpY_sp
        · exact q_sp_t (q_sp_t (q_sp_t q_rpB_sp q_rpX_sp) q_rpY_sp) q_rpT_sp
theorem q_sp_le {A : mj_M} (h : q_sp M A) (he : M 157 6 ≤ 160) : A 157 6 ≤ 160 := by rw [h.1]; exact he
theorem q_sp_ge {A : mj_M} (h : q_sp M A) (h0 : 0 ≤ M 157 7) : 0 ≤ A 157 7 := by have := h.2.2.1; omega
theorem e_147 {k : Int} {w : Nat} {cs : List Int} (hw : 9010 ≤ w ∧ w < 9014) (hl : mj_slen.getD (w - 9010) 0 = cs.length) (hc : mj_schr.getD (w - 9010) [] = cs) (h9 : cs.length ≤ 9) (h9b : 0 ≤ M 157 9 ∧ M 157 9 < 160) (he : M 157 6 ≤ 160) (h0 : 0 ≤ M 157 7) : mj_Rn (d + 3) 147 0 [.inr (.inl 157), .inl k, .inr (.inl w)] [] (SGx 170) M Q = Q (some (.inl (q_rp cs M k))) (SGx 170) (q_rpM cs M k) := by
  have sA : q_sp M (q_rpA M k) := q_sp_up q_sp_r (by omega)
  have sB : q_sp M (q_rpB cs M k) := q_rpB_sp
  have sX : q_sp M (q_rpX (q_rpB cs M k)) := q_sp_t sB q_rpX_sp
  have sY : q_sp M (q_rpY (q_rpX (q_rpB cs M k))) := q_sp_t sX q_rpY_sp
  have heA := q_sp_le sA he
  have h0A := q_sp_ge sA h0
  have heB := q_sp_le sB he
  have h0B := q_sp_ge sB h0
  have heX := q_sp_le sX he
  have h0X := q_sp_ge sX h0
  have heY := q_sp_le sY he
  have h0Y := q_sp_ge sY h0
  have nB : q_nmM (q_rpB cs M k) 157 9 = M 157 9 := (q_sp_t sB q_nmM_sp).2.1
  have nX : q_nmM (q_rpX (q_rpB cs M k)) 157 9 = M 157 9 := (q_sp_t sX q_nmM_sp).2.1
  have nY : q_rpY (q_rpX (q_rpB cs M k)) 157 9 = M 157 9 := sY.2.1
  have nT : q_rtM (q_rpY (q_rpX (q_rpB cs M k))) 157 9 = M 157 9 := (q_sp_t sY q_rtM_sp).2.1
  have fA : mj_up M 158 (M 157 9).toNat k = q_rpA M k := rfl
  have fB : q_wdM cs cs.length 0 (q_rpA M k) = q_rpB cs M k := rfl
  have fX : mj_up (q_nmM (q_rpB cs M k)) 159 (M 157 9).toNat (q_nmM (q_rpB cs M k) 157 8) = q_rpX (q_rpB cs M k) := by unfold q_rpX; rw [sB.2.1]
  have fY : mj_up (q_nmM (q_rpX (q_rpB cs M k))) 160 (M 157 9).toNat (q_nmM (q_rpX (q_rpB cs M k)) 157 8) = q_rpY (q_rpX (q_rpB cs M k)) := by unfold q_rpY; rw [sX.2.1]
  have fT : mj_up (q_rtM (q_rpY (q_rpX (q_rpB cs M k)))) 161 (M 157 9).toNat (q_rtV (q_rpY (q_rpX (q_rpB cs M k)))) = q_rpT (q_rpY (q_rpX (q_rpB cs M k))) := by unfold q_rpT; rw [sY.2.1]
  have nT2 : q_rpT (q_rpY (q_rpX (q_rpB cs M k))) 157 9 = M 157 9 := (q_sp_t sY q_rpT_sp).2.1
  have nT3 : q_rpT (q_rpY (q_rpX (q_rpB cs M k))) 161 (M 157 9).toNat = q_rtV (q_rpY (q_rpX (q_rpB cs M k))) := by rw [← fT]; simp [mj_up]
  have hwd : ∀ Q, mj_Rn (d + 2) 148 0 [.inr (.inl 157), .inr (.inl w), .inr (.inr 0)] [] (SGx 170) (q_rpA M k) Q = Q (some (.inl (q_wdR cs cs.length 0 (q_rpA M k)))) (SGx 170) (q_rpB cs M k) := by
    intro Q
    have h := l_148 (d := d + 1) (Q := Q) hw hl hc h9 cs.length 0 (q_rpA M k) (by omega) heA h0A
    rw [i_148_0, i_148_1]
    exact h
  unfold q_rp q_rpM
  rcases q_wdR_01 (cs := cs) cs.length 0 (q_rpA M k) with c1 | c1
  · simp (disch := omega) only [i_147_0, i_147_1, i_147_4, i_147_5, i_147_8, i_147_9, i_147_10, i_147_11, i_147_12, i_147_15, i_147_18, i_147_19, i_147_22, i_147_25, i_147_26, i_147_27, i_147_28, i_147_31, i_147_32, i_147_35, i_147_36, i_147_39, i_147_40, i_147_41, i_147_44, i_147_47, i_147_48, i_147_49, i_147_50, i_147_53, i_147_54, i_147_57, i_147_58, i_147_61, i_147_62, i_147_63, i_147_64, i_147_67, i_147_68, i_147_69, i_147_70, i_147_73, i_147_74, i_147_77, i_147_78, i_147_81, i_147_82, i_147_83, i_147_86, i_147_87, i_147_90, i_147_91, i_147_94, i_147_95, i_147_98, i_147_99, g_o157, g_r157_0, g_r157_1, g_r157_2, g_r157_3, g_r157_4, g_r157_5, g_a158, g_t158, g_a159, g_t159, g_a160, g_t160, g_a161, g_t161, g_a170, g_t170, exists_eq_left', Option.some.injEq, exists_eq_left, ne_eq, List.length_nil, List.length_cons, Option.toList_some, Option.toList_none, List.cons_append, List.nil_append, mj_wt_nil, mj_wt_i, mj_wt_r, mj_wt_l, true_and, and_true, false_and, and_false, true_implies, false_implies, implies_true, not_true_eq_false, not_false_eq_true, and_self, Int.reduceEq, Nat.reduceEqDiff, ↓reduceIte, mj_w_id2, hwd, e_149 heB h0B, e_149 heX h0X, e_151 heY h0Y, nB, nX, nY, nT, fA, fX, fY, fT, nT2, nT3, c1, if_true, if_false]
    try grind
  · rcases q_nm_01 (M := q_rpB cs M k) with c2 | c2
    · simp (disch := omega) only [i_147_0, i_147_1, i_147_4, i_147_5, i_147_8, i_147_9, i_147_10, i_147_11, i_147_12, i_147_15, i_147_18, i_147_19, i_147_22, i_147_25, i_147_26, i_147_27, i_147_28, i_147_31, i_147_32, i_147_35, i_147_36, i_147_39, i_147_40, i_147_41, i_147_44, i_147_47, i_147_48, i_147_49, i_147_50, i_147_53, i_147_54, i_147_57, i_147_58, i_147_61, i_147_62, i_147_63, i_147_64, i_147_67, i_147_68, i_147_69, i_147_70, i_147_73, i_147_74, i_147_77, i_147_78, i_147_81, i_147_82, i_147_83, i_147_86, i_147_87, i_147_90, i_147_91, i_147_94, i_147_95, i_147_98, i_147_99, g_o157, g_r157_0, g_r157_1, g_r157_2, g_r157_3, g_r157_4, g_r157_5, g_a158, g_t158, g_a159, g_t159, g_a160, g_t160, g_a161, g_t161, g_a170, g_t170, exists_eq_left', Option.some.injEq, exists_eq_left, ne_eq, List.length_nil, List.length_cons, Option.toList_some, Option.toList_none, List.cons_append, List.nil_append, mj_wt_nil, mj_wt_i, mj_wt_r, mj_wt_l, true_and, and_true, false_and, and_false, true_implies, false_implies, implies_true, not_true_eq_false, not_false_eq_true, and_self, Int.reduceEq, Nat.reduceEqDiff, ↓reduceIte, mj_w_id2, hwd, e_149 heB h0B, e_149 heX h0X, e_151 heY h0Y, nB, nX, nY, nT, fA, fX, fY, fT, nT2, nT3, c1, c2, if_true, if_false]
      try grind
    · rcases q_nm_01 (M := q_rpX (q_rpB cs M k)) with c3 | c3
      · simp (disch := omega) only [i_147_0, i_147_1, i_147_4, i_147_5, i_147_8, i_147_9, i_147_10, i_147_11, i_147_12, i_147_15, i_147_18, i_147_19, i_147_22, i_147_25, i_147_26, i_147_27, i_147_28, i_147_31, i_147_32, i_147_35, i_147_36, i_147_39, i_147_40, i_147_41, i_147_44, i_147_47, i_147_48, i_147_49, i_147_50, i_147_53, i_147_54, i_147_57, i_147_58, i_147_61, i_147_62, i_147_63, i_147_64, i_147_67, i_147_68, i_147_69, i_147_70, i_147_73, i_147_74, i_147_77, i_147_78, i_147_81, i_147_82, i_147_83, i_147_86, i_147_87, i_147_90, i_147_91, i_147_94, i_147_95, i_147_98, i_147_99, g_o157, g_r157_0, g_r157_1, g_r157_2, g_r157_3, g_r157_4, g_r157_5, g_a158, g_t158, g_a159, g_t159, g_a160, g_t160, g_a161, g_t161, g_a170, g_t170, exists_eq_left', Option.some.injEq, exists_eq_left, ne_eq, List.length_nil, List.length_cons, Option.toList_some, Option.toList_none, List.cons_append, List.nil_append, mj_wt_nil, mj_wt_i, mj_wt_r, mj_wt_l, true_and, and_true, false_and, and_false, true_implies, false_implies, implies_true, not_true_eq_false, not_false_eq_true, and_self, Int.reduceEq, Nat.reduceEqDiff, ↓reduceIte, mj_w_id2, hwd, e_149 heB h0B, e_149 heX h0X, e_151 heY h0Y, nB, nX, nY, nT, fA, fX, fY, fT, nT2, nT3, c1, c2, c3, if_true, if_false]
        try grind
      · by_cases hk : k = 2
        · subst hk
          simp (disch := omega) only [i_147_0, i_147_1, i_147_4, i_147_5, i_147_8, i_147_9, i_147_10, i_147_11, i_147_12, i_147_15, i_147_18, i_147_19, i_147_22, i_147_25, i_147_26, i_147_27, i_147_28, i_147_31, i_147_32, i_147_35, i_147_36, i_147_39, i_147_40, i_147_41, i_147_44, i_147_47, i_147_48, i_147_49, i_147_50, i_147_53, i_147_54, i_147_57, i_147_58, i_147_61, i_147_62, i_147_63, i_147_64, i_147_67, i_147_68, i_147_69, i_147_70, i_147_73, i_147_74, i_147_77, i_147_78, i_147_81, i_147_82, i_147_83, i_147_86, i_147_87, i_147_90, i_147_91, i_147_94, i_147_95, i_147_98, i_147_99, g_o157, g_r157_0, g_r157_1, g_r157_2, g_r157_3, g_r157_4, g_r157_5, g_a158, g_t158, g_a159, g_t159, g_a160, g_t160, g_a161, g_t161, g_a170, g_t170, exists_eq_left', Option.some.injEq, exists_eq_left, ne_eq, List.length_nil, List.length_cons, Option.toList_some, Option.toList_none, List.cons_append, List.nil_append, mj_wt_nil, mj_wt_i, mj_wt_r, mj_wt_l, true_and, and_true, false_and, and_false, true_implies, false_implies, implies_true, not_true_eq_false, not_false_eq_true, and_self, Int.reduceEq, Nat.reduceEqDiff, ↓reduceIte, mj_w_id2, hwd, e_149 heB h0B, e_149 heX h0X, e_151 heY h0Y, nB, nX, nY, nT, fA, fX, fY, fT, nT2, nT3, c1, c2, c3, if_true, if_false]
          try grind
        · by_cases c4 : q_rtV (q_rpY (q_rpX (q_rpB cs M k))) = 0
          · have fT2 := fT
            rw [c4] at fT2
            simp (disch := omega) only [i_147_0, i_147_1, i_147_4, i_147_5, i_147_8, i_147_9, i_147_10, i_147_11, i_147_12, i_147_15, i_147_18, i_147_19, i_147_22, i_147_25, i_147_26, i_147_27, i_147_28, i_147_31, i_147_32, i_147_35, i_147_36, i_147_39, i_147_40, i_147_41, i_147_44, i_147_47, i_147_48, i_147_49, i_147_50, i_147_53, i_147_54, i_147_57, i_147_58, i_147_61, i_147_62, i_147_63, i_147_64, i_147_67, i_147_68, i_147_69, i_147_70, i_147_73, i_147_74, i_147_77, i_147_78, i_147_81, i_147_82, i_147_83, i_147_86, i_147_87, i_147_90, i_147_91, i_147_94, i_147_95, i_147_98, i_147_99, g_o157, g_r157_0, g_r157_1, g_r157_2, g_r157_3, g_r157_4, g_r157_5, g_a158, g_t158, g_a159, g_t159, g_a160, g_t160, g_a161, g_t161, g_a170, g_t170, exists_eq_left', Option.some.injEq, exists_eq_left, ne_eq, List.length_nil, List.length_cons, Option.toList_some, Option.toList_none, List.cons_append, List.nil_append, mj_wt_nil, mj_wt_i, mj_wt_r, mj_wt_l, true_and, and_true, false_and, and_false, true_implies, false_implies, implies_true, not_true_eq_false, not_false_eq_true, and_self, Int.reduceEq, Nat.reduceEqDiff, ↓reduceIte, mj_w_id2, hwd, e_149 heB h0B, e_149 heX h0X, e_151 heY h0Y, nB, nX, nY, nT, fA, fX, fY, fT, fT2, nT2, nT3, c1, c2, c3, hk, c4, if_true, if_false]
            try grind
          · simp (disch := omega) only [i_147_0, i_147_1, i_147_4, i_147_5, i_147_8, i_147_9, i_147_10, i_147_11, i_147_12, i_147_15, i_147_18, i_147_19, i_147_22, i_147_25, i_147_26, i_147_27, i_147_28, i_147_31, i_147_32, i_147_35, i_147_36, i_147_39, i_147_40, i_147_41, i_147_44, i_147_47, i_147_48, i_147_49, i_147_50, i_147_53, i_147_54, i_147_57, i_147_58, i_147_61, i_147_62, i_147_63, i_147_64, i_147_67, i_147_68, i_147_69, i_147_70, i_147_73, i_147_74, i_147_77, i_147_78, i_147_81, i_147_82, i_147_83, i_147_86, i_147_87, i_147_90, i_147_91, i_147_94, i_147_95, i_147_98, i_147_99, g_o157, g_r157_0, g_r157_1, g_r157_2, g_r157_3, g_r157_4, g_r157_5, g_a158, g_t158, g_a159, g_t159, g_a160, g_t160, g_a161, g_t161, g_a170, g_t170, exists_eq_left', Option.some.injEq, exists_eq_left, ne_eq, List.length_nil, List.length_cons, Option.toList_some, Option.toList_none, List.cons_append, List.nil_append, mj_wt_nil, mj_wt_i, mj_wt_r, mj_wt_l, true_and, and_true, false_and, and_false, true_implies, false_implies, implies_true, not_true_eq_false, not_false_eq_true, and_self, Int.reduceEq, Nat.reduceEqDiff, ↓reduceIte, mj_w_id2, hwd, e_149 heB h0B, e_149 heX h0X, e_151 heY h0Y, nB, nX, nY, nT, fA, fX, fY, fT, nT2, nT3, c1, c2, c3, hk, c4, if_true, if_false]
            try grind
theorem q_rp_01 {cs : List Int} {k : Int} : q_rp cs M k = 0 ∨ q_rp cs M k = 1 := by
  unfold q_rp
  split
  · exact Or.inl rfl
  · split
    · exact Or.inl rfl
    · split
      · exact Or.inl rfl
      · split
        · exact Or.inr rfl
        · split
          · exact Or.inl rfl
          · exact Or.inr rfl
def q_stt (M : mj_M) : Int := if q_nx M 103 = 1 then q_rp [103, 101, 116, 115] M 0 else if q_nx M 110 = 1 then q_rp [110, 101, 118, 101, 114] M 1 else q_rp [97, 112, 97, 114, 116] M 2
def q_sttM (M : mj_M) : mj_M := if q_nx M 103 = 1 then q_rpM [103, 101, 116, 115] M 0 else if q_nx M 110 = 1 then q_rpM [110, 101, 118, 101, 114] M 1 else q_rpM [97, 112, 97, 114, 116] M 2
theorem q_sttM_sp : q_sp M (q_sttM M) := by unfold q_sttM; split; exact q_rpM_sp; split; exact q_rpM_sp; exact q_rpM_sp
theorem e_145 (h9b : 0 ≤ M 157 9 ∧ M 157 9 < 160) (he : M 157 6 ≤ 160) (h0 : 0 ≤ M 157 7) : mj_Rn (d + 4) 145 0 [.inr (.inl 157)] [] (SGx 170) M Q = Q (some (.inl (q_stt M))) (SGx 170) (q_sttM M) := by
  have w1 : ∀ Q, mj_Rn (d + 3) 147 0 [.inr (.inl 157), .inl 0, .inr (.inl 9010)] [] (SGx 170) M Q = Q (some (.inl (q_rp [103, 101, 116, 115] M 0))) (SGx 170) (q_rpM [103, 101, 116, 115] M 0) := fun Q => e_147 (k := 0) (w := 9010) (cs := [103, 101, 116, 115]) (by omega) rfl rfl (by decide) h9b he h0
  have w2 : ∀ Q, mj_Rn (d + 3) 147 0 [.inr (.inl 157), .inl 1, .inr (.inl 9011)] [] (SGx 170) M Q = Q (some (.inl (q_rp [110, 101, 118, 101, 114] M 1))) (SGx 170) (q_rpM [110, 101, 118, 101, 114] M 1) := fun Q => e_147 (k := 1) (w := 9011) (cs := [110, 101, 118, 101, 114]) (by omega) rfl rfl (by decide) h9b he h0
  have w3 : ∀ Q, mj_Rn (d + 3) 147 0 [.inr (.inl 157), .inl 2, .inr (.inl 9012)] [] (SGx 170) M Q = Q (some (.inl (q_rp [97, 112, 97, 114, 116] M 2))) (SGx 170) (q_rpM [97, 112, 97, 114, 116] M 2) := fun Q => e_147 (k := 2) (w := 9012) (cs := [97, 112, 97, 114, 116]) (by omega) rfl rfl (by decide) h9b he h0
  have z1 := q_rp_01 (M := M) (cs := [103, 101, 116, 115]) (k := 0)
  have z2 := q_rp_01 (M := M) (cs := [110, 101, 118, 101, 114]) (k := 1)
  have z3 := q_rp_01 (M := M) (cs := [97, 112, 97, 114, 116]) (k := 2)
  unfold q_stt q_sttM
  rcases q_nx_01 (M := M) (c := 103) with h1 | ⟨h1, _⟩
  · rcases q_nx_01 (M := M) (c := 110) with h2 | ⟨h2, _⟩
    · simp (disch := omega) only [i_145_0, i_145_1, i_145_3, i_145_6, i_145_9, i_145_10, i_145_11, i_145_13, i_145_16, i_145_17, i_145_18, i_145_20, i_145_23, i_145_26, i_145_27, i_145_28, i_145_30, i_145_33, i_145_34, i_145_35, i_145_36, i_145_38, i_145_41, g_o157, g_r157_0, g_r157_1, g_r157_2, g_r157_3, g_r157_4, g_r157_5, g_a158, g_t158, g_a159, g_t159, g_a160, g_t160, g_a161, g_t161, g_a170, g_t170, exists_eq_left', Option.some.injEq, exists_eq_left, ne_eq, List.length_nil, List.length_cons, Option.toList_some, Option.toList_none, List.cons_append, List.nil_append, mj_wt_nil, mj_wt_i, mj_wt_r, mj_wt_l, true_and, and_true, false_and, and_false, true_implies, false_implies, implies_true, not_true_eq_false, not_false_eq_true, and_self, Int.reduceEq, Nat.reduceEqDiff, ↓reduceIte, mj_w_id2, e_146 he h0, h1, h2, w1, w2, w3]
      try grind
    · simp (disch := omega) only [i_145_0, i_145_1, i_145_3, i_145_6, i_145_9, i_145_10, i_145_11, i_145_13, i_145_16, i_145_17, i_145_18, i_145_20, i_145_23, i_145_26, i_145_27, i_145_28, i_145_30, i_145_33, i_145_34, i_145_35, i_145_36, i_145_38, i_145_41, g_o157, g_r157_0, g_r157_1, g_r157_2, g_r157_3, g_r157_4, g_r157_5, g_a158, g_t158, g_a159, g_t159, g_a160, g_t160, g_a161, g_t161, g_a170, g_t170, exists_eq_left', Option.some.injEq, exists_eq_left, ne_eq, List.length_nil, List.length_cons, Option.toList_some, Option.toList_none, List.cons_append, List.nil_append, mj_wt_nil, mj_wt_i, mj_wt_r, mj_wt_l, true_and, and_true, false_and, and_false, true_implies, false_implies, implies_true, not_true_eq_false, not_false_eq_true, and_self, Int.reduceEq, Nat.reduceEqDiff, ↓reduceIte, mj_w_id2, e_146 he h0, h1, h2, w1, w2, w3]
      try grind
  · simp (disch := omega) only [i_145_0, i_145_1, i_145_3, i_145_6, i_145_9, i_145_10, i_145_11, i_145_13, i_145_16, i_145_17, i_145_18, i_145_20, i_145_23, i_145_26, i_145_27, i_145_28, i_145_30, i_145_33, i_145_34, i_145_35, i_145_36, i_145_38, i_145_41, g_o157, g_r157_0, g_r157_1, g_r157_2, g_r157_3, g_r157_4, g_r157_5, g_a158, g_t158, g_a159, g_t159, g_a160, g_t160, g_a161, g_t161, g_a170, g_t170, exists_eq_left', Option.some.injEq, exists_eq_left, ne_eq, List.length_nil, List.length_cons, Option.toList_some, Option.toList_none, List.cons_append, List.nil_append, mj_wt_nil, mj_wt_i, mj_wt_r, mj_wt_l, true_and, and_true, false_and, and_false, true_implies, false_implies, implies_true, not_true_eq_false, not_false_eq_true, and_self, Int.reduceEq, Nat.reduceEqDiff, ↓reduceIte, mj_w_id2, e_146 he h0, h1, w1, w2, w3]
    try grind
end sp70
