section sp40
variable {x : Nat} {M : mj_M} {Q : Option mj_V → mj_G → mj_M → Prop} {d : Nat}
theorem mj_w_id2 {x : Int} (h : -2147483648 ≤ x) (h2 : x < 2147483648) : mj_w x = x := mj_w_id ⟨h, h2⟩
/-- what is in range in the class's rows, whatever is there -/
def q_wr (M : mj_M) : Prop := (∀ t : Nat, t < 120 → -1 ≤ M 3 t ∧ M 3 t ≤ 3) ∧ (∀ t : Nat, t < 120 → -1 ≤ M 4 t ∧ M 4 t < 40) ∧ (∀ t : Nat, t < 120 → -1 ≤ M 7 t ∧ M 7 t < 120) ∧ (∀ t : Nat, t < 120 → 0 ≤ M 8 t ∧ M 8 t < 40) ∧ (∀ t : Nat, t < 120 → 0 ≤ M 9 t ∧ M 9 t < 10) ∧ (∀ t : Nat, t < 120 → -1 ≤ M 10 t ∧ M 10 t ≤ 40) ∧
  (∀ i : Nat, i < 400 → -1 ≤ M 42 i ∧ M 42 i < 120) ∧ (∀ i : Nat, i < 40 → -1 ≤ M 14 i ∧ M 14 i < 6) ∧ (∀ i : Nat, i < 40 → -1 ≤ M 15 i ∧ M 15 i < 120) ∧ (∀ i : Nat, i < 40 → 0 ≤ M 17 i ∧ M 17 i < 100000000) ∧ (∀ i : Nat, i < 40 → 0 ≤ M 18 i ∧ M 18 i ≤ 30) ∧ (∀ i : Nat, i < 40 → 0 ≤ M 19 i ∧ M 19 i ≤ 30) ∧
  (∀ r : Nat, r < 8 → 0 ≤ M 23 r ∧ M 23 r < 40) ∧ (∀ r : Nat, r < 8 → -1 ≤ M 27 r ∧ M 27 r < 40) ∧ (∀ r : Nat, r < 8 → -1 ≤ M 28 r ∧ M 28 r < 40) ∧ (∀ r : Nat, r < 8 → -1 ≤ M 29 r ∧ M 29 r < 8) ∧ (∀ r : Nat, r < 8 → -1 ≤ M 30 r ∧ M 30 r < 8) ∧ (∀ r : Nat, r < 8 → 0 ≤ M 31 r ∧ M 31 r ≤ 40) ∧
  (0 ≤ M 22 13 ∧ M 22 13 ≤ 8) ∧ (0 ≤ M 36 5 ∧ M 36 5 ≤ 20) ∧ (0 ≤ M 1 6 ∧ M 1 6 ≤ 16) ∧ (0 ≤ M 1 7 ∧ M 1 7 ≤ 9999) ∧ (-1 ≤ M 1 10 ∧ M 1 10 < 8)
def q_of (M : mj_M) (t w : Int) : Int := if 0 ≤ t ∧ t < 40 ∧ M 14 t.toNat = w then 1 else 0
theorem e_20 {t w : Int}  : mj_Rn d 20 0 [.inr (.inl 13), .inl t, .inl w] [] (SGx x) M Q = Q (some (.inl (q_of M t w))) (SGx x) M := by
  simp (disch := omega) only [i_20_0, i_20_1, i_20_4, i_20_5, i_20_7, i_20_10, i_20_11, i_20_14, i_20_15, i_20_16, i_20_17, i_20_20, i_20_21, i_20_24, i_20_25, g_o13, g_r13_0, g_r13_1, g_r13_2, g_r13_3, g_r13_4, g_r13_5, g_r13_6, g_r13_7, g_a14, g_t14, g_a15, g_t15, g_a16, g_t16, g_a17, g_t17, g_a18, g_t18, g_a19, g_t19, g_a20, g_t20, g_a21, g_t21, exists_eq_left', Option.some.injEq, exists_eq_left, ne_eq, List.length_nil, List.length_cons, Option.toList_some, Option.toList_none, List.cons_append, List.nil_append, mj_w_id2]
  grind (splits := 40) [q_of, mj_w]
theorem e_19 {t : Int}  : mj_Rn (d + 1) 19 0 [.inr (.inl 1), .inl t] [] (SGx x) M Q = Q (some (.inl (q_of M t 1))) (SGx x) M := by
  simp (disch := omega) only [i_19_0, i_19_1, i_19_4, i_19_5, i_19_6, i_19_9, g_o1, g_r1_0, g_r1_1, g_r1_2, g_r1_3, g_r1_4, g_r1_5, g_a42, g_t42, g_a43, g_t43, g_o13, g_r13_0, g_r13_1, g_r13_2, g_r13_3, g_r13_4, g_r13_5, g_r13_6, g_r13_7, exists_eq_left', Option.some.injEq, exists_eq_left, ne_eq, List.length_nil, List.length_cons, Option.toList_some, Option.toList_none, List.cons_append, List.nil_append, mj_w_id2, e_20]
  grind (splits := 40) [q_of, mj_w]
def q_meet (M : mj_M) (t : Int) : Int := if 0 ≤ t ∧ t < 40 ∧ (M 14 t.toNat = 2 ∨ M 14 t.toNat = 3) then 1 else 0
theorem e_83 {t : Int}  : mj_Rn (d + 1) 83 0 [.inr (.inl 13), .inl t] [] (SGx x) M Q = Q (some (.inl (q_meet M t))) (SGx x) M := by
  simp (disch := omega) only [i_83_0, i_83_1, i_83_2, i_83_3, i_83_6, i_83_9, i_83_10, i_83_11, i_83_12, i_83_15, i_83_18, i_83_19, i_83_22, i_83_23, g_o13, g_r13_0, g_r13_1, g_r13_2, g_r13_3, g_r13_4, g_r13_5, g_r13_6, g_r13_7, g_a14, g_t14, g_a15, g_t15, g_a16, g_t16, g_a17, g_t17, g_a18, g_t18, g_a19, g_t19, g_a20, g_t20, g_a21, g_t21, exists_eq_left', Option.some.injEq, exists_eq_left, ne_eq, List.length_nil, List.length_cons, Option.toList_some, Option.toList_none, List.cons_append, List.nil_append, mj_w_id2, e_20]
  grind (splits := 40) [q_of, q_meet, mj_w]
def q_tht (M : mj_M) (t : Int) : Int := if 0 ≤ t ∧ t < 40 ∧ M 14 t.toNat ≠ -1 then 1 else 0
theorem e_67 {t : Int}  : mj_Rn d 67 0 [.inr (.inl 13), .inl t] [] (SGx x) M Q = Q (some (.inl (q_tht M t))) (SGx x) M := by
  simp (disch := omega) only [i_67_0, i_67_1, i_67_4, i_67_5, i_67_7, i_67_10, i_67_11, i_67_14, i_67_15, i_67_16, i_67_17, i_67_20, i_67_21, i_67_24, i_67_25, g_o13, g_r13_0, g_r13_1, g_r13_2, g_r13_3, g_r13_4, g_r13_5, g_r13_6, g_r13_7, g_a14, g_t14, g_a15, g_t15, g_a16, g_t16, g_a17, g_t17, g_a18, g_t18, g_a19, g_t19, g_a20, g_t20, g_a21, g_t21, exists_eq_left', Option.some.injEq, exists_eq_left, ne_eq, List.length_nil, List.length_cons, Option.toList_some, Option.toList_none, List.cons_append, List.nil_append, mj_w_id2]
  grind (splits := 40) [q_tht, mj_w]
def q_tkt (M : mj_M) (t : Int) : Int := if 0 ≤ t ∧ t < 120 ∧ M 3 t.toNat ≠ -1 then 1 else 0
theorem e_71 {t : Int}  : mj_Rn d 71 0 [.inr (.inl 2), .inl t] [] (SGx x) M Q = Q (some (.inl (q_tkt M t))) (SGx x) M := by
  simp (disch := omega) only [i_71_0, i_71_1, i_71_4, i_71_5, i_71_7, i_71_10, i_71_11, i_71_14, i_71_15, i_71_16, i_71_17, i_71_20, i_71_21, i_71_24, i_71_25, g_o2, g_r2_0, g_r2_1, g_r2_2, g_r2_3, g_r2_4, g_r2_5, g_r2_6, g_r2_7, g_r2_8, g_r2_9, g_a3, g_t3, g_a4, g_t4, g_a5, g_t5, g_a6, g_t6, g_a7, g_t7, g_a8, g_t8, g_a9, g_t9, g_a10, g_t10, g_a11, g_t11, g_a12, g_t12, exists_eq_left', Option.some.injEq, exists_eq_left, ne_eq, List.length_nil, List.length_cons, Option.toList_some, Option.toList_none, List.cons_append, List.nil_append, mj_w_id2]
  grind (splits := 40) [q_tkt, mj_w]
def q_pl (M : mj_M) (b s : Int) : Int := if 0 ≤ b ∧ b < 40 ∧ M 14 b.toNat = 1 ∧ 0 ≤ s ∧ s < 10 then 10 * b + s else -1
theorem e_17 {b s : Int}  : mj_Rn d 17 0 [.inr (.inl 1), .inl b, .inl s] [] (SGx x) M Q = Q (some (.inl (q_pl M b s))) (SGx x) M := by
  simp (disch := omega) only [i_17_0, i_17_1, i_17_4, i_17_5, i_17_7, i_17_10, i_17_11, i_17_14, i_17_17, i_17_18, i_17_19, i_17_20, i_17_23, i_17_24, i_17_27, i_17_28, i_17_30, i_17_33, i_17_34, i_17_35, i_17_36, i_17_38, i_17_39, i_17_40, i_17_41, g_o1, g_r1_0, g_r1_1, g_r1_2, g_r1_3, g_r1_4, g_r1_5, g_a42, g_t42, g_a43, g_t43, g_o13, g_r13_0, g_r13_1, g_r13_2, g_r13_3, g_r13_4, g_r13_5, g_r13_6, g_r13_7, g_a14, g_t14, g_a15, g_t15, g_a16, g_t16, g_a17, g_t17, g_a18, g_t18, g_a19, g_t19, g_a20, g_t20, g_a21, g_t21, exists_eq_left', Option.some.injEq, exists_eq_left, ne_eq, List.length_nil, List.length_cons, Option.toList_some, Option.toList_none, List.cons_append, List.nil_append, mj_w_id2]
  grind (splits := 40) [q_pl, mj_w]
def q_ta (M : mj_M) (b s : Int) : Int := if q_pl M b s = -1 then -1 else M 42 (q_pl M b s).toNat
theorem e_24 {b s : Int}  : mj_Rn (d + 1) 24 0 [.inr (.inl 1), .inl b, .inl s, .inr (.inr 0)] [] (SGx x) M Q = Q (some (.inl (q_ta M b s))) (SGx x) M := by
  simp (disch := omega) only [i_24_0, i_24_1, i_24_2, i_24_3, i_24_6, i_24_7, i_24_8, i_24_9, i_24_12, i_24_13, i_24_16, i_24_17, i_24_20, i_24_21, i_24_22, g_o1, g_r1_0, g_r1_1, g_r1_2, g_r1_3, g_r1_4, g_r1_5, g_a42, g_t42, g_a43, g_t43, exists_eq_left', Option.some.injEq, exists_eq_left, ne_eq, List.length_nil, List.length_cons, Option.toList_some, Option.toList_none, List.cons_append, List.nil_append, mj_w_id2, e_17]
  grind (splits := 40) [q_pl, q_ta, mj_w]
theorem q_ta_in {b s : Int} (w : q_wr M) : -1 ≤ q_ta M b s ∧ q_ta M b s < 120 := by
  have h := w.2.2.2.2.2.2.1 (q_pl M b s).toNat
  grind [q_ta, q_pl]
def q_ff (M : mj_M) (a : Nat) : Nat → Int → Int
  | 0, _ => -1
  | n + 1, t => if M a t.toNat = -1 then t else q_ff M a n (t + 1)
theorem l_16 (n : Nat) : ∀ (t : Int), 0 ≤ t → t + n = 120 → mj_Rn d 16 2 [.inr (.inl 2), .inl t] [] (SGx x) M Q = Q (some (.inl (q_ff M 3 n t))) (SGx x) M := by
  induction n with
  | zero =>
    intro t h0 h
    rw [i_16_2]
    simp (disch := omega) only [i_16_0, i_16_1, i_16_3, i_16_5, i_16_8, i_16_9, i_16_12, i_16_13, i_16_14, i_16_15, i_16_18, i_16_19, i_16_20, i_16_23, i_16_26, i_16_27, g_o2, g_r2_0, g_r2_1, g_r2_2, g_r2_3, g_r2_4, g_r2_5, g_r2_6, g_r2_7, g_r2_8, g_r2_9, g_a3, g_t3, g_a4, g_t4, g_a5, g_t5, g_a6, g_t6, g_a7, g_t7, g_a8, g_t8, g_a9, g_t9, g_a10, g_t10, g_a11, g_t11, g_a12, g_t12, exists_eq_left', Option.some.injEq, exists_eq_left, ne_eq, List.length_nil, List.length_cons, Option.toList_some, Option.toList_none, List.cons_append, List.nil_append, mj_w_id2]
    grind [q_ff]
  | succ n ih =>
    intro t h0 h
    rw [i_16_2]
    simp (disch := omega) only [i_16_0, i_16_1, i_16_3, i_16_5, i_16_8, i_16_9, i_16_12, i_16_13, i_16_14, i_16_15, i_16_18, i_16_19, i_16_20, i_16_23, i_16_26, i_16_27, g_o2, g_r2_0, g_r2_1, g_r2_2, g_r2_3, g_r2_4, g_r2_5, g_r2_6, g_r2_7, g_r2_8, g_r2_9, g_a3, g_t3, g_a4, g_t4, g_a5, g_t5, g_a6, g_t6, g_a7, g_t7, g_a8, g_t8, g_a9, g_t9, g_a10, g_t10, g_a11, g_t11, g_a12, g_t12, exists_eq_left', Option.some.injEq, exists_eq_left, ne_eq, List.length_nil, List.length_cons, Option.toList_some, Option.toList_none, List.cons_append, List.nil_append, mj_w_id2]
    grind [q_ff, mj_w]
theorem e_16 : mj_Rn d 16 0 [.inr (.inl 2), .inr (.inr 0)] [] (SGx x) M Q = Q (some (.inl (q_ff M 3 120 0))) (SGx x) M := by
  rw [i_16_0, i_16_1, l_16 120 0 (by omega) (by omega)]
theorem l_31 (n : Nat) : ∀ (t : Int), 0 ≤ t → t + n = 40 → mj_Rn d 31 2 [.inr (.inl 13), .inl t] [] (SGx x) M Q = Q (some (.inl (q_ff M 14 n t))) (SGx x) M := by
  induction n with
  | zero =>
    intro t h0 h
    rw [i_31_2]
    simp (disch := omega) only [i_31_0, i_31_1, i_31_3, i_31_5, i_31_8, i_31_9, i_31_12, i_31_13, i_31_14, i_31_15, i_31_18, i_31_19, i_31_20, i_31_23, i_31_26, i_31_27, g_o13, g_r13_0, g_r13_1, g_r13_2, g_r13_3, g_r13_4, g_r13_5, g_r13_6, g_r13_7, g_a14, g_t14, g_a15, g_t15, g_a16, g_t16, g_a17, g_t17, g_a18, g_t18, g_a19, g_t19, g_a20, g_t20, g_a21, g_t21, exists_eq_left', Option.some.injEq, exists_eq_left, ne_eq, List.length_nil, List.length_cons, Option.toList_some, Option.toList_none, List.cons_append, List.nil_append, mj_w_id2]
    grind [q_ff]
  | succ n ih =>
    intro t h0 h
    rw [i_31_2]
    simp (disch := omega) only [i_31_0, i_31_1, i_31_3, i_31_5, i_31_8, i_31_9, i_31_12, i_31_13, i_31_14, i_31_15, i_31_18, i_31_19, i_31_20, i_31_23, i_31_26, i_31_27, g_o13, g_r13_0, g_r13_1, g_r13_2, g_r13_3, g_r13_4, g_r13_5, g_r13_6, g_r13_7, g_a14, g_t14, g_a15, g_t15, g_a16, g_t16, g_a17, g_t17, g_a18, g_t18, g_a19, g_t19, g_a20, g_t20, g_a21, g_t21, exists_eq_left', Option.some.injEq, exists_eq_left, ne_eq, List.length_nil, List.length_cons, Option.toList_some, Option.toList_none, List.cons_append, List.nil_append, mj_w_id2]
    grind [q_ff, mj_w]
theorem e_31 : mj_Rn d 31 0 [.inr (.inl 13), .inr (.inr 0)] [] (SGx x) M Q = Q (some (.inl (q_ff M 14 40 0))) (SGx x) M := by
  rw [i_31_0, i_31_1, l_31 40 0 (by omega) (by omega)]
def q_fits (M : mj_M) (t r : Int) : Int := if t ≠ -1 ∧ M 10 t.toNat = -1 ∧ M 12 t.toNat = 0 ∧ (M 11 t.toNat = -1 ∨ M 1 7 ≤ M 11 t.toNat) ∧ mj_and (M 5 t.toNat) r = r then 1 else 0
theorem e_27 {t r : Int} (ht : -1 ≤ t ∧ t < 120) : mj_Rn d 27 0 [.inr (.inl 1), .inl t, .inl r] [] (SGx x) M Q = Q (some (.inl (q_fits M t r))) (SGx x) M := by
  simp (disch := omega) only [i_27_0, i_27_1, i_27_2, i_27_5, i_27_6, i_27_9, i_27_12, i_27_13, i_27_14, i_27_15, i_27_18, i_27_19, i_27_22, i_27_25, i_27_26, i_27_27, i_27_30, i_27_31, i_27_34, i_27_37, i_27_38, i_27_39, i_27_40, i_27_43, i_27_44, i_27_47, i_27_48, i_27_51, i_27_54, i_27_55, i_27_56, i_27_59, i_27_60, i_27_63, i_27_66, i_27_67, i_27_68, i_27_69, i_27_70, i_27_71, i_27_74, i_27_75, i_27_78, i_27_79, g_o1, g_r1_0, g_r1_1, g_r1_2, g_r1_3, g_r1_4, g_r1_5, g_a42, g_t42, g_a43, g_t43, g_o2, g_r2_0, g_r2_1, g_r2_2, g_r2_3, g_r2_4, g_r2_5, g_r2_6, g_r2_7, g_r2_8, g_r2_9, g_a3, g_t3, g_a4, g_t4, g_a5, g_t5, g_a6, g_t6, g_a7, g_t7, g_a8, g_t8, g_a9, g_t9, g_a10, g_t10, g_a11, g_t11, g_a12, g_t12, exists_eq_left', Option.some.injEq, exists_eq_left, ne_eq, List.length_nil, List.length_cons, Option.toList_some, Option.toList_none, List.cons_append, List.nil_append, mj_w_id2]
  grind (splits := 40) [q_fits, mj_w]
def q_ml (M : mj_M) (t : Int) : Int := if q_fits M t 4 = 1 ∧ M 4 t.toNat ≠ -1 then 1 else 0
theorem e_26 {t : Int} (ht : -1 ≤ t ∧ t < 120) : mj_Rn (d + 1) 26 0 [.inr (.inl 1), .inl t] [] (SGx x) M Q = Q (some (.inl (q_ml M t))) (SGx x) M := by
  simp (disch := omega) only [i_26_0, i_26_1, i_26_2, i_26_3, i_26_6, i_26_9, i_26_10, i_26_13, i_26_16, i_26_17, i_26_18, i_26_19, i_26_22, i_26_23, i_26_26, i_26_27, g_o1, g_r1_0, g_r1_1, g_r1_2, g_r1_3, g_r1_4, g_r1_5, g_a42, g_t42, g_a43, g_t43, g_o2, g_r2_0, g_r2_1, g_r2_2, g_r2_3, g_r2_4, g_r2_5, g_r2_6, g_r2_7, g_r2_8, g_r2_9, g_a3, g_t3, g_a4, g_t4, g_a5, g_t5, g_a6, g_t6, g_a7, g_t7, g_a8, g_t8, g_a9, g_t9, g_a10, g_t10, g_a11, g_t11, g_a12, g_t12, exists_eq_left', Option.some.injEq, exists_eq_left, ne_eq, List.length_nil, List.length_cons, Option.toList_some, Option.toList_none, List.cons_append, List.nil_append, mj_w_id2, e_27 ht]
  grind (splits := 40) [q_ml, q_fits, mj_w]
def q_ob (M : mj_M) (t r : Int) : Int := if q_fits M t r = 1 ∧ q_of M (M 4 t.toNat) 1 = 1 then 1 else 0
theorem e_40 {t r : Int} (ht : -1 ≤ t ∧ t < 120) : mj_Rn (d + 2) 40 0 [.inr (.inl 1), .inl t, .inl r] [] (SGx x) M Q = Q (some (.inl (q_ob M t r))) (SGx x) M := by
  simp (disch := omega) only [i_40_0, i_40_1, i_40_2, i_40_3, i_40_6, i_40_9, i_40_10, i_40_11, i_40_14, i_40_17, i_40_18, i_40_19, i_40_22, i_40_25, i_40_26, i_40_29, i_40_30, g_o1, g_r1_0, g_r1_1, g_r1_2, g_r1_3, g_r1_4, g_r1_5, g_a42, g_t42, g_a43, g_t43, g_o2, g_r2_0, g_r2_1, g_r2_2, g_r2_3, g_r2_4, g_r2_5, g_r2_6, g_r2_7, g_r2_8, g_r2_9, g_a3, g_t3, g_a4, g_t4, g_a5, g_t5, g_a6, g_t6, g_a7, g_t7, g_a8, g_t8, g_a9, g_t9, g_a10, g_t10, g_a11, g_t11, g_a12, g_t12, exists_eq_left', Option.some.injEq, exists_eq_left, ne_eq, List.length_nil, List.length_cons, Option.toList_some, Option.toList_none, List.cons_append, List.nil_append, mj_w_id2, e_27 ht, e_19]
  grind (splits := 40) [q_ob, q_fits, q_of, mj_w]
def q_og (M : mj_M) (t r : Int) : Int := if q_fits M t r = 1 ∧ q_meet M (M 4 t.toNat) = 1 then 1 else 0
theorem e_82 {t r : Int} (ht : -1 ≤ t ∧ t < 120) : mj_Rn (d + 2) 82 0 [.inr (.inl 1), .inl t, .inl r] [] (SGx x) M Q = Q (some (.inl (q_og M t r))) (SGx x) M := by
  simp (disch := omega) only [i_82_0, i_82_1, i_82_2, i_82_3, i_82_6, i_82_9, i_82_10, i_82_13, i_82_14, i_82_17, i_82_20, i_82_21, i_82_22, i_82_25, i_82_28, i_82_29, i_82_32, i_82_33, g_o1, g_r1_0, g_r1_1, g_r1_2, g_r1_3, g_r1_4, g_r1_5, g_a42, g_t42, g_a43, g_t43, g_o2, g_r2_0, g_r2_1, g_r2_2, g_r2_3, g_r2_4, g_r2_5, g_r2_6, g_r2_7, g_r2_8, g_r2_9, g_a3, g_t3, g_a4, g_t4, g_a5, g_t5, g_a6, g_t6, g_a7, g_t7, g_a8, g_t8, g_a9, g_t9, g_a10, g_t10, g_a11, g_t11, g_a12, g_t12, g_o13, g_r13_0, g_r13_1, g_r13_2, g_r13_3, g_r13_4, g_r13_5, g_r13_6, g_r13_7, exists_eq_left', Option.some.injEq, exists_eq_left, ne_eq, List.length_nil, List.length_cons, Option.toList_some, Option.toList_none, List.cons_append, List.nil_append, mj_w_id2, e_27 ht, e_83]
  grind (splits := 40) [q_og, q_fits, q_meet, mj_w]
def q_put (M : mj_M) (kind thing rights lender box slot last : Int) : mj_M := let t := (q_ff M 3 120 0).toNat
  mj_up (mj_up (mj_up (mj_up (mj_up (mj_up (mj_up (mj_up (mj_up (mj_up (mj_up M 3 t kind) 4 t thing) 5 t rights) 6 t 0) 7 t lender) 8 t box) 9 t slot) 10 t (-1)) 11 t last) 12 t 0) 42 (q_pl M box slot).toNat t
def q_can (M : mj_M) (box slot : Int) : Int := if q_ff M 3 120 0 ≠ -1 ∧ q_pl M box slot ≠ -1 ∧ M 42 (q_pl M box slot).toNat = -1 then 1 else 0
theorem q_ff_in {a : Nat} : ∀ (n : Nat) (t : Int), 0 ≤ t → q_ff M a n t = -1 ∨ (t ≤ q_ff M a n t ∧ q_ff M a n t < t + n ∧ M a (q_ff M a n t).toNat = -1) := by
  intro n
  induction n with
  | zero => intro t h; exact Or.inl rfl
  | succ n ih =>
    intro t h
    have := ih (t + 1) (by omega)
    grind [q_ff]
theorem q_pl_in {b s : Int} : q_pl M b s = -1 ∨ (0 ≤ q_pl M b s ∧ q_pl M b s < 400) := by grind [q_pl]
theorem e_15 {kind thing rights lender box slot last : Int}  : mj_Rn (d + 1) 15 0 [.inr (.inl 1), .inl kind, .inl thing, .inl rights, .inl lender, .inl box, .inl slot, .inl last, .inr (.inr 0), .inr (.inr 0)] [] (SGx x) M Q = (if q_can M box slot = 1 then Q (some (.inl (q_ff M 3 120 0))) (SGx x) (q_put M kind thing rights lender box slot last) else Q (some (.inl (-1))) (SGx x) M) := by
  have h1 := q_ff_in (M := M) (a := 3) 120 0 (by omega)
  have h2 := q_pl_in (M := M) (b := box) (s := slot)
  simp (disch := omega) only [i_15_0, i_15_1, i_15_4, i_15_7, i_15_9, i_15_10, i_15_12, i_15_14, i_15_17, i_15_19, i_15_21, i_15_22, i_15_25, i_15_27, i_15_28, i_15_31, i_15_32, i_15_35, i_15_37, i_15_38, i_15_39, i_15_42, i_15_43, i_15_44, i_15_45, i_15_48, i_15_51, i_15_53, i_15_54, i_15_55, i_15_56, i_15_59, i_15_62, i_15_64, i_15_65, i_15_66, i_15_67, i_15_70, i_15_73, i_15_75, i_15_76, i_15_77, i_15_78, i_15_81, i_15_84, i_15_86, i_15_87, i_15_88, i_15_89, i_15_92, i_15_95, i_15_97, i_15_99, i_15_100, i_15_101, i_15_104, i_15_107, i_15_109, i_15_111, i_15_112, i_15_113, i_15_116, i_15_119, i_15_121, i_15_123, i_15_124, i_15_125, i_15_128, i_15_131, i_15_133, i_15_134, i_15_135, i_15_136, i_15_139, i_15_142, i_15_144, i_15_146, i_15_147, i_15_148, i_15_151, i_15_154, i_15_156, i_15_157, i_15_158, i_15_159, i_15_162, i_15_164, i_15_166, i_15_167, i_15_169, g_o1, g_r1_0, g_r1_1, g_r1_2, g_r1_3, g_r1_4, g_r1_5, g_a42, g_t42, g_a43, g_t43, g_o2, g_r2_0, g_r2_1, g_r2_2, g_r2_3, g_r2_4, g_r2_5, g_r2_6, g_r2_7, g_r2_8, g_r2_9, g_a3, g_t3, g_a4, g_t4, g_a5, g_t5, g_a6, g_t6, g_a7, g_t7, g_a8, g_t8, g_a9, g_t9, g_a10, g_t10, g_a11, g_t11, g_a12, g_t12, exists_eq_left', Option.some.injEq, exists_eq_left, ne_eq, List.length_nil, List.length_cons, Option.toList_some, Option.toList_none, List.cons_append, List.nil_append, mj_w_id2, e_16, e_17]
  grind (splits := 40) [q_can, q_put, mj_w]
end sp40
