section ctor
variable {n s : Nat} {ρ : Nat → Nat → Nat} {M : mj_M} {d : Nat} {Q : Option mj_V → mj_G → mj_M → Prop}
def cM_2 (M : mj_M) : mj_M := (q_fill M 3 120 (-1))
theorem cM_2_o {b : Nat} (h : b < 2 ∨ 13 ≤ b) : cM_2 M b = M b := by
  unfold cM_2
  rw [q_fill_ne (by omega)]
theorem ct_2 (hρ : ∀ b, 2 ≤ b → b < 13 → ρ b = sgR b) (hM : ∀ b, 2 < b → b < 13 → M b = fun _ => 0) :
    mj_Rn (d + 1) 2 0 [.inr (.inl 2)] [] (3, 39, sgD, cP ρ 2 []) M Q = Q none (13, 1239, sgD, ρ) (cM_2 M) := by
  have z3 : mj_upr M 3 (fun _ => 0) = M := cZ (by exact hM 3 (by omega) (by omega))
  have u2_0 : ρ 2 0 = 3 := by rw [hρ 2 (by omega) (by omega)]; rfl
  have z4 : mj_upr M 4 (fun _ => 0) = M := cZ (by exact hM 4 (by omega) (by omega))
  have u2_1 : ρ 2 1 = 4 := by rw [hρ 2 (by omega) (by omega)]; rfl
  have z5 : mj_upr M 5 (fun _ => 0) = M := cZ (by exact hM 5 (by omega) (by omega))
  have u2_2 : ρ 2 2 = 5 := by rw [hρ 2 (by omega) (by omega)]; rfl
  have z6 : mj_upr M 6 (fun _ => 0) = M := cZ (by exact hM 6 (by omega) (by omega))
  have u2_3 : ρ 2 3 = 6 := by rw [hρ 2 (by omega) (by omega)]; rfl
  have z7 : mj_upr M 7 (fun _ => 0) = M := cZ (by exact hM 7 (by omega) (by omega))
  have u2_4 : ρ 2 4 = 7 := by rw [hρ 2 (by omega) (by omega)]; rfl
  have z8 : mj_upr M 8 (fun _ => 0) = M := cZ (by exact hM 8 (by omega) (by omega))
  have u2_5 : ρ 2 5 = 8 := by rw [hρ 2 (by omega) (by omega)]; rfl
  have z9 : mj_upr M 9 (fun _ => 0) = M := cZ (by exact hM 9 (by omega) (by omega))
  have u2_6 : ρ 2 6 = 9 := by rw [hρ 2 (by omega) (by omega)]; rfl
  have z10 : mj_upr M 10 (fun _ => 0) = M := cZ (by exact hM 10 (by omega) (by omega))
  have u2_7 : ρ 2 7 = 10 := by rw [hρ 2 (by omega) (by omega)]; rfl
  have z11 : mj_upr M 11 (fun _ => 0) = M := cZ (by exact hM 11 (by omega) (by omega))
  have u2_8 : ρ 2 8 = 11 := by rw [hρ 2 (by omega) (by omega)]; rfl
  have z12 : mj_upr M 12 (fun _ => 0) = M := cZ (by exact hM 12 (by omega) (by omega))
  have u2_9 : ρ 2 9 = 12 := by rw [hρ 2 (by omega) (by omega)]; rfl
  have g2_0 : ∀ L : List Nat, 0 ∈ L → cP ρ 2 L 2 0 = 3 := fun L h => by rw [cP_in h, hρ 2 (by omega) (by omega)]; rfl
  have f3 : ∀ (n s : Nat) (ρ : Nat → Nat → Nat) (M : mj_M) (d : Nat) (Q : Option mj_V → mj_G → mj_M → Prop), 3 < n → mj_Rn d 3 0 [.inr (.inl 3), .inl (-1), .inr (.inr 0), .inr (.inr 0)] [] (n, s, sgD, ρ) M Q = Q none (n, s, sgD, ρ) (q_fill M 3 120 (-1)) := fun n s ρ M d Q h => e_3 (by decide) (cT_3 h) (cI_3 h)
  have hF : cP ρ 2 [9, 8, 7, 6, 5, 4, 3, 2, 1, 0] = ρ := cP_all (fun j hj => by
    rw [hρ 2 (by omega) (by omega)]
    exact row_all (row := sg_r.getD 2 []) (L := [9, 8, 7, 6, 5, 4, 3, 2, 1, 0]) (by decide) j hj)
  unfold cM_2
  simp (disch := first | omega | decide) only [i_2_0, i_2_1, i_2_4, i_2_5, i_2_7, i_2_9, i_2_12, i_2_13, i_2_15, i_2_17, i_2_20, i_2_21, i_2_23, i_2_25, i_2_28, i_2_29, i_2_31, i_2_33, i_2_36, i_2_37, i_2_39, i_2_41, i_2_44, i_2_45, i_2_47, i_2_49, i_2_52, i_2_53, i_2_55, i_2_57, i_2_60, i_2_61, i_2_63, i_2_65, i_2_68, i_2_69, i_2_71, i_2_73, i_2_76, i_2_77, i_2_79, i_2_81, i_2_84, i_2_85, i_2_88, i_2_89, i_2_92, cA_10, cA_11, cA_12, cA_3, cA_4, cA_5, cA_6, cA_7, cA_8, cA_9, cT_3, cO_2, z3, cU u2_0, z4, cU u2_1, z5, cU u2_2, z6, cU u2_3, z7, cU u2_4, z8, cU u2_5, z9, cU u2_6, z10, cU u2_7, z11, cU u2_8, z12, cU u2_9, g2_0, f3, exists_eq_left', Option.some.injEq, exists_eq_left, ne_eq, List.length_nil, List.length_cons, Option.toList_some, Option.toList_none, List.cons_append, List.nil_append, mj_wt_nil, mj_wt_i, mj_wt_r, mj_wt_l, true_and, and_true, false_and, and_false, true_implies, false_implies, implies_true, not_true_eq_false, not_false_eq_true, and_self, Int.reduceEq, Nat.reduceEqDiff, ↓reduceIte, Int.reduceToNat, Nat.reduceAdd, Nat.reduceMul, List.append_nil, List.nil_append, implies_true, mj_w_id2, Int.toNat_natCast]
  try rw [hF]
  try grind
def cM_13 (M : mj_M) : mj_M := (q_fill M 14 40 (-1))
theorem cM_13_o {b : Nat} (h : b < 13 ∨ 22 ≤ b) : cM_13 M b = M b := by
  unfold cM_13
  rw [q_fill_ne (by omega)]
theorem ct_13 (hρ : ∀ b, 13 ≤ b → b < 22 → ρ b = sgR b) (hM : ∀ b, 13 < b → b < 22 → M b = fun _ => 0) :
    mj_Rn (d + 1) 4 0 [.inr (.inl 13)] [] (14, 1247, sgD, cP ρ 13 []) M Q = Q none (22, 3887, sgD, ρ) (cM_13 M) := by
  have z14 : mj_upr M 14 (fun _ => 0) = M := cZ (by exact hM 14 (by omega) (by omega))
  have u13_0 : ρ 13 0 = 14 := by rw [hρ 13 (by omega) (by omega)]; rfl
  have z15 : mj_upr M 15 (fun _ => 0) = M := cZ (by exact hM 15 (by omega) (by omega))
  have u13_1 : ρ 13 1 = 15 := by rw [hρ 13 (by omega) (by omega)]; rfl
  have z16 : mj_upr M 16 (fun _ => 0) = M := cZ (by exact hM 16 (by omega) (by omega))
  have u13_2 : ρ 13 2 = 16 := by rw [hρ 13 (by omega) (by omega)]; rfl
  have z17 : mj_upr M 17 (fun _ => 0) = M := cZ (by exact hM 17 (by omega) (by omega))
  have u13_3 : ρ 13 3 = 17 := by rw [hρ 13 (by omega) (by omega)]; rfl
  have z18 : mj_upr M 18 (fun _ => 0) = M := cZ (by exact hM 18 (by omega) (by omega))
  have u13_4 : ρ 13 4 = 18 := by rw [hρ 13 (by omega) (by omega)]; rfl
  have z19 : mj_upr M 19 (fun _ => 0) = M := cZ (by exact hM 19 (by omega) (by omega))
  have u13_5 : ρ 13 5 = 19 := by rw [hρ 13 (by omega) (by omega)]; rfl
  have z20 : mj_upr M 20 (fun _ => 0) = M := cZ (by exact hM 20 (by omega) (by omega))
  have u13_6 : ρ 13 6 = 20 := by rw [hρ 13 (by omega) (by omega)]; rfl
  have z21 : mj_upr M 21 (fun _ => 0) = M := cZ (by exact hM 21 (by omega) (by omega))
  have u13_7 : ρ 13 7 = 21 := by rw [hρ 13 (by omega) (by omega)]; rfl
  have g13_0 : ∀ L : List Nat, 0 ∈ L → cP ρ 13 L 13 0 = 14 := fun L h => by rw [cP_in h, hρ 13 (by omega) (by omega)]; rfl
  have f14 : ∀ (n s : Nat) (ρ : Nat → Nat → Nat) (M : mj_M) (d : Nat) (Q : Option mj_V → mj_G → mj_M → Prop), 14 < n → mj_Rn d 3 0 [.inr (.inl 14), .inl (-1), .inr (.inr 0), .inr (.inr 0)] [] (n, s, sgD, ρ) M Q = Q none (n, s, sgD, ρ) (q_fill M 14 40 (-1)) := fun n s ρ M d Q h => e_3 (by decide) (cT_14 h) (cI_14 h)
  have hF : cP ρ 13 [7, 6, 5, 4, 3, 2, 1, 0] = ρ := cP_all (fun j hj => by
    rw [hρ 13 (by omega) (by omega)]
    exact row_all (row := sg_r.getD 13 []) (L := [7, 6, 5, 4, 3, 2, 1, 0]) (by decide) j hj)
  unfold cM_13
  simp (disch := first | omega | decide) only [i_4_0, i_4_1, i_4_4, i_4_5, i_4_7, i_4_9, i_4_12, i_4_13, i_4_15, i_4_17, i_4_20, i_4_21, i_4_23, i_4_25, i_4_28, i_4_29, i_4_31, i_4_33, i_4_36, i_4_37, i_4_39, i_4_41, i_4_44, i_4_45, i_4_47, i_4_49, i_4_52, i_4_53, i_4_56, i_4_58, i_4_61, i_4_62, i_4_65, i_4_67, i_4_70, i_4_71, i_4_74, i_4_75, i_4_78, cA_14, cA_15, cA_16, cA_17, cA_18, cA_19, cA_20, cA_21, cT_14, cO_13, z14, cU u13_0, z15, cU u13_1, z16, cU u13_2, z17, cU u13_3, z18, cU u13_4, z19, cU u13_5, z20, cU u13_6, z21, cU u13_7, g13_0, f14, exists_eq_left', Option.some.injEq, exists_eq_left, ne_eq, List.length_nil, List.length_cons, Option.toList_some, Option.toList_none, List.cons_append, List.nil_append, mj_wt_nil, mj_wt_i, mj_wt_r, mj_wt_l, true_and, and_true, false_and, and_false, true_implies, false_implies, implies_true, not_true_eq_false, not_false_eq_true, and_self, Int.reduceEq, Nat.reduceEqDiff, ↓reduceIte, Int.reduceToNat, Nat.reduceAdd, Nat.reduceMul, List.append_nil, List.nil_append, implies_true, mj_w_id2, Int.toNat_natCast]
  try rw [hF]
  try grind
def cM_22 (M : mj_M) : mj_M := (mj_up M 22 13 (0))
theorem cM_22_o {b : Nat} (h : b < 22 ∨ 36 ≤ b) : cM_22 M b = M b := by
  unfold cM_22
  rw [mj_up_ne (by omega)]
theorem ct_22 (hρ : ∀ b, 22 ≤ b → b < 36 → ρ b = sgR b) (hM : ∀ b, 22 < b → b < 36 → M b = fun _ => 0) :
    mj_Rn d 5 0 [.inr (.inl 22)] [] (23, 3901, sgD, cP ρ 22 []) M Q = Q none (36, 5277, sgD, ρ) (cM_22 M) := by
  have z23 : mj_upr M 23 (fun _ => 0) = M := cZ (by exact hM 23 (by omega) (by omega))
  have u22_0 : ρ 22 0 = 23 := by rw [hρ 22 (by omega) (by omega)]; rfl
  have z24 : mj_upr M 24 (fun _ => 0) = M := cZ (by exact hM 24 (by omega) (by omega))
  have u22_1 : ρ 22 1 = 24 := by rw [hρ 22 (by omega) (by omega)]; rfl
  have z25 : mj_upr M 25 (fun _ => 0) = M := cZ (by exact hM 25 (by omega) (by omega))
  have u22_2 : ρ 22 2 = 25 := by rw [hρ 22 (by omega) (by omega)]; rfl
  have z26 : mj_upr M 26 (fun _ => 0) = M := cZ (by exact hM 26 (by omega) (by omega))
  have u22_3 : ρ 22 3 = 26 := by rw [hρ 22 (by omega) (by omega)]; rfl
  have z27 : mj_upr M 27 (fun _ => 0) = M := cZ (by exact hM 27 (by omega) (by omega))
  have u22_4 : ρ 22 4 = 27 := by rw [hρ 22 (by omega) (by omega)]; rfl
  have z28 : mj_upr M 28 (fun _ => 0) = M := cZ (by exact hM 28 (by omega) (by omega))
  have u22_5 : ρ 22 5 = 28 := by rw [hρ 22 (by omega) (by omega)]; rfl
  have z29 : mj_upr M 29 (fun _ => 0) = M := cZ (by exact hM 29 (by omega) (by omega))
  have u22_6 : ρ 22 6 = 29 := by rw [hρ 22 (by omega) (by omega)]; rfl
  have z30 : mj_upr M 30 (fun _ => 0) = M := cZ (by exact hM 30 (by omega) (by omega))
  have u22_7 : ρ 22 7 = 30 := by rw [hρ 22 (by omega) (by omega)]; rfl
  have z31 : mj_upr M 31 (fun _ => 0) = M := cZ (by exact hM 31 (by omega) (by omega))
  have u22_8 : ρ 22 8 = 31 := by rw [hρ 22 (by omega) (by omega)]; rfl
  have z32 : mj_upr M 32 (fun _ => 0) = M := cZ (by exact hM 32 (by omega) (by omega))
  have u22_9 : ρ 22 9 = 32 := by rw [hρ 22 (by omega) (by omega)]; rfl
  have z33 : mj_upr M 33 (fun _ => 0) = M := cZ (by exact hM 33 (by omega) (by omega))
  have u22_10 : ρ 22 10 = 33 := by rw [hρ 22 (by omega) (by omega)]; rfl
  have z34 : mj_upr M 34 (fun _ => 0) = M := cZ (by exact hM 34 (by omega) (by omega))
  have u22_11 : ρ 22 11 = 34 := by rw [hρ 22 (by omega) (by omega)]; rfl
  have z35 : mj_upr M 35 (fun _ => 0) = M := cZ (by exact hM 35 (by omega) (by omega))
  have u22_12 : ρ 22 12 = 35 := by rw [hρ 22 (by omega) (by omega)]; rfl
  have hF : cP ρ 22 [12, 11, 10, 9, 8, 7, 6, 5, 4, 3, 2, 1, 0] = ρ := cP_all (fun j hj => by
    rw [hρ 22 (by omega) (by omega)]
    exact row_all (row := sg_r.getD 22 []) (L := [12, 11, 10, 9, 8, 7, 6, 5, 4, 3, 2, 1, 0]) (by decide) j hj)
  unfold cM_22
  simp (disch := first | omega | decide) only [i_5_0, i_5_1, i_5_4, i_5_5, i_5_7, i_5_9, i_5_12, i_5_13, i_5_15, i_5_17, i_5_20, i_5_21, i_5_23, i_5_25, i_5_28, i_5_29, i_5_31, i_5_33, i_5_36, i_5_37, i_5_39, i_5_41, i_5_44, i_5_45, i_5_47, i_5_49, i_5_52, i_5_53, i_5_55, i_5_57, i_5_60, i_5_61, i_5_63, i_5_65, i_5_68, i_5_69, i_5_71, i_5_73, i_5_76, i_5_77, i_5_79, i_5_81, i_5_84, i_5_85, i_5_87, i_5_89, i_5_92, i_5_93, i_5_95, i_5_97, i_5_100, i_5_101, i_5_104, i_5_106, i_5_109, i_5_110, i_5_111, i_5_114, cA_23, cA_24, cA_25, cA_26, cA_27, cA_28, cA_29, cA_30, cA_31, cA_32, cA_33, cA_34, cA_35, cO_22, z23, cU u22_0, z24, cU u22_1, z25, cU u22_2, z26, cU u22_3, z27, cU u22_4, z28, cU u22_5, z29, cU u22_6, z30, cU u22_7, z31, cU u22_8, z32, cU u22_9, z33, cU u22_10, z34, cU u22_11, z35, cU u22_12, exists_eq_left', Option.some.injEq, exists_eq_left, ne_eq, List.length_nil, List.length_cons, Option.toList_some, Option.toList_none, List.cons_append, List.nil_append, mj_wt_nil, mj_wt_i, mj_wt_r, mj_wt_l, true_and, and_true, false_and, and_false, true_implies, false_implies, implies_true, not_true_eq_false, not_false_eq_true, and_self, Int.reduceEq, Nat.reduceEqDiff, ↓reduceIte, Int.reduceToNat, Nat.reduceAdd, Nat.reduceMul, List.append_nil, List.nil_append, implies_true, mj_w_id2, Int.toNat_natCast]
  try rw [hF]
  try grind
def cM_36 (M : mj_M) : mj_M := (mj_up M 36 5 (0))
theorem cM_36_o {b : Nat} (h : b < 36 ∨ 42 ≤ b) : cM_36 M b = M b := by
  unfold cM_36
  rw [mj_up_ne (by omega)]
theorem ct_36 (hρ : ∀ b, 36 ≤ b → b < 42 → ρ b = sgR b) (hM : ∀ b, 36 < b → b < 42 → M b = fun _ => 0) :
    mj_Rn d 6 0 [.inr (.inl 36)] [] (37, 5283, sgD, cP ρ 36 []) M Q = Q none (42, 5383, sgD, ρ) (cM_36 M) := by
  have z37 : mj_upr M 37 (fun _ => 0) = M := cZ (by exact hM 37 (by omega) (by omega))
  have u36_0 : ρ 36 0 = 37 := by rw [hρ 36 (by omega) (by omega)]; rfl
  have z38 : mj_upr M 38 (fun _ => 0) = M := cZ (by exact hM 38 (by omega) (by omega))
  have u36_1 : ρ 36 1 = 38 := by rw [hρ 36 (by omega) (by omega)]; rfl
  have z39 : mj_upr M 39 (fun _ => 0) = M := cZ (by exact hM 39 (by omega) (by omega))
  have u36_2 : ρ 36 2 = 39 := by rw [hρ 36 (by omega) (by omega)]; rfl
  have z40 : mj_upr M 40 (fun _ => 0) = M := cZ (by exact hM 40 (by omega) (by omega))
  have u36_3 : ρ 36 3 = 40 := by rw [hρ 36 (by omega) (by omega)]; rfl
  have z41 : mj_upr M 41 (fun _ => 0) = M := cZ (by exact hM 41 (by omega) (by omega))
  have u36_4 : ρ 36 4 = 41 := by rw [hρ 36 (by omega) (by omega)]; rfl
  have hF : cP ρ 36 [4, 3, 2, 1, 0] = ρ := cP_all (fun j hj => by
    rw [hρ 36 (by omega) (by omega)]
    exact row_all (row := sg_r.getD 36 []) (L := [4, 3, 2, 1, 0]) (by decide) j hj)
  unfold cM_36
  simp (disch := first | omega | decide) only [i_6_0, i_6_1, i_6_4, i_6_5, i_6_7, i_6_9, i_6_12, i_6_13, i_6_15, i_6_17, i_6_20, i_6_21, i_6_23, i_6_25, i_6_28, i_6_29, i_6_31, i_6_33, i_6_36, i_6_37, i_6_39, i_6_41, i_6_44, i_6_45, i_6_46, i_6_49, cA_37, cA_38, cA_39, cA_40, cA_41, cO_36, z37, cU u36_0, z38, cU u36_1, z39, cU u36_2, z40, cU u36_3, z41, cU u36_4, exists_eq_left', Option.some.injEq, exists_eq_left, ne_eq, List.length_nil, List.length_cons, Option.toList_some, Option.toList_none, List.cons_append, List.nil_append, mj_wt_nil, mj_wt_i, mj_wt_r, mj_wt_l, true_and, and_true, false_and, and_false, true_implies, false_implies, implies_true, not_true_eq_false, not_false_eq_true, and_self, Int.reduceEq, Nat.reduceEqDiff, ↓reduceIte, Int.reduceToNat, Nat.reduceAdd, Nat.reduceMul, List.append_nil, List.nil_append, implies_true, mj_w_id2, Int.toNat_natCast]
  try rw [hF]
  try grind
def cM_1 (M : mj_M) : mj_M := (q_fill (mj_up (mj_up (mj_up (mj_up (mj_up (mj_up (cM_36 (cM_22 (cM_13 (cM_2 M)))) 1 6 (0)) 1 7 (0)) 1 8 (0)) 1 9 (0)) 1 10 (-1)) 1 11 (0)) 42 400 (-1))
theorem cM_1_o {b : Nat} (h : b < 1 ∨ 44 ≤ b) : cM_1 M b = M b := by
  unfold cM_1
  rw [q_fill_ne (by omega), mj_up_ne (by omega), mj_up_ne (by omega), mj_up_ne (by omega), mj_up_ne (by omega), mj_up_ne (by omega), mj_up_ne (by omega), cM_36_o (by omega), cM_22_o (by omega), cM_13_o (by omega), cM_2_o (by omega)]
theorem ct_1 (hρ : ∀ b, 1 ≤ b → b < 44 → ρ b = sgR b) (hM : ∀ b, 1 < b → b < 44 → M b = fun _ => 0) :
    mj_Rn (d + 2) 1 0 [.inr (.inl 1)] [] (2, 29, sgD, cP ρ 1 []) M Q = Q none (44, 5799, sgD, ρ) (cM_1 M) := by
  have z2 : mj_upr M 2 (fun _ => 0) = M := cZ (by exact hM 2 (by omega) (by omega))
  have t2 := fun (d : Nat) (Q : Option mj_V → mj_G → mj_M → Prop) => ct_2 (d := d) (Q := Q) (ρ := cP ρ 1 []) (M := M) (fun c h1 h2 => by rw [cP_ne (by omega)]; exact hρ c (by omega) (by omega)) (fun c h1 h2 => by exact hM c (by omega) (by omega))
  have u1_0 : ρ 1 0 = 2 := by rw [hρ 1 (by omega) (by omega)]; rfl
  have z13 : mj_upr (cM_2 M) 13 (fun _ => 0) = (cM_2 M) := cZ (by rw [cM_2_o (by omega)]; exact hM 13 (by omega) (by omega))
  have t13 := fun (d : Nat) (Q : Option mj_V → mj_G → mj_M → Prop) => ct_13 (d := d) (Q := Q) (ρ := cP ρ 1 [0]) (M := (cM_2 M)) (fun c h1 h2 => by rw [cP_ne (by omega)]; exact hρ c (by omega) (by omega)) (fun c h1 h2 => by rw [cM_2_o (by omega)]; exact hM c (by omega) (by omega))
  have u1_1 : ρ 1 1 = 13 := by rw [hρ 1 (by omega) (by omega)]; rfl
  have z22 : mj_upr (cM_13 (cM_2 M)) 22 (fun _ => 0) = (cM_13 (cM_2 M)) := cZ (by rw [cM_13_o (by omega), cM_2_o (by omega)]; exact hM 22 (by omega) (by omega))
  have t22 := fun (d : Nat) (Q : Option mj_V → mj_G → mj_M → Prop) => ct_22 (d := d) (Q := Q) (ρ := cP ρ 1 [1, 0]) (M := (cM_13 (cM_2 M))) (fun c h1 h2 => by rw [cP_ne (by omega)]; exact hρ c (by omega) (by omega)) (fun c h1 h2 => by rw [cM_13_o (by omega), cM_2_o (by omega)]; exact hM c (by omega) (by omega))
  have u1_2 : ρ 1 2 = 22 := by rw [hρ 1 (by omega) (by omega)]; rfl
  have z36 : mj_upr (cM_22 (cM_13 (cM_2 M))) 36 (fun _ => 0) = (cM_22 (cM_13 (cM_2 M))) := cZ (by rw [cM_22_o (by omega), cM_13_o (by omega), cM_2_o (by omega)]; exact hM 36 (by omega) (by omega))
  have t36 := fun (d : Nat) (Q : Option mj_V → mj_G → mj_M → Prop) => ct_36 (d := d) (Q := Q) (ρ := cP ρ 1 [2, 1, 0]) (M := (cM_22 (cM_13 (cM_2 M)))) (fun c h1 h2 => by rw [cP_ne (by omega)]; exact hρ c (by omega) (by omega)) (fun c h1 h2 => by rw [cM_22_o (by omega), cM_13_o (by omega), cM_2_o (by omega)]; exact hM c (by omega) (by omega))
  have u1_3 : ρ 1 3 = 36 := by rw [hρ 1 (by omega) (by omega)]; rfl
  have z42 : mj_upr (cM_36 (cM_22 (cM_13 (cM_2 M)))) 42 (fun _ => 0) = (cM_36 (cM_22 (cM_13 (cM_2 M)))) := cZ (by rw [cM_36_o (by omega), cM_22_o (by omega), cM_13_o (by omega), cM_2_o (by omega)]; exact hM 42 (by omega) (by omega))
  have u1_4 : ρ 1 4 = 42 := by rw [hρ 1 (by omega) (by omega)]; rfl
  have z43 : mj_upr (cM_36 (cM_22 (cM_13 (cM_2 M)))) 43 (fun _ => 0) = (cM_36 (cM_22 (cM_13 (cM_2 M)))) := cZ (by rw [cM_36_o (by omega), cM_22_o (by omega), cM_13_o (by omega), cM_2_o (by omega)]; exact hM 43 (by omega) (by omega))
  have u1_5 : ρ 1 5 = 43 := by rw [hρ 1 (by omega) (by omega)]; rfl
  have g1_4 : ∀ L : List Nat, 4 ∈ L → cP ρ 1 L 1 4 = 42 := fun L h => by rw [cP_in h, hρ 1 (by omega) (by omega)]; rfl
  have f42 : ∀ (n s : Nat) (ρ : Nat → Nat → Nat) (M : mj_M) (d : Nat) (Q : Option mj_V → mj_G → mj_M → Prop), 42 < n → mj_Rn d 3 0 [.inr (.inl 42), .inl (-1), .inr (.inr 0), .inr (.inr 0)] [] (n, s, sgD, ρ) M Q = Q none (n, s, sgD, ρ) (q_fill M 42 400 (-1)) := fun n s ρ M d Q h => e_3 (by decide) (cT_42 h) (cI_42 h)
  have hF : cP ρ 1 [5, 4, 3, 2, 1, 0] = ρ := cP_all (fun j hj => by
    rw [hρ 1 (by omega) (by omega)]
    exact row_all (row := sg_r.getD 1 []) (L := [5, 4, 3, 2, 1, 0]) (by decide) j hj)
  unfold cM_1
  simp (disch := first | omega | decide) only [i_1_0, i_1_1, i_1_4, i_1_5, i_1_8, i_1_9, i_1_12, i_1_15, i_1_16, i_1_19, i_1_20, i_1_23, i_1_26, i_1_27, i_1_30, i_1_31, i_1_34, i_1_37, i_1_38, i_1_41, i_1_42, i_1_45, i_1_48, i_1_49, i_1_52, i_1_54, i_1_57, i_1_58, i_1_60, i_1_62, i_1_65, i_1_66, i_1_67, i_1_70, i_1_71, i_1_72, i_1_75, i_1_76, i_1_77, i_1_80, i_1_81, i_1_82, i_1_85, i_1_86, i_1_87, i_1_90, i_1_91, i_1_92, i_1_95, i_1_96, i_1_99, i_1_100, i_1_103, cA_42, cA_43, cN_13, cN_2, cN_22, cN_36, cT_42, cO_1, cO_2, cO_13, cO_22, cO_36, z2, t2, cU u1_0, z13, t13, cU u1_1, z22, t22, cU u1_2, z36, t36, cU u1_3, z42, cU u1_4, z43, cU u1_5, g1_4, f42, exists_eq_left', Option.some.injEq, exists_eq_left, ne_eq, List.length_nil, List.length_cons, Option.toList_some, Option.toList_none, List.cons_append, List.nil_append, mj_wt_nil, mj_wt_i, mj_wt_r, mj_wt_l, true_and, and_true, false_and, and_false, true_implies, false_implies, implies_true, not_true_eq_false, not_false_eq_true, and_self, Int.reduceEq, Nat.reduceEqDiff, ↓reduceIte, Int.reduceToNat, Nat.reduceAdd, Nat.reduceMul, List.append_nil, List.nil_append, implies_true, mj_w_id2, Int.toNat_natCast]
  try rw [hF]
  try grind
def cM_45 (M : mj_M) : mj_M := (q_fill M 46 120 (-1))
theorem cM_45_o {b : Nat} (h : b < 45 ∨ 56 ≤ b) : cM_45 M b = M b := by
  unfold cM_45
  rw [q_fill_ne (by omega)]
theorem ct_45 (hρ : ∀ b, 45 ≤ b → b < 56 → ρ b = sgR b) (hM : ∀ b, 45 < b → b < 56 → M b = fun _ => 0) :
    mj_Rn (d + 1) 2 0 [.inr (.inl 45)] [] (46, 5821, sgD, cP ρ 45 []) M Q = Q none (56, 7021, sgD, ρ) (cM_45 M) := by
  have z46 : mj_upr M 46 (fun _ => 0) = M := cZ (by exact hM 46 (by omega) (by omega))
  have u45_0 : ρ 45 0 = 46 := by rw [hρ 45 (by omega) (by omega)]; rfl
  have z47 : mj_upr M 47 (fun _ => 0) = M := cZ (by exact hM 47 (by omega) (by omega))
  have u45_1 : ρ 45 1 = 47 := by rw [hρ 45 (by omega) (by omega)]; rfl
  have z48 : mj_upr M 48 (fun _ => 0) = M := cZ (by exact hM 48 (by omega) (by omega))
  have u45_2 : ρ 45 2 = 48 := by rw [hρ 45 (by omega) (by omega)]; rfl
  have z49 : mj_upr M 49 (fun _ => 0) = M := cZ (by exact hM 49 (by omega) (by omega))
  have u45_3 : ρ 45 3 = 49 := by rw [hρ 45 (by omega) (by omega)]; rfl
  have z50 : mj_upr M 50 (fun _ => 0) = M := cZ (by exact hM 50 (by omega) (by omega))
  have u45_4 : ρ 45 4 = 50 := by rw [hρ 45 (by omega) (by omega)]; rfl
  have z51 : mj_upr M 51 (fun _ => 0) = M := cZ (by exact hM 51 (by omega) (by omega))
  have u45_5 : ρ 45 5 = 51 := by rw [hρ 45 (by omega) (by omega)]; rfl
  have z52 : mj_upr M 52 (fun _ => 0) = M := cZ (by exact hM 52 (by omega) (by omega))
  have u45_6 : ρ 45 6 = 52 := by rw [hρ 45 (by omega) (by omega)]; rfl
  have z53 : mj_upr M 53 (fun _ => 0) = M := cZ (by exact hM 53 (by omega) (by omega))
  have u45_7 : ρ 45 7 = 53 := by rw [hρ 45 (by omega) (by omega)]; rfl
  have z54 : mj_upr M 54 (fun _ => 0) = M := cZ (by exact hM 54 (by omega) (by omega))
  have u45_8 : ρ 45 8 = 54 := by rw [hρ 45 (by omega) (by omega)]; rfl
  have z55 : mj_upr M 55 (fun _ => 0) = M := cZ (by exact hM 55 (by omega) (by omega))
  have u45_9 : ρ 45 9 = 55 := by rw [hρ 45 (by omega) (by omega)]; rfl
  have g45_0 : ∀ L : List Nat, 0 ∈ L → cP ρ 45 L 45 0 = 46 := fun L h => by rw [cP_in h, hρ 45 (by omega) (by omega)]; rfl
  have f46 : ∀ (n s : Nat) (ρ : Nat → Nat → Nat) (M : mj_M) (d : Nat) (Q : Option mj_V → mj_G → mj_M → Prop), 46 < n → mj_Rn d 3 0 [.inr (.inl 46), .inl (-1), .inr (.inr 0), .inr (.inr 0)] [] (n, s, sgD, ρ) M Q = Q none (n, s, sgD, ρ) (q_fill M 46 120 (-1)) := fun n s ρ M d Q h => e_3 (by decide) (cT_46 h) (cI_46 h)
  have hF : cP ρ 45 [9, 8, 7, 6, 5, 4, 3, 2, 1, 0] = ρ := cP_all (fun j hj => by
    rw [hρ 45 (by omega) (by omega)]
    exact row_all (row := sg_r.getD 45 []) (L := [9, 8, 7, 6, 5, 4, 3, 2, 1, 0]) (by decide) j hj)
  unfold cM_45
  simp (disch := first | omega | decide) only [i_2_0, i_2_1, i_2_4, i_2_5, i_2_7, i_2_9, i_2_12, i_2_13, i_2_15, i_2_17, i_2_20, i_2_21, i_2_23, i_2_25, i_2_28, i_2_29, i_2_31, i_2_33, i_2_36, i_2_37, i_2_39, i_2_41, i_2_44, i_2_45, i_2_47, i_2_49, i_2_52, i_2_53, i_2_55, i_2_57, i_2_60, i_2_61, i_2_63, i_2_65, i_2_68, i_2_69, i_2_71, i_2_73, i_2_76, i_2_77, i_2_79, i_2_81, i_2_84, i_2_85, i_2_88, i_2_89, i_2_92, cA_46, cA_47, cA_48, cA_49, cA_50, cA_51, cA_52, cA_53, cA_54, cA_55, cT_46, cO_45, z46, cU u45_0, z47, cU u45_1, z48, cU u45_2, z49, cU u45_3, z50, cU u45_4, z51, cU u45_5, z52, cU u45_6, z53, cU u45_7, z54, cU u45_8, z55, cU u45_9, g45_0, f46, exists_eq_left', Option.some.injEq, exists_eq_left, ne_eq, List.length_nil, List.length_cons, Option.toList_some, Option.toList_none, List.cons_append, List.nil_append, mj_wt_nil, mj_wt_i, mj_wt_r, mj_wt_l, true_and, and_true, false_and, and_false, true_implies, false_implies, implies_true, not_true_eq_false, not_false_eq_true, and_self, Int.reduceEq, Nat.reduceEqDiff, ↓reduceIte, Int.reduceToNat, Nat.reduceAdd, Nat.reduceMul, List.append_nil, List.nil_append, implies_true, mj_w_id2, Int.toNat_natCast]
  try rw [hF]
  try grind
def cM_56 (M : mj_M) : mj_M := (q_fill M 57 40 (-1))
theorem cM_56_o {b : Nat} (h : b < 56 ∨ 65 ≤ b) : cM_56 M b = M b := by
  unfold cM_56
  rw [q_fill_ne (by omega)]
theorem ct_56 (hρ : ∀ b, 56 ≤ b → b < 65 → ρ b = sgR b) (hM : ∀ b, 56 < b → b < 65 → M b = fun _ => 0) :
    mj_Rn (d + 1) 4 0 [.inr (.inl 56)] [] (57, 7029, sgD, cP ρ 56 []) M Q = Q none (65, 9669, sgD, ρ) (cM_56 M) := by
  have z57 : mj_upr M 57 (fun _ => 0) = M := cZ (by exact hM 57 (by omega) (by omega))
  have u56_0 : ρ 56 0 = 57 := by rw [hρ 56 (by omega) (by omega)]; rfl
  have z58 : mj_upr M 58 (fun _ => 0) = M := cZ (by exact hM 58 (by omega) (by omega))
  have u56_1 : ρ 56 1 = 58 := by rw [hρ 56 (by omega) (by omega)]; rfl
  have z59 : mj_upr M 59 (fun _ => 0) = M := cZ (by exact hM 59 (by omega) (by omega))
  have u56_2 : ρ 56 2 = 59 := by rw [hρ 56 (by omega) (by omega)]; rfl
  have z60 : mj_upr M 60 (fun _ => 0) = M := cZ (by exact hM 60 (by omega) (by omega))
  have u56_3 : ρ 56 3 = 60 := by rw [hρ 56 (by omega) (by omega)]; rfl
  have z61 : mj_upr M 61 (fun _ => 0) = M := cZ (by exact hM 61 (by omega) (by omega))
  have u56_4 : ρ 56 4 = 61 := by rw [hρ 56 (by omega) (by omega)]; rfl
  have z62 : mj_upr M 62 (fun _ => 0) = M := cZ (by exact hM 62 (by omega) (by omega))
  have u56_5 : ρ 56 5 = 62 := by rw [hρ 56 (by omega) (by omega)]; rfl
  have z63 : mj_upr M 63 (fun _ => 0) = M := cZ (by exact hM 63 (by omega) (by omega))
  have u56_6 : ρ 56 6 = 63 := by rw [hρ 56 (by omega) (by omega)]; rfl
  have z64 : mj_upr M 64 (fun _ => 0) = M := cZ (by exact hM 64 (by omega) (by omega))
  have u56_7 : ρ 56 7 = 64 := by rw [hρ 56 (by omega) (by omega)]; rfl
  have g56_0 : ∀ L : List Nat, 0 ∈ L → cP ρ 56 L 56 0 = 57 := fun L h => by rw [cP_in h, hρ 56 (by omega) (by omega)]; rfl
  have f57 : ∀ (n s : Nat) (ρ : Nat → Nat → Nat) (M : mj_M) (d : Nat) (Q : Option mj_V → mj_G → mj_M → Prop), 57 < n → mj_Rn d 3 0 [.inr (.inl 57), .inl (-1), .inr (.inr 0), .inr (.inr 0)] [] (n, s, sgD, ρ) M Q = Q none (n, s, sgD, ρ) (q_fill M 57 40 (-1)) := fun n s ρ M d Q h => e_3 (by decide) (cT_57 h) (cI_57 h)
  have hF : cP ρ 56 [7, 6, 5, 4, 3, 2, 1, 0] = ρ := cP_all (fun j hj => by
    rw [hρ 56 (by omega) (by omega)]
    exact row_all (row := sg_r.getD 56 []) (L := [7, 6, 5, 4, 3, 2, 1, 0]) (by decide) j hj)
  unfold cM_56
  simp (disch := first | omega | decide) only [i_4_0, i_4_1, i_4_4, i_4_5, i_4_7, i_4_9, i_4_12, i_4_13, i_4_15, i_4_17, i_4_20, i_4_21, i_4_23, i_4_25, i_4_28, i_4_29, i_4_31, i_4_33, i_4_36, i_4_37, i_4_39, i_4_41, i_4_44, i_4_45, i_4_47, i_4_49, i_4_52, i_4_53, i_4_56, i_4_58, i_4_61, i_4_62, i_4_65, i_4_67, i_4_70, i_4_71, i_4_74, i_4_75, i_4_78, cA_57, cA_58, cA_59, cA_60, cA_61, cA_62, cA_63, cA_64, cT_57, cO_56, z57, cU u56_0, z58, cU u56_1, z59, cU u56_2, z60, cU u56_3, z61, cU u56_4, z62, cU u56_5, z63, cU u56_6, z64, cU u56_7, g56_0, f57, exists_eq_left', Option.some.injEq, exists_eq_left, ne_eq, List.length_nil, List.length_cons, Option.toList_some, Option.toList_none, List.cons_append, List.nil_append, mj_wt_nil, mj_wt_i, mj_wt_r, mj_wt_l, true_and, and_true, false_and, and_false, true_implies, false_implies, implies_true, not_true_eq_false, not_false_eq_true, and_self, Int.reduceEq, Nat.reduceEqDiff, ↓reduceIte, Int.reduceToNat, Nat.reduceAdd, Nat.reduceMul, List.append_nil, List.nil_append, implies_true, mj_w_id2, Int.toNat_natCast]
  try rw [hF]
  try grind
def cM_65 (M : mj_M) : mj_M := (mj_up M 65 13 (0))
theorem cM_65_o {b : Nat} (h : b < 65 ∨ 79 ≤ b) : cM_65 M b = M b := by
  unfold cM_65
  rw [mj_up_ne (by omega)]
theorem ct_65 (hρ : ∀ b, 65 ≤ b → b < 79 → ρ b = sgR b) (hM : ∀ b, 65 < b → b < 79 → M b = fun _ => 0) :
    mj_Rn d 5 0 [.inr (.inl 65)] [] (66, 9683, sgD, cP ρ 65 []) M Q = Q none (79, 11059, sgD, ρ) (cM_65 M) := by
  have z66 : mj_upr M 66 (fun _ => 0) = M := cZ (by exact hM 66 (by omega) (by omega))
  have u65_0 : ρ 65 0 = 66 := by rw [hρ 65 (by omega) (by omega)]; rfl
  have z67 : mj_upr M 67 (fun _ => 0) = M := cZ (by exact hM 67 (by omega) (by omega))
  have u65_1 : ρ 65 1 = 67 := by rw [hρ 65 (by omega) (by omega)]; rfl
  have z68 : mj_upr M 68 (fun _ => 0) = M := cZ (by exact hM 68 (by omega) (by omega))
  have u65_2 : ρ 65 2 = 68 := by rw [hρ 65 (by omega) (by omega)]; rfl
  have z69 : mj_upr M 69 (fun _ => 0) = M := cZ (by exact hM 69 (by omega) (by omega))
  have u65_3 : ρ 65 3 = 69 := by rw [hρ 65 (by omega) (by omega)]; rfl
  have z70 : mj_upr M 70 (fun _ => 0) = M := cZ (by exact hM 70 (by omega) (by omega))
  have u65_4 : ρ 65 4 = 70 := by rw [hρ 65 (by omega) (by omega)]; rfl
  have z71 : mj_upr M 71 (fun _ => 0) = M := cZ (by exact hM 71 (by omega) (by omega))
  have u65_5 : ρ 65 5 = 71 := by rw [hρ 65 (by omega) (by omega)]; rfl
  have z72 : mj_upr M 72 (fun _ => 0) = M := cZ (by exact hM 72 (by omega) (by omega))
  have u65_6 : ρ 65 6 = 72 := by rw [hρ 65 (by omega) (by omega)]; rfl
  have z73 : mj_upr M 73 (fun _ => 0) = M := cZ (by exact hM 73 (by omega) (by omega))
  have u65_7 : ρ 65 7 = 73 := by rw [hρ 65 (by omega) (by omega)]; rfl
  have z74 : mj_upr M 74 (fun _ => 0) = M := cZ (by exact hM 74 (by omega) (by omega))
  have u65_8 : ρ 65 8 = 74 := by rw [hρ 65 (by omega) (by omega)]; rfl
  have z75 : mj_upr M 75 (fun _ => 0) = M := cZ (by exact hM 75 (by omega) (by omega))
  have u65_9 : ρ 65 9 = 75 := by rw [hρ 65 (by omega) (by omega)]; rfl
  have z76 : mj_upr M 76 (fun _ => 0) = M := cZ (by exact hM 76 (by omega) (by omega))
  have u65_10 : ρ 65 10 = 76 := by rw [hρ 65 (by omega) (by omega)]; rfl
  have z77 : mj_upr M 77 (fun _ => 0) = M := cZ (by exact hM 77 (by omega) (by omega))
  have u65_11 : ρ 65 11 = 77 := by rw [hρ 65 (by omega) (by omega)]; rfl
  have z78 : mj_upr M 78 (fun _ => 0) = M := cZ (by exact hM 78 (by omega) (by omega))
  have u65_12 : ρ 65 12 = 78 := by rw [hρ 65 (by omega) (by omega)]; rfl
  have hF : cP ρ 65 [12, 11, 10, 9, 8, 7, 6, 5, 4, 3, 2, 1, 0] = ρ := cP_all (fun j hj => by
    rw [hρ 65 (by omega) (by omega)]
    exact row_all (row := sg_r.getD 65 []) (L := [12, 11, 10, 9, 8, 7, 6, 5, 4, 3, 2, 1, 0]) (by decide) j hj)
  unfold cM_65
  simp (disch := first | omega | decide) only [i_5_0, i_5_1, i_5_4, i_5_5, i_5_7, i_5_9, i_5_12, i_5_13, i_5_15, i_5_17, i_5_20, i_5_21, i_5_23, i_5_25, i_5_28, i_5_29, i_5_31, i_5_33, i_5_36, i_5_37, i_5_39, i_5_41, i_5_44, i_5_45, i_5_47, i_5_49, i_5_52, i_5_53, i_5_55, i_5_57, i_5_60, i_5_61, i_5_63, i_5_65, i_5_68, i_5_69, i_5_71, i_5_73, i_5_76, i_5_77, i_5_79, i_5_81, i_5_84, i_5_85, i_5_87, i_5_89, i_5_92, i_5_93, i_5_95, i_5_97, i_5_100, i_5_101, i_5_104, i_5_106, i_5_109, i_5_110, i_5_111, i_5_114, cA_66, cA_67, cA_68, cA_69, cA_70, cA_71, cA_72, cA_73, cA_74, cA_75, cA_76, cA_77, cA_78, cO_65, z66, cU u65_0, z67, cU u65_1, z68, cU u65_2, z69, cU u65_3, z70, cU u65_4, z71, cU u65_5, z72, cU u65_6, z73, cU u65_7, z74, cU u65_8, z75, cU u65_9, z76, cU u65_10, z77, cU u65_11, z78, cU u65_12, exists_eq_left', Option.some.injEq, exists_eq_left, ne_eq, List.length_nil, List.length_cons, Option.toList_some, Option.toList_none, List.cons_append, List.nil_append, mj_wt_nil, mj_wt_i, mj_wt_r, mj_wt_l, true_and, and_true, false_and, and_false, true_implies, false_implies, implies_true, not_true_eq_false, not_false_eq_true, and_self, Int.reduceEq, Nat.reduceEqDiff, ↓reduceIte, Int.reduceToNat, Nat.reduceAdd, Nat.reduceMul, List.append_nil, List.nil_append, implies_true, mj_w_id2, Int.toNat_natCast]
  try rw [hF]
  try grind
def cM_79 (M : mj_M) : mj_M := (mj_up M 79 5 (0))
theorem cM_79_o {b : Nat} (h : b < 79 ∨ 85 ≤ b) : cM_79 M b = M b := by
  unfold cM_79
  rw [mj_up_ne (by omega)]
theorem ct_79 (hρ : ∀ b, 79 ≤ b → b < 85 → ρ b = sgR b) (hM : ∀ b, 79 < b → b < 85 → M b = fun _ => 0) :
    mj_Rn d 6 0 [.inr (.inl 79)] [] (80, 11065, sgD, cP ρ 79 []) M Q = Q none (85, 11165, sgD, ρ) (cM_79 M) := by
  have z80 : mj_upr M 80 (fun _ => 0) = M := cZ (by exact hM 80 (by omega) (by omega))
  have u79_0 : ρ 79 0 = 80 := by rw [hρ 79 (by omega) (by omega)]; rfl
  have z81 : mj_upr M 81 (fun _ => 0) = M := cZ (by exact hM 81 (by omega) (by omega))
  have u79_1 : ρ 79 1 = 81 := by rw [hρ 79 (by omega) (by omega)]; rfl
  have z82 : mj_upr M 82 (fun _ => 0) = M := cZ (by exact hM 82 (by omega) (by omega))
  have u79_2 : ρ 79 2 = 82 := by rw [hρ 79 (by omega) (by omega)]; rfl
  have z83 : mj_upr M 83 (fun _ => 0) = M := cZ (by exact hM 83 (by omega) (by omega))
  have u79_3 : ρ 79 3 = 83 := by rw [hρ 79 (by omega) (by omega)]; rfl
  have z84 : mj_upr M 84 (fun _ => 0) = M := cZ (by exact hM 84 (by omega) (by omega))
  have u79_4 : ρ 79 4 = 84 := by rw [hρ 79 (by omega) (by omega)]; rfl
  have hF : cP ρ 79 [4, 3, 2, 1, 0] = ρ := cP_all (fun j hj => by
    rw [hρ 79 (by omega) (by omega)]
    exact row_all (row := sg_r.getD 79 []) (L := [4, 3, 2, 1, 0]) (by decide) j hj)
  unfold cM_79
  simp (disch := first | omega | decide) only [i_6_0, i_6_1, i_6_4, i_6_5, i_6_7, i_6_9, i_6_12, i_6_13, i_6_15, i_6_17, i_6_20, i_6_21, i_6_23, i_6_25, i_6_28, i_6_29, i_6_31, i_6_33, i_6_36, i_6_37, i_6_39, i_6_41, i_6_44, i_6_45, i_6_46, i_6_49, cA_80, cA_81, cA_82, cA_83, cA_84, cO_79, z80, cU u79_0, z81, cU u79_1, z82, cU u79_2, z83, cU u79_3, z84, cU u79_4, exists_eq_left', Option.some.injEq, exists_eq_left, ne_eq, List.length_nil, List.length_cons, Option.toList_some, Option.toList_none, List.cons_append, List.nil_append, mj_wt_nil, mj_wt_i, mj_wt_r, mj_wt_l, true_and, and_true, false_and, and_false, true_implies, false_implies, implies_true, not_true_eq_false, not_false_eq_true, and_self, Int.reduceEq, Nat.reduceEqDiff, ↓reduceIte, Int.reduceToNat, Nat.reduceAdd, Nat.reduceMul, List.append_nil, List.nil_append, implies_true, mj_w_id2, Int.toNat_natCast]
  try rw [hF]
  try grind
def cM_44 (M : mj_M) : mj_M := (q_fill (mj_up (mj_up (mj_up (mj_up (mj_up (mj_up (cM_79 (cM_65 (cM_56 (cM_45 M)))) 44 6 (0)) 44 7 (0)) 44 8 (0)) 44 9 (0)) 44 10 (-1)) 44 11 (0)) 85 400 (-1))
theorem cM_44_o {b : Nat} (h : b < 44 ∨ 87 ≤ b) : cM_44 M b = M b := by
  unfold cM_44
  rw [q_fill_ne (by omega), mj_up_ne (by omega), mj_up_ne (by omega), mj_up_ne (by omega), mj_up_ne (by omega), mj_up_ne (by omega), mj_up_ne (by omega), cM_79_o (by omega), cM_65_o (by omega), cM_56_o (by omega), cM_45_o (by omega)]
theorem ct_44 (hρ : ∀ b, 44 ≤ b → b < 87 → ρ b = sgR b) (hM : ∀ b, 44 < b → b < 87 → M b = fun _ => 0) :
    mj_Rn (d + 2) 1 0 [.inr (.inl 44)] [] (45, 5811, sgD, cP ρ 44 []) M Q = Q none (87, 11581, sgD, ρ) (cM_44 M) := by
  have z45 : mj_upr M 45 (fun _ => 0) = M := cZ (by exact hM 45 (by omega) (by omega))
  have t45 := fun (d : Nat) (Q : Option mj_V → mj_G → mj_M → Prop) => ct_45 (d := d) (Q := Q) (ρ := cP ρ 44 []) (M := M) (fun c h1 h2 => by rw [cP_ne (by omega)]; exact hρ c (by omega) (by omega)) (fun c h1 h2 => by exact hM c (by omega) (by omega))
  have u44_0 : ρ 44 0 = 45 := by rw [hρ 44 (by omega) (by omega)]; rfl
  have z56 : mj_upr (cM_45 M) 56 (fun _ => 0) = (cM_45 M) := cZ (by rw [cM_45_o (by omega)]; exact hM 56 (by omega) (by omega))
  have t56 := fun (d : Nat) (Q : Option mj_V → mj_G → mj_M → Prop) => ct_56 (d := d) (Q := Q) (ρ := cP ρ 44 [0]) (M := (cM_45 M)) (fun c h1 h2 => by rw [cP_ne (by omega)]; exact hρ c (by omega) (by omega)) (fun c h1 h2 => by rw [cM_45_o (by omega)]; exact hM c (by omega) (by omega))
  have u44_1 : ρ 44 1 = 56 := by rw [hρ 44 (by omega) (by omega)]; rfl
  have z65 : mj_upr (cM_56 (cM_45 M)) 65 (fun _ => 0) = (cM_56 (cM_45 M)) := cZ (by rw [cM_56_o (by omega), cM_45_o (by omega)]; exact hM 65 (by omega) (by omega))
  have t65 := fun (d : Nat) (Q : Option mj_V → mj_G → mj_M → Prop) => ct_65 (d := d) (Q := Q) (ρ := cP ρ 44 [1, 0]) (M := (cM_56 (cM_45 M))) (fun c h1 h2 => by rw [cP_ne (by omega)]; exact hρ c (by omega) (by omega)) (fun c h1 h2 => by rw [cM_56_o (by omega), cM_45_o (by omega)]; exact hM c (by omega) (by omega))
  have u44_2 : ρ 44 2 = 65 := by rw [hρ 44 (by omega) (by omega)]; rfl
  have z79 : mj_upr (cM_65 (cM_56 (cM_45 M))) 79 (fun _ => 0) = (cM_65 (cM_56 (cM_45 M))) := cZ (by rw [cM_65_o (by omega), cM_56_o (by omega), cM_45_o (by omega)]; exact hM 79 (by omega) (by omega))
  have t79 := fun (d : Nat) (Q : Option mj_V → mj_G → mj_M → Prop) => ct_79 (d := d) (Q := Q) (ρ := cP ρ 44 [2, 1, 0]) (M := (cM_65 (cM_56 (cM_45 M)))) (fun c h1 h2 => by rw [cP_ne (by omega)]; exact hρ c (by omega) (by omega)) (fun c h1 h2 => by rw [cM_65_o (by omega), cM_56_o (by omega), cM_45_o (by omega)]; exact hM c (by omega) (by omega))
  have u44_3 : ρ 44 3 = 79 := by rw [hρ 44 (by omega) (by omega)]; rfl
  have z85 : mj_upr (cM_79 (cM_65 (cM_56 (cM_45 M)))) 85 (fun _ => 0) = (cM_79 (cM_65 (cM_56 (cM_45 M)))) := cZ (by rw [cM_79_o (by omega), cM_65_o (by omega), cM_56_o (by omega), cM_45_o (by omega)]; exact hM 85 (by omega) (by omega))
  have u44_4 : ρ 44 4 = 85 := by rw [hρ 44 (by omega) (by omega)]; rfl
  have z86 : mj_upr (cM_79 (cM_65 (cM_56 (cM_45 M)))) 86 (fun _ => 0) = (cM_79 (cM_65 (cM_56 (cM_45 M)))) := cZ (by rw [cM_79_o (by omega), cM_65_o (by omega), cM_56_o (by omega), cM_45_o (by omega)]; exact hM 86 (by omega) (by omega))
  have u44_5 : ρ 44 5 = 86 := by rw [hρ 44 (by omega) (by omega)]; rfl
  have g44_4 : ∀ L : List Nat, 4 ∈ L → cP ρ 44 L 44 4 = 85 := fun L h => by rw [cP_in h, hρ 44 (by omega) (by omega)]; rfl
  have f85 : ∀ (n s : Nat) (ρ : Nat → Nat → Nat) (M : mj_M) (d : Nat) (Q : Option mj_V → mj_G → mj_M → Prop), 85 < n → mj_Rn d 3 0 [.inr (.inl 85), .inl (-1), .inr (.inr 0), .inr (.inr 0)] [] (n, s, sgD, ρ) M Q = Q none (n, s, sgD, ρ) (q_fill M 85 400 (-1)) := fun n s ρ M d Q h => e_3 (by decide) (cT_85 h) (cI_85 h)
  have hF : cP ρ 44 [5, 4, 3, 2, 1, 0] = ρ := cP_all (fun j hj => by
    rw [hρ 44 (by omega) (by omega)]
    exact row_all (row := sg_r.getD 44 []) (L := [5, 4, 3, 2, 1, 0]) (by decide) j hj)
  unfold cM_44
  simp (disch := first | omega | decide) only [i_1_0, i_1_1, i_1_4, i_1_5, i_1_8, i_1_9, i_1_12, i_1_15, i_1_16, i_1_19, i_1_20, i_1_23, i_1_26, i_1_27, i_1_30, i_1_31, i_1_34, i_1_37, i_1_38, i_1_41, i_1_42, i_1_45, i_1_48, i_1_49, i_1_52, i_1_54, i_1_57, i_1_58, i_1_60, i_1_62, i_1_65, i_1_66, i_1_67, i_1_70, i_1_71, i_1_72, i_1_75, i_1_76, i_1_77, i_1_80, i_1_81, i_1_82, i_1_85, i_1_86, i_1_87, i_1_90, i_1_91, i_1_92, i_1_95, i_1_96, i_1_99, i_1_100, i_1_103, cA_85, cA_86, cN_45, cN_56, cN_65, cN_79, cT_85, cO_44, cO_45, cO_56, cO_65, cO_79, z45, t45, cU u44_0, z56, t56, cU u44_1, z65, t65, cU u44_2, z79, t79, cU u44_3, z85, cU u44_4, z86, cU u44_5, g44_4, f85, exists_eq_left', Option.some.injEq, exists_eq_left, ne_eq, List.length_nil, List.length_cons, Option.toList_some, Option.toList_none, List.cons_append, List.nil_append, mj_wt_nil, mj_wt_i, mj_wt_r, mj_wt_l, true_and, and_true, false_and, and_false, true_implies, false_implies, implies_true, not_true_eq_false, not_false_eq_true, and_self, Int.reduceEq, Nat.reduceEqDiff, ↓reduceIte, Int.reduceToNat, Nat.reduceAdd, Nat.reduceMul, List.append_nil, List.nil_append, implies_true, mj_w_id2, Int.toNat_natCast]
  try rw [hF]
  try grind
def cM_88 (M : mj_M) : mj_M := (q_fill M 89 120 (-1))
theorem cM_88_o {b : Nat} (h : b < 88 ∨ 99 ≤ b) : cM_88 M b = M b := by
  unfold cM_88
  rw [q_fill_ne (by omega)]
theorem ct_88 (hρ : ∀ b, 88 ≤ b → b < 99 → ρ b = sgR b) (hM : ∀ b, 88 < b → b < 99 → M b = fun _ => 0) :
    mj_Rn (d + 1) 2 0 [.inr (.inl 88)] [] (89, 11603, sgD, cP ρ 88 []) M Q = Q none (99, 12803, sgD, ρ) (cM_88 M) := by
  have z89 : mj_upr M 89 (fun _ => 0) = M := cZ (by exact hM 89 (by omega) (by omega))
  have u88_0 : ρ 88 0 = 89 := by rw [hρ 88 (by omega) (by omega)]; rfl
  have z90 : mj_upr M 90 (fun _ => 0) = M := cZ (by exact hM 90 (by omega) (by omega))
  have u88_1 : ρ 88 1 = 90 := by rw [hρ 88 (by omega) (by omega)]; rfl
  have z91 : mj_upr M 91 (fun _ => 0) = M := cZ (by exact hM 91 (by omega) (by omega))
  have u88_2 : ρ 88 2 = 91 := by rw [hρ 88 (by omega) (by omega)]; rfl
  have z92 : mj_upr M 92 (fun _ => 0) = M := cZ (by exact hM 92 (by omega) (by omega))
  have u88_3 : ρ 88 3 = 92 := by rw [hρ 88 (by omega) (by omega)]; rfl
  have z93 : mj_upr M 93 (fun _ => 0) = M := cZ (by exact hM 93 (by omega) (by omega))
  have u88_4 : ρ 88 4 = 93 := by rw [hρ 88 (by omega) (by omega)]; rfl
  have z94 : mj_upr M 94 (fun _ => 0) = M := cZ (by exact hM 94 (by omega) (by omega))
  have u88_5 : ρ 88 5 = 94 := by rw [hρ 88 (by omega) (by omega)]; rfl
  have z95 : mj_upr M 95 (fun _ => 0) = M := cZ (by exact hM 95 (by omega) (by omega))
  have u88_6 : ρ 88 6 = 95 := by rw [hρ 88 (by omega) (by omega)]; rfl
  have z96 : mj_upr M 96 (fun _ => 0) = M := cZ (by exact hM 96 (by omega) (by omega))
  have u88_7 : ρ 88 7 = 96 := by rw [hρ 88 (by omega) (by omega)]; rfl
  have z97 : mj_upr M 97 (fun _ => 0) = M := cZ (by exact hM 97 (by omega) (by omega))
  have u88_8 : ρ 88 8 = 97 := by rw [hρ 88 (by omega) (by omega)]; rfl
  have z98 : mj_upr M 98 (fun _ => 0) = M := cZ (by exact hM 98 (by omega) (by omega))
  have u88_9 : ρ 88 9 = 98 := by rw [hρ 88 (by omega) (by omega)]; rfl
  have g88_0 : ∀ L : List Nat, 0 ∈ L → cP ρ 88 L 88 0 = 89 := fun L h => by rw [cP_in h, hρ 88 (by omega) (by omega)]; rfl
  have f89 : ∀ (n s : Nat) (ρ : Nat → Nat → Nat) (M : mj_M) (d : Nat) (Q : Option mj_V → mj_G → mj_M → Prop), 89 < n → mj_Rn d 3 0 [.inr (.inl 89), .inl (-1), .inr (.inr 0), .inr (.inr 0)] [] (n, s, sgD, ρ) M Q = Q none (n, s, sgD, ρ) (q_fill M 89 120 (-1)) := fun n s ρ M d Q h => e_3 (by decide) (cT_89 h) (cI_89 h)
  have hF : cP ρ 88 [9, 8, 7, 6, 5, 4, 3, 2, 1, 0] = ρ := cP_all (fun j hj => by
    rw [hρ 88 (by omega) (by omega)]
    exact row_all (row := sg_r.getD 88 []) (L := [9, 8, 7, 6, 5, 4, 3, 2, 1, 0]) (by decide) j hj)
  unfold cM_88
  simp (disch := first | omega | decide) only [i_2_0, i_2_1, i_2_4, i_2_5, i_2_7, i_2_9, i_2_12, i_2_13, i_2_15, i_2_17, i_2_20, i_2_21, i_2_23, i_2_25, i_2_28, i_2_29, i_2_31, i_2_33, i_2_36, i_2_37, i_2_39, i_2_41, i_2_44, i_2_45, i_2_47, i_2_49, i_2_52, i_2_53, i_2_55, i_2_57, i_2_60, i_2_61, i_2_63, i_2_65, i_2_68, i_2_69, i_2_71, i_2_73, i_2_76, i_2_77, i_2_79, i_2_81, i_2_84, i_2_85, i_2_88, i_2_89, i_2_92, cA_89, cA_90, cA_91, cA_92, cA_93, cA_94, cA_95, cA_96, cA_97, cA_98, cT_89, cO_88, z89, cU u88_0, z90, cU u88_1, z91, cU u88_2, z92, cU u88_3, z93, cU u88_4, z94, cU u88_5, z95, cU u88_6, z96, cU u88_7, z97, cU u88_8, z98, cU u88_9, g88_0, f89, exists_eq_left', Option.some.injEq, exists_eq_left, ne_eq, List.length_nil, List.length_cons, Option.toList_some, Option.toList_none, List.cons_append, List.nil_append, mj_wt_nil, mj_wt_i, mj_wt_r, mj_wt_l, true_and, and_true, false_and, and_false, true_implies, false_implies, implies_true, not_true_eq_false, not_false_eq_true, and_self, Int.reduceEq, Nat.reduceEqDiff, ↓reduceIte, Int.reduceToNat, Nat.reduceAdd, Nat.reduceMul, List.append_nil, List.nil_append, implies_true, mj_w_id2, Int.toNat_natCast]
  try rw [hF]
  try grind
def cM_99 (M : mj_M) : mj_M := (q_fill M 100 40 (-1))
theorem cM_99_o {b : Nat} (h : b < 99 ∨ 108 ≤ b) : cM_99 M b = M b := by
  unfold cM_99
  rw [q_fill_ne (by omega)]
theorem ct_99 (hρ : ∀ b, 99 ≤ b → b < 108 → ρ b = sgR b) (hM : ∀ b, 99 < b → b < 108 → M b = fun _ => 0) :
    mj_Rn (d + 1) 4 0 [.inr (.inl 99)] [] (100, 12811, sgD, cP ρ 99 []) M Q = Q none (108, 15451, sgD, ρ) (cM_99 M) := by
  have z100 : mj_upr M 100 (fun _ => 0) = M := cZ (by exact hM 100 (by omega) (by omega))
  have u99_0 : ρ 99 0 = 100 := by rw [hρ 99 (by omega) (by omega)]; rfl
  have z101 : mj_upr M 101 (fun _ => 0) = M := cZ (by exact hM 101 (by omega) (by omega))
  have u99_1 : ρ 99 1 = 101 := by rw [hρ 99 (by omega) (by omega)]; rfl
  have z102 : mj_upr M 102 (fun _ => 0) = M := cZ (by exact hM 102 (by omega) (by omega))
  have u99_2 : ρ 99 2 = 102 := by rw [hρ 99 (by omega) (by omega)]; rfl
  have z103 : mj_upr M 103 (fun _ => 0) = M := cZ (by exact hM 103 (by omega) (by omega))
  have u99_3 : ρ 99 3 = 103 := by rw [hρ 99 (by omega) (by omega)]; rfl
  have z104 : mj_upr M 104 (fun _ => 0) = M := cZ (by exact hM 104 (by omega) (by omega))
  have u99_4 : ρ 99 4 = 104 := by rw [hρ 99 (by omega) (by omega)]; rfl
  have z105 : mj_upr M 105 (fun _ => 0) = M := cZ (by exact hM 105 (by omega) (by omega))
  have u99_5 : ρ 99 5 = 105 := by rw [hρ 99 (by omega) (by omega)]; rfl
  have z106 : mj_upr M 106 (fun _ => 0) = M := cZ (by exact hM 106 (by omega) (by omega))
  have u99_6 : ρ 99 6 = 106 := by rw [hρ 99 (by omega) (by omega)]; rfl
  have z107 : mj_upr M 107 (fun _ => 0) = M := cZ (by exact hM 107 (by omega) (by omega))
  have u99_7 : ρ 99 7 = 107 := by rw [hρ 99 (by omega) (by omega)]; rfl
  have g99_0 : ∀ L : List Nat, 0 ∈ L → cP ρ 99 L 99 0 = 100 := fun L h => by rw [cP_in h, hρ 99 (by omega) (by omega)]; rfl
  have f100 : ∀ (n s : Nat) (ρ : Nat → Nat → Nat) (M : mj_M) (d : Nat) (Q : Option mj_V → mj_G → mj_M → Prop), 100 < n → mj_Rn d 3 0 [.inr (.inl 100), .inl (-1), .inr (.inr 0), .inr (.inr 0)] [] (n, s, sgD, ρ) M Q = Q none (n, s, sgD, ρ) (q_fill M 100 40 (-1)) := fun n s ρ M d Q h => e_3 (by decide) (cT_100 h) (cI_100 h)
  have hF : cP ρ 99 [7, 6, 5, 4, 3, 2, 1, 0] = ρ := cP_all (fun j hj => by
    rw [hρ 99 (by omega) (by omega)]
    exact row_all (row := sg_r.getD 99 []) (L := [7, 6, 5, 4, 3, 2, 1, 0]) (by decide) j hj)
  unfold cM_99
  simp (disch := first | omega | decide) only [i_4_0, i_4_1, i_4_4, i_4_5, i_4_7, i_4_9, i_4_12, i_4_13, i_4_15, i_4_17, i_4_20, i_4_21, i_4_23, i_4_25, i_4_28, i_4_29, i_4_31, i_4_33, i_4_36, i_4_37, i_4_39, i_4_41, i_4_44, i_4_45, i_4_47, i_4_49, i_4_52, i_4_53, i_4_56, i_4_58, i_4_61, i_4_62, i_4_65, i_4_67, i_4_70, i_4_71, i_4_74, i_4_75, i_4_78, cA_100, cA_101, cA_102, cA_103, cA_104, cA_105, cA_106, cA_107, cT_100, cO_99, z100, cU u99_0, z101, cU u99_1, z102, cU u99_2, z103, cU u99_3, z104, cU u99_4, z105, cU u99_5, z106, cU u99_6, z107, cU u99_7, g99_0, f100, exists_eq_left', Option.some.injEq, exists_eq_left, ne_eq, List.length_nil, List.length_cons, Option.toList_some, Option.toList_none, List.cons_append, List.nil_append, mj_wt_nil, mj_wt_i, mj_wt_r, mj_wt_l, true_and, and_true, false_and, and_false, true_implies, false_implies, implies_true, not_true_eq_false, not_false_eq_true, and_self, Int.reduceEq, Nat.reduceEqDiff, ↓reduceIte, Int.reduceToNat, Nat.reduceAdd, Nat.reduceMul, List.append_nil, List.nil_append, implies_true, mj_w_id2, Int.toNat_natCast]
  try rw [hF]
  try grind
def cM_108 (M : mj_M) : mj_M := (mj_up M 108 13 (0))
theorem cM_108_o {b : Nat} (h : b < 108 ∨ 122 ≤ b) : cM_108 M b = M b := by
  unfold cM_108
  rw [mj_up_ne (by omega)]
theorem ct_108 (hρ : ∀ b, 108 ≤ b → b < 122 → ρ b = sgR b) (hM : ∀ b, 108 < b → b < 122 → M b = fun _ => 0) :
    mj_Rn d 5 0 [.inr (.inl 108)] [] (109, 15465, sgD, cP ρ 108 []) M Q = Q none (122, 16841, sgD, ρ) (cM_108 M) := by
  have z109 : mj_upr M 109 (fun _ => 0) = M := cZ (by exact hM 109 (by omega) (by omega))
  have u108_0 : ρ 108 0 = 109 := by rw [hρ 108 (by omega) (by omega)]; rfl
  have z110 : mj_upr M 110 (fun _ => 0) = M := cZ (by exact hM 110 (by omega) (by omega))
  have u108_1 : ρ 108 1 = 110 := by rw [hρ 108 (by omega) (by omega)]; rfl
  have z111 : mj_upr M 111 (fun _ => 0) = M := cZ (by exact hM 111 (by omega) (by omega))
  have u108_2 : ρ 108 2 = 111 := by rw [hρ 108 (by omega) (by omega)]; rfl
  have z112 : mj_upr M 112 (fun _ => 0) = M := cZ (by exact hM 112 (by omega) (by omega))
  have u108_3 : ρ 108 3 = 112 := by rw [hρ 108 (by omega) (by omega)]; rfl
  have z113 : mj_upr M 113 (fun _ => 0) = M := cZ (by exact hM 113 (by omega) (by omega))
  have u108_4 : ρ 108 4 = 113 := by rw [hρ 108 (by omega) (by omega)]; rfl
  have z114 : mj_upr M 114 (fun _ => 0) = M := cZ (by exact hM 114 (by omega) (by omega))
  have u108_5 : ρ 108 5 = 114 := by rw [hρ 108 (by omega) (by omega)]; rfl
  have z115 : mj_upr M 115 (fun _ => 0) = M := cZ (by exact hM 115 (by omega) (by omega))
  have u108_6 : ρ 108 6 = 115 := by rw [hρ 108 (by omega) (by omega)]; rfl
  have z116 : mj_upr M 116 (fun _ => 0) = M := cZ (by exact hM 116 (by omega) (by omega))
  have u108_7 : ρ 108 7 = 116 := by rw [hρ 108 (by omega) (by omega)]; rfl
  have z117 : mj_upr M 117 (fun _ => 0) = M := cZ (by exact hM 117 (by omega) (by omega))
  have u108_8 : ρ 108 8 = 117 := by rw [hρ 108 (by omega) (by omega)]; rfl
  have z118 : mj_upr M 118 (fun _ => 0) = M := cZ (by exact hM 118 (by omega) (by omega))
  have u108_9 : ρ 108 9 = 118 := by rw [hρ 108 (by omega) (by omega)]; rfl
  have z119 : mj_upr M 119 (fun _ => 0) = M := cZ (by exact hM 119 (by omega) (by omega))
  have u108_10 : ρ 108 10 = 119 := by rw [hρ 108 (by omega) (by omega)]; rfl
  have z120 : mj_upr M 120 (fun _ => 0) = M := cZ (by exact hM 120 (by omega) (by omega))
  have u108_11 : ρ 108 11 = 120 := by rw [hρ 108 (by omega) (by omega)]; rfl
  have z121 : mj_upr M 121 (fun _ => 0) = M := cZ (by exact hM 121 (by omega) (by omega))
  have u108_12 : ρ 108 12 = 121 := by rw [hρ 108 (by omega) (by omega)]; rfl
  have hF : cP ρ 108 [12, 11, 10, 9, 8, 7, 6, 5, 4, 3, 2, 1, 0] = ρ := cP_all (fun j hj => by
    rw [hρ 108 (by omega) (by omega)]
    exact row_all (row := sg_r.getD 108 []) (L := [12, 11, 10, 9, 8, 7, 6, 5, 4, 3, 2, 1, 0]) (by decide) j hj)
  unfold cM_108
  simp (disch := first | omega | decide) only [i_5_0, i_5_1, i_5_4, i_5_5, i_5_7, i_5_9, i_5_12, i_5_13, i_5_15, i_5_17, i_5_20, i_5_21, i_5_23, i_5_25, i_5_28, i_5_29, i_5_31, i_5_33, i_5_36, i_5_37, i_5_39, i_5_41, i_5_44, i_5_45, i_5_47, i_5_49, i_5_52, i_5_53, i_5_55, i_5_57, i_5_60, i_5_61, i_5_63, i_5_65, i_5_68, i_5_69, i_5_71, i_5_73, i_5_76, i_5_77, i_5_79, i_5_81, i_5_84, i_5_85, i_5_87, i_5_89, i_5_92, i_5_93, i_5_95, i_5_97, i_5_100, i_5_101, i_5_104, i_5_106, i_5_109, i_5_110, i_5_111, i_5_114, cA_109, cA_110, cA_111, cA_112, cA_113, cA_114, cA_115, cA_116, cA_117, cA_118, cA_119, cA_120, cA_121, cO_108, z109, cU u108_0, z110, cU u108_1, z111, cU u108_2, z112, cU u108_3, z113, cU u108_4, z114, cU u108_5, z115, cU u108_6, z116, cU u108_7, z117, cU u108_8, z118, cU u108_9, z119, cU u108_10, z120, cU u108_11, z121, cU u108_12, exists_eq_left', Option.some.injEq, exists_eq_left, ne_eq, List.length_nil, List.length_cons, Option.toList_some, Option.toList_none, List.cons_append, List.nil_append, mj_wt_nil, mj_wt_i, mj_wt_r, mj_wt_l, true_and, and_true, false_and, and_false, true_implies, false_implies, implies_true, not_true_eq_false, not_false_eq_true, and_self, Int.reduceEq, Nat.reduceEqDiff, ↓reduceIte, Int.reduceToNat, Nat.reduceAdd, Nat.reduceMul, List.append_nil, List.nil_append, implies_true, mj_w_id2, Int.toNat_natCast]
  try rw [hF]
  try grind
def cM_122 (M : mj_M) : mj_M := (mj_up M 122 5 (0))
theorem cM_122_o {b : Nat} (h : b < 122 ∨ 128 ≤ b) : cM_122 M b = M b := by
  unfold cM_122
  rw [mj_up_ne (by omega)]
theorem ct_122 (hρ : ∀ b, 122 ≤ b → b < 128 → ρ b = sgR b) (hM : ∀ b, 122 < b → b < 128 → M b = fun _ => 0) :
    mj_Rn d 6 0 [.inr (.inl 122)] [] (123, 16847, sgD, cP ρ 122 []) M Q = Q none (128, 16947, sgD, ρ) (cM_122 M) := by
  have z123 : mj_upr M 123 (fun _ => 0) = M := cZ (by exact hM 123 (by omega) (by omega))
  have u122_0 : ρ 122 0 = 123 := by rw [hρ 122 (by omega) (by omega)]; rfl
  have z124 : mj_upr M 124 (fun _ => 0) = M := cZ (by exact hM 124 (by omega) (by omega))
  have u122_1 : ρ 122 1 = 124 := by rw [hρ 122 (by omega) (by omega)]; rfl
  have z125 : mj_upr M 125 (fun _ => 0) = M := cZ (by exact hM 125 (by omega) (by omega))
  have u122_2 : ρ 122 2 = 125 := by rw [hρ 122 (by omega) (by omega)]; rfl
  have z126 : mj_upr M 126 (fun _ => 0) = M := cZ (by exact hM 126 (by omega) (by omega))
  have u122_3 : ρ 122 3 = 126 := by rw [hρ 122 (by omega) (by omega)]; rfl
  have z127 : mj_upr M 127 (fun _ => 0) = M := cZ (by exact hM 127 (by omega) (by omega))
  have u122_4 : ρ 122 4 = 127 := by rw [hρ 122 (by omega) (by omega)]; rfl
  have hF : cP ρ 122 [4, 3, 2, 1, 0] = ρ := cP_all (fun j hj => by
    rw [hρ 122 (by omega) (by omega)]
    exact row_all (row := sg_r.getD 122 []) (L := [4, 3, 2, 1, 0]) (by decide) j hj)
  unfold cM_122
  simp (disch := first | omega | decide) only [i_6_0, i_6_1, i_6_4, i_6_5, i_6_7, i_6_9, i_6_12, i_6_13, i_6_15, i_6_17, i_6_20, i_6_21, i_6_23, i_6_25, i_6_28, i_6_29, i_6_31, i_6_33, i_6_36, i_6_37, i_6_39, i_6_41, i_6_44, i_6_45, i_6_46, i_6_49, cA_123, cA_124, cA_125, cA_126, cA_127, cO_122, z123, cU u122_0, z124, cU u122_1, z125, cU u122_2, z126, cU u122_3, z127, cU u122_4, exists_eq_left', Option.some.injEq, exists_eq_left, ne_eq, List.length_nil, List.length_cons, Option.toList_some, Option.toList_none, List.cons_append, List.nil_append, mj_wt_nil, mj_wt_i, mj_wt_r, mj_wt_l, true_and, and_true, false_and, and_false, true_implies, false_implies, implies_true, not_true_eq_false, not_false_eq_true, and_self, Int.reduceEq, Nat.reduceEqDiff, ↓reduceIte, Int.reduceToNat, Nat.reduceAdd, Nat.reduceMul, List.append_nil, List.nil_append, implies_true, mj_w_id2, Int.toNat_natCast]
  try rw [hF]
  try grind
def cM_87 (M : mj_M) : mj_M := (q_fill (mj_up (mj_up (mj_up (mj_up (mj_up (mj_up (cM_122 (cM_108 (cM_99 (cM_88 M)))) 87 6 (0)) 87 7 (0)) 87 8 (0)) 87 9 (0)) 87 10 (-1)) 87 11 (0)) 128 400 (-1))
theorem cM_87_o {b : Nat} (h : b < 87 ∨ 130 ≤ b) : cM_87 M b = M b := by
  unfold cM_87
  rw [q_fill_ne (by omega), mj_up_ne (by omega), mj_up_ne (by omega), mj_up_ne (by omega), mj_up_ne (by omega), mj_up_ne (by omega), mj_up_ne (by omega), cM_122_o (by omega), cM_108_o (by omega), cM_99_o (by omega), cM_88_o (by omega)]
theorem ct_87 (hρ : ∀ b, 87 ≤ b → b < 130 → ρ b = sgR b) (hM : ∀ b, 87 < b → b < 130 → M b = fun _ => 0) :
    mj_Rn (d + 2) 1 0 [.inr (.inl 87)] [] (88, 11593, sgD, cP ρ 87 []) M Q = Q none (130, 17363, sgD, ρ) (cM_87 M) := by
  have z88 : mj_upr M 88 (fun _ => 0) = M := cZ (by exact hM 88 (by omega) (by omega))
  have t88 := fun (d : Nat) (Q : Option mj_V → mj_G → mj_M → Prop) => ct_88 (d := d) (Q := Q) (ρ := cP ρ 87 []) (M := M) (fun c h1 h2 => by rw [cP_ne (by omega)]; exact hρ c (by omega) (by omega)) (fun c h1 h2 => by exact hM c (by omega) (by omega))
  have u87_0 : ρ 87 0 = 88 := by rw [hρ 87 (by omega) (by omega)]; rfl
  have z99 : mj_upr (cM_88 M) 99 (fun _ => 0) = (cM_88 M) := cZ (by rw [cM_88_o (by omega)]; exact hM 99 (by omega) (by omega))
  have t99 := fun (d : Nat) (Q : Option mj_V → mj_G → mj_M → Prop) => ct_99 (d := d) (Q := Q) (ρ := cP ρ 87 [0]) (M := (cM_88 M)) (fun c h1 h2 => by rw [cP_ne (by omega)]; exact hρ c (by omega) (by omega)) (fun c h1 h2 => by rw [cM_88_o (by omega)]; exact hM c (by omega) (by omega))
  have u87_1 : ρ 87 1 = 99 := by rw [hρ 87 (by omega) (by omega)]; rfl
  have z108 : mj_upr (cM_99 (cM_88 M)) 108 (fun _ => 0) = (cM_99 (cM_88 M)) := cZ (by rw [cM_99_o (by omega), cM_88_o (by omega)]; exact hM 108 (by omega) (by omega))
  have t108 := fun (d : Nat) (Q : Option mj_V → mj_G → mj_M → Prop) => ct_108 (d := d) (Q := Q) (ρ := cP ρ 87 [1, 0]) (M := (cM_99 (cM_88 M))) (fun c h1 h2 => by rw [cP_ne (by omega)]; exact hρ c (by omega) (by omega)) (fun c h1 h2 => by rw [cM_99_o (by omega), cM_88_o (by omega)]; exact hM c (by omega) (by omega))
  have u87_2 : ρ 87 2 = 108 := by rw [hρ 87 (by omega) (by omega)]; rfl
  have z122 : mj_upr (cM_108 (cM_99 (cM_88 M))) 122 (fun _ => 0) = (cM_108 (cM_99 (cM_88 M))) := cZ (by rw [cM_108_o (by omega), cM_99_o (by omega), cM_88_o (by omega)]; exact hM 122 (by omega) (by omega))
  have t122 := fun (d : Nat) (Q : Option mj_V → mj_G → mj_M → Prop) => ct_122 (d := d) (Q := Q) (ρ := cP ρ 87 [2, 1, 0]) (M := (cM_108 (cM_99 (cM_88 M)))) (fun c h1 h2 => by rw [cP_ne (by omega)]; exact hρ c (by omega) (by omega)) (fun c h1 h2 => by rw [cM_108_o (by omega), cM_99_o (by omega), cM_88_o (by omega)]; exact hM c (by omega) (by omega))
  have u87_3 : ρ 87 3 = 122 := by rw [hρ 87 (by omega) (by omega)]; rfl
  have z128 : mj_upr (cM_122 (cM_108 (cM_99 (cM_88 M)))) 128 (fun _ => 0) = (cM_122 (cM_108 (cM_99 (cM_88 M)))) := cZ (by rw [cM_122_o (by omega), cM_108_o (by omega), cM_99_o (by omega), cM_88_o (by omega)]; exact hM 128 (by omega) (by omega))
  have u87_4 : ρ 87 4 = 128 := by rw [hρ 87 (by omega) (by omega)]; rfl
  have z129 : mj_upr (cM_122 (cM_108 (cM_99 (cM_88 M)))) 129 (fun _ => 0) = (cM_122 (cM_108 (cM_99 (cM_88 M)))) := cZ (by rw [cM_122_o (by omega), cM_108_o (by omega), cM_99_o (by omega), cM_88_o (by omega)]; exact hM 129 (by omega) (by omega))
  have u87_5 : ρ 87 5 = 129 := by rw [hρ 87 (by omega) (by omega)]; rfl
  have g87_4 : ∀ L : List Nat, 4 ∈ L → cP ρ 87 L 87 4 = 128 := fun L h => by rw [cP_in h, hρ 87 (by omega) (by omega)]; rfl
  have f128 : ∀ (n s : Nat) (ρ : Nat → Nat → Nat) (M : mj_M) (d : Nat) (Q : Option mj_V → mj_G → mj_M → Prop), 128 < n → mj_Rn d 3 0 [.inr (.inl 128), .inl (-1), .inr (.inr 0), .inr (.inr 0)] [] (n, s, sgD, ρ) M Q = Q none (n, s, sgD, ρ) (q_fill M 128 400 (-1)) := fun n s ρ M d Q h => e_3 (by decide) (cT_128 h) (cI_128 h)
  have hF : cP ρ 87 [5, 4, 3, 2, 1, 0] = ρ := cP_all (fun j hj => by
    rw [hρ 87 (by omega) (by omega)]
    exact row_all (row := sg_r.getD 87 []) (L := [5, 4, 3, 2, 1, 0]) (by decide) j hj)
  unfold cM_87
  simp (disch := first | omega | decide) only [i_1_0, i_1_1, i_1_4, i_1_5, i_1_8, i_1_9, i_1_12, i_1_15, i_1_16, i_1_19, i_1_20, i_1_23, i_1_26, i_1_27, i_1_30, i_1_31, i_1_34, i_1_37, i_1_38, i_1_41, i_1_42, i_1_45, i_1_48, i_1_49, i_1_52, i_1_54, i_1_57, i_1_58, i_1_60, i_1_62, i_1_65, i_1_66, i_1_67, i_1_70, i_1_71, i_1_72, i_1_75, i_1_76, i_1_77, i_1_80, i_1_81, i_1_82, i_1_85, i_1_86, i_1_87, i_1_90, i_1_91, i_1_92, i_1_95, i_1_96, i_1_99, i_1_100, i_1_103, cA_128, cA_129, cN_108, cN_122, cN_88, cN_99, cT_128, cO_87, cO_88, cO_99, cO_108, cO_122, z88, t88, cU u87_0, z99, t99, cU u87_1, z108, t108, cU u87_2, z122, t122, cU u87_3, z128, cU u87_4, z129, cU u87_5, g87_4, f128, exists_eq_left', Option.some.injEq, exists_eq_left, ne_eq, List.length_nil, List.length_cons, Option.toList_some, Option.toList_none, List.cons_append, List.nil_append, mj_wt_nil, mj_wt_i, mj_wt_r, mj_wt_l, true_and, and_true, false_and, and_false, true_implies, false_implies, implies_true, not_true_eq_false, not_false_eq_true, and_self, Int.reduceEq, Nat.reduceEqDiff, ↓reduceIte, Int.reduceToNat, Nat.reduceAdd, Nat.reduceMul, List.append_nil, List.nil_append, implies_true, mj_w_id2, Int.toNat_natCast]
  try rw [hF]
  try grind
def cM_130 (M : mj_M) : mj_M := (mj_up M 130 2 (0))
theorem cM_130_o {b : Nat} (h : b < 130 ∨ 132 ≤ b) : cM_130 M b = M b := by
  unfold cM_130
  rw [mj_up_ne (by omega)]
theorem ct_130 (hρ : ∀ b, 130 ≤ b → b < 132 → ρ b = sgR b) (hM : ∀ b, 130 < b → b < 132 → M b = fun _ => 0) :
    mj_Rn d 7 0 [.inr (.inl 130), .inr (.inl 1)] [] (131, 17366, sgD, cP ρ 130 []) M Q = Q none (132, 17486, sgD, ρ) (cM_130 M) := by
  have z131 : mj_upr M 131 (fun _ => 0) = M := cZ (by exact hM 131 (by omega) (by omega))
  have u130_1 : ρ 130 1 = 131 := by rw [hρ 130 (by omega) (by omega)]; rfl
  have u130_0 : ρ 130 0 = 1 := by rw [hρ 130 (by omega) (by omega)]; rfl
  have hF : cP ρ 130 [0, 1] = ρ := cP_all (fun j hj => by
    rw [hρ 130 (by omega) (by omega)]
    exact row_all (row := sg_r.getD 130 []) (L := [0, 1]) (by decide) j hj)
  unfold cM_130
  simp (disch := first | omega | decide) only [i_7_0, i_7_1, i_7_4, i_7_5, i_7_7, i_7_9, i_7_12, i_7_13, i_7_14, i_7_17, i_7_18, i_7_19, i_7_22, cA_131, cO_130, z131, cU u130_1, cU u130_0, exists_eq_left', Option.some.injEq, exists_eq_left, ne_eq, List.length_nil, List.length_cons, Option.toList_some, Option.toList_none, List.cons_append, List.nil_append, mj_wt_nil, mj_wt_i, mj_wt_r, mj_wt_l, true_and, and_true, false_and, and_false, true_implies, false_implies, implies_true, not_true_eq_false, not_false_eq_true, and_self, Int.reduceEq, Nat.reduceEqDiff, ↓reduceIte, Int.reduceToNat, Nat.reduceAdd, Nat.reduceMul, List.append_nil, List.nil_append, implies_true, mj_w_id2, Int.toNat_natCast]
  try rw [hF]
  try grind
def cM_132 (M : mj_M) : mj_M := (mj_up M 132 2 (0))
theorem cM_132_o {b : Nat} (h : b < 132 ∨ 133 ≤ b) : cM_132 M b = M b := by
  unfold cM_132
  rw [mj_up_ne (by omega)]
theorem ct_132 (hρ : ∀ b, 132 ≤ b → b < 133 → ρ b = sgR b) (hM : ∀ b, 132 < b → b < 133 → M b = fun _ => 0) :
    mj_Rn d 8 0 [.inr (.inl 132), .inr (.inl 1), .inr (.inl 130)] [] (133, 17489, sgD, cP ρ 132 []) M Q = Q none (133, 17489, sgD, ρ) (cM_132 M) := by
  have u132_0 : ρ 132 0 = 1 := by rw [hρ 132 (by omega) (by omega)]; rfl
  have u132_1 : ρ 132 1 = 130 := by rw [hρ 132 (by omega) (by omega)]; rfl
  have hF : cP ρ 132 [1, 0] = ρ := cP_all (fun j hj => by
    rw [hρ 132 (by omega) (by omega)]
    exact row_all (row := sg_r.getD 132 []) (L := [1, 0]) (by decide) j hj)
  unfold cM_132
  simp (disch := first | omega | decide) only [i_8_0, i_8_1, i_8_4, i_8_5, i_8_6, i_8_9, i_8_10, i_8_11, i_8_14, i_8_15, i_8_16, i_8_19, cO_132, cU u132_0, cU u132_1, exists_eq_left', Option.some.injEq, exists_eq_left, ne_eq, List.length_nil, List.length_cons, Option.toList_some, Option.toList_none, List.cons_append, List.nil_append, mj_wt_nil, mj_wt_i, mj_wt_r, mj_wt_l, true_and, and_true, false_and, and_false, true_implies, false_implies, implies_true, not_true_eq_false, not_false_eq_true, and_self, Int.reduceEq, Nat.reduceEqDiff, ↓reduceIte, Int.reduceToNat, Nat.reduceAdd, Nat.reduceMul, List.append_nil, List.nil_append, implies_true, mj_w_id2, Int.toNat_natCast]
  try rw [hF]
  try grind
def cM_133 (M : mj_M) : mj_M := M
theorem cM_133_o {b : Nat} (h : b < 133 ∨ 134 ≤ b) : cM_133 M b = M b := by
  unfold cM_133
  rfl
theorem ct_133 (hρ : ∀ b, 133 ≤ b → b < 134 → ρ b = sgR b) (hx1 : ρ 1 = sgR 1) (hM : ∀ b, 133 < b → b < 134 → M b = fun _ => 0) :
    mj_Rn d 9 0 [.inr (.inl 133), .inr (.inl 1), .inr (.inl 130), .inr (.inl 132)] [] (134, 17493, sgD, cP ρ 133 []) M Q = Q none (134, 17493, sgD, ρ) (cM_133 M) := by
  have u133_0 : ρ 133 0 = 1 := by rw [hρ 133 (by omega) (by omega)]; rfl
  have g1_2 : ∀ L : List Nat, cP ρ 133 L 1 2 = 22 := fun L => by rw [cP_ne (by omega), hx1]; rfl
  have u133_1 : ρ 133 1 = 22 := by rw [hρ 133 (by omega) (by omega)]; rfl
  have u133_2 : ρ 133 2 = 130 := by rw [hρ 133 (by omega) (by omega)]; rfl
  have u133_3 : ρ 133 3 = 132 := by rw [hρ 133 (by omega) (by omega)]; rfl
  have hF : cP ρ 133 [3, 2, 1, 0] = ρ := cP_all (fun j hj => by
    rw [hρ 133 (by omega) (by omega)]
    exact row_all (row := sg_r.getD 133 []) (L := [3, 2, 1, 0]) (by decide) j hj)
  unfold cM_133
  simp (disch := first | omega | decide) only [i_9_0, i_9_1, i_9_4, i_9_5, i_9_6, i_9_9, i_9_10, i_9_11, i_9_14, i_9_17, i_9_18, i_9_19, i_9_22, i_9_23, i_9_24, i_9_27, cO_1, cO_133, cU u133_0, g1_2, cU u133_1, cU u133_2, cU u133_3, exists_eq_left', Option.some.injEq, exists_eq_left, ne_eq, List.length_nil, List.length_cons, Option.toList_some, Option.toList_none, List.cons_append, List.nil_append, mj_wt_nil, mj_wt_i, mj_wt_r, mj_wt_l, true_and, and_true, false_and, and_false, true_implies, false_implies, implies_true, not_true_eq_false, not_false_eq_true, and_self, Int.reduceEq, Nat.reduceEqDiff, ↓reduceIte, Int.reduceToNat, Nat.reduceAdd, Nat.reduceMul, List.append_nil, List.nil_append, implies_true, mj_w_id2, Int.toNat_natCast]
  try rw [hF]
  try grind
def cM_134 (M : mj_M) : mj_M := M
theorem cM_134_o {b : Nat} (h : b < 134 ∨ 152 ≤ b) : cM_134 M b = M b := by
  unfold cM_134
  rfl
theorem ct_134 (hρ : ∀ b, 134 ≤ b → b < 152 → ρ b = sgR b) (hM : ∀ b, 134 < b → b < 152 → M b = fun _ => 0) :
    mj_Rn d 10 0 [.inr (.inl 134), .inr (.inl 1), .inr (.inl 87), .inr (.inl 133)] [] (135, 17497, sgD, cP ρ 134 []) M Q = Q none (152, 20393, sgD, ρ) (cM_134 M) := by
  have zm135 : ∀ (s : Nat) (ρ : Nat → Nat → Nat), mj_newMM (135, s, sgD, ρ) 16 M = M := fun s ρ => cZ2 (fun b h1 h2 => by exact hM b (by omega) (by omega))
  have zr135 : ∀ (s : Nat) (L : List Nat), mj_newM (135, s, sgD, cP ρ 134 L) 16 180 = (152, s + 16 + 2880, sgD, cP ρ 134 L) := fun s L => cA2 rfl (fun a h1 h2 => by
    have h3 : a - 136 < 16 := by omega
    obtain ⟨c, hc⟩ : ∃ c, a = 136 + c := ⟨a - 136, by omega⟩
    subst hc
    have h4 : ∀ c, c < 16 → sgD (136 + c) = .inr (.int, 180) := by decide
    exact h4 c (by omega)) (fun j => by rw [cP_ne (by omega), hρ 135 (by omega) (by omega)]; rfl)
  have u134_3 : ρ 134 3 = 135 := by rw [hρ 134 (by omega) (by omega)]; rfl
  have u134_0 : ρ 134 0 = 1 := by rw [hρ 134 (by omega) (by omega)]; rfl
  have u134_1 : ρ 134 1 = 87 := by rw [hρ 134 (by omega) (by omega)]; rfl
  have u134_2 : ρ 134 2 = 133 := by rw [hρ 134 (by omega) (by omega)]; rfl
  have hF : cP ρ 134 [2, 1, 0, 3] = ρ := cP_all (fun j hj => by
    rw [hρ 134 (by omega) (by omega)]
    exact row_all (row := sg_r.getD 134 []) (L := [2, 1, 0, 3]) (by decide) j hj)
  unfold cM_134
  simp (disch := first | omega | decide) only [i_10_0, i_10_1, i_10_4, i_10_5, i_10_7, i_10_10, i_10_14, i_10_17, i_10_18, i_10_19, i_10_22, i_10_23, i_10_24, i_10_27, i_10_28, i_10_29, i_10_32, cO_134, zm135, zr135, cU u134_3, cU u134_0, cU u134_1, cU u134_2, exists_eq_left', Option.some.injEq, exists_eq_left, ne_eq, List.length_nil, List.length_cons, Option.toList_some, Option.toList_none, List.cons_append, List.nil_append, mj_wt_nil, mj_wt_i, mj_wt_r, mj_wt_l, true_and, and_true, false_and, and_false, true_implies, false_implies, implies_true, not_true_eq_false, not_false_eq_true, and_self, Int.reduceEq, Nat.reduceEqDiff, ↓reduceIte, Int.reduceToNat, Nat.reduceAdd, Nat.reduceMul, List.append_nil, List.nil_append, implies_true, mj_w_id2, Int.toNat_natCast]
  try rw [hF]
  try grind
def cM_152 (M : mj_M) : mj_M := M
theorem cM_152_o {b : Nat} (h : b < 152 ∨ 157 ≤ b) : cM_152 M b = M b := by
  unfold cM_152
  rfl
theorem ct_152 (hρ : ∀ b, 152 ≤ b → b < 157 → ρ b = sgR b) (hM : ∀ b, 152 < b → b < 157 → M b = fun _ => 0) :
    mj_Rn d 11 0 [.inr (.inl 152), .inr (.inl 1)] [] (153, 20398, sgD, cP ρ 152 []) M Q = Q none (157, 23678, sgD, ρ) (cM_152 M) := by
  have z153 : mj_upr M 153 (fun _ => 0) = M := cZ (by exact hM 153 (by omega) (by omega))
  have u152_1 : ρ 152 1 = 153 := by rw [hρ 152 (by omega) (by omega)]; rfl
  have z154 : mj_upr M 154 (fun _ => 0) = M := cZ (by exact hM 154 (by omega) (by omega))
  have u152_2 : ρ 152 2 = 154 := by rw [hρ 152 (by omega) (by omega)]; rfl
  have z155 : mj_upr M 155 (fun _ => 0) = M := cZ (by exact hM 155 (by omega) (by omega))
  have u152_3 : ρ 152 3 = 155 := by rw [hρ 152 (by omega) (by omega)]; rfl
  have z156 : mj_upr M 156 (fun _ => 0) = M := cZ (by exact hM 156 (by omega) (by omega))
  have u152_4 : ρ 152 4 = 156 := by rw [hρ 152 (by omega) (by omega)]; rfl
  have u152_0 : ρ 152 0 = 1 := by rw [hρ 152 (by omega) (by omega)]; rfl
  have hF : cP ρ 152 [0, 4, 3, 2, 1] = ρ := cP_all (fun j hj => by
    rw [hρ 152 (by omega) (by omega)]
    exact row_all (row := sg_r.getD 152 []) (L := [0, 4, 3, 2, 1]) (by decide) j hj)
  unfold cM_152
  simp (disch := first | omega | decide) only [i_11_0, i_11_1, i_11_4, i_11_5, i_11_8, i_11_10, i_11_13, i_11_14, i_11_17, i_11_19, i_11_22, i_11_23, i_11_25, i_11_27, i_11_30, i_11_31, i_11_33, i_11_35, i_11_38, i_11_39, i_11_40, i_11_43, cA_153, cA_154, cA_155, cA_156, cO_152, z153, cU u152_1, z154, cU u152_2, z155, cU u152_3, z156, cU u152_4, cU u152_0, exists_eq_left', Option.some.injEq, exists_eq_left, ne_eq, List.length_nil, List.length_cons, Option.toList_some, Option.toList_none, List.cons_append, List.nil_append, mj_wt_nil, mj_wt_i, mj_wt_r, mj_wt_l, true_and, and_true, false_and, and_false, true_implies, false_implies, implies_true, not_true_eq_false, not_false_eq_true, and_self, Int.reduceEq, Nat.reduceEqDiff, ↓reduceIte, Int.reduceToNat, Nat.reduceAdd, Nat.reduceMul, List.append_nil, List.nil_append, implies_true, mj_w_id2, Int.toNat_natCast]
  try rw [hF]
  try grind
def cM_157 (M : mj_M) : mj_M := (mj_up (mj_up (mj_up (mj_up M 157 6 (0)) 157 7 (0)) 157 8 (0)) 157 9 (0))
theorem cM_157_o {b : Nat} (h : b < 157 ∨ 163 ≤ b) : cM_157 M b = M b := by
  unfold cM_157
  rw [mj_up_ne (by omega), mj_up_ne (by omega), mj_up_ne (by omega), mj_up_ne (by omega)]
theorem ct_157 (hρ : ∀ b, 157 ≤ b → b < 163 → ρ b = sgR b) (hM : ∀ b, 157 < b → b < 163 → M b = fun _ => 0) :
    mj_Rn d 12 0 [.inr (.inl 157), .inr (.inl 1)] [] (158, 23688, sgD, cP ρ 157 []) M Q = Q none (163, 24328, sgD, ρ) (cM_157 M) := by
  have z158 : mj_upr M 158 (fun _ => 0) = M := cZ (by exact hM 158 (by omega) (by omega))
  have u157_1 : ρ 157 1 = 158 := by rw [hρ 157 (by omega) (by omega)]; rfl
  have z159 : mj_upr M 159 (fun _ => 0) = M := cZ (by exact hM 159 (by omega) (by omega))
  have u157_2 : ρ 157 2 = 159 := by rw [hρ 157 (by omega) (by omega)]; rfl
  have z160 : mj_upr M 160 (fun _ => 0) = M := cZ (by exact hM 160 (by omega) (by omega))
  have u157_3 : ρ 157 3 = 160 := by rw [hρ 157 (by omega) (by omega)]; rfl
  have z161 : mj_upr M 161 (fun _ => 0) = M := cZ (by exact hM 161 (by omega) (by omega))
  have u157_4 : ρ 157 4 = 161 := by rw [hρ 157 (by omega) (by omega)]; rfl
  have z162 : mj_upr M 162 (fun _ => 0) = M := cZ (by exact hM 162 (by omega) (by omega))
  have u157_5 : ρ 157 5 = 162 := by rw [hρ 157 (by omega) (by omega)]; rfl
  have u157_0 : ρ 157 0 = 1 := by rw [hρ 157 (by omega) (by omega)]; rfl
  have hF : cP ρ 157 [0, 5, 4, 3, 2, 1] = ρ := cP_all (fun j hj => by
    rw [hρ 157 (by omega) (by omega)]
    show (if 157 = 157 ∧ j = 5 then 162 else if 157 = 135 then 136 + j else if 157 = 163 then 164 + j else (sg_r.getD 157 []).getD j 9999) = 9999
    have j5 : ¬ j = 5 := fun q => hj (by rw [q]; decide)
    rw [if_neg (fun q => j5 q.2), if_neg (by omega), if_neg (by omega)]
    exact row_all (L := [0, 5, 4, 3, 2, 1]) (by decide) j hj)
  unfold cM_157
  simp (disch := first | omega | decide) only [i_12_0, i_12_1, i_12_4, i_12_5, i_12_8, i_12_10, i_12_13, i_12_14, i_12_17, i_12_19, i_12_22, i_12_23, i_12_26, i_12_28, i_12_31, i_12_32, i_12_35, i_12_37, i_12_40, i_12_41, i_12_42, i_12_44, i_12_47, i_12_48, i_12_49, i_12_52, i_12_53, i_12_54, i_12_57, i_12_58, i_12_59, i_12_62, i_12_63, i_12_64, i_12_67, i_12_68, i_12_69, i_12_72, cA_158, cA_159, cA_160, cA_161, cA_162, cO_157, z158, cU u157_1, z159, cU u157_2, z160, cU u157_3, z161, cU u157_4, z162, cU u157_5, cU u157_0, exists_eq_left', Option.some.injEq, exists_eq_left, ne_eq, List.length_nil, List.length_cons, Option.toList_some, Option.toList_none, List.cons_append, List.nil_append, mj_wt_nil, mj_wt_i, mj_wt_r, mj_wt_l, true_and, and_true, false_and, and_false, true_implies, false_implies, implies_true, not_true_eq_false, not_false_eq_true, and_self, Int.reduceEq, Nat.reduceEqDiff, ↓reduceIte, Int.reduceToNat, Nat.reduceAdd, Nat.reduceMul, List.append_nil, List.nil_append, implies_true, mj_w_id2, Int.toNat_natCast]
  try rw [hF]
  try grind
def cB1 (M : mj_M) : mj_M := (mj_up (mj_up (mj_up (mj_up (mj_up (mj_up M 14 0 (1)) 15 0 (-1)) 16 0 (0)) 17 0 (0)) 18 0 (0)) 19 0 (0))
def cB2 (M : mj_M) : mj_M := (mj_up (mj_up (mj_up (mj_up (mj_up (mj_up (mj_up (mj_up (mj_up (mj_up (mj_up M 3 0 (0)) 4 0 (-1)) 5 0 (31)) 6 0 (0)) 7 0 (-1)) 8 0 (0)) 9 0 (0)) 10 0 (-1)) 11 0 (-1)) 12 0 (0)) 42 0 (0))
def cB (M : mj_M) : mj_M := mj_up (cB2 (cB1 M)) 6 0 960
theorem cB_o {b : Nat} (h : b < 3 ∨ b = 13 ∨ (19 < b ∧ b < 42) ∨ 42 < b) : cB M b = M b := by
  unfold cB cB2 cB1
  rw [mj_up_ne (by omega), mj_up_ne (by omega), mj_up_ne (by omega), mj_up_ne (by omega), mj_up_ne (by omega), mj_up_ne (by omega), mj_up_ne (by omega), mj_up_ne (by omega), mj_up_ne (by omega), mj_up_ne (by omega), mj_up_ne (by omega), mj_up_ne (by omega), mj_up_ne (by omega), mj_up_ne (by omega), mj_up_ne (by omega), mj_up_ne (by omega), mj_up_ne (by omega), mj_up_ne (by omega)]
theorem cb_14 (h1 : ρ 1 = sgR 1) (h2 : ρ 2 = sgR 2) (h13 : ρ 13 = sgR 13) : mj_Rn d 14 0 [.inr (.inl 13), .inl 0, .inl 1, .inl (-1)] [] (172, s, sgD, ρ) M Q = Q none (172, s, sgD, ρ) (cB1 M) := by
  have r13_0 : ρ 13 0 = 14 := by rw [h13]; rfl
  have r13_1 : ρ 13 1 = 15 := by rw [h13]; rfl
  have r13_2 : ρ 13 2 = 16 := by rw [h13]; rfl
  have r13_3 : ρ 13 3 = 17 := by rw [h13]; rfl
  have r13_4 : ρ 13 4 = 18 := by rw [h13]; rfl
  have r13_5 : ρ 13 5 = 19 := by rw [h13]; rfl
  have r13_6 : ρ 13 6 = 20 := by rw [h13]; rfl
  have r13_7 : ρ 13 7 = 21 := by rw [h13]; rfl
  unfold cB1
  simp (disch := first | omega | decide) only [i_14_0, i_14_1, i_14_4, i_14_5, i_14_6, i_14_7, i_14_8, i_14_11, i_14_12, i_14_13, i_14_14, i_14_15, i_14_18, i_14_19, i_14_20, i_14_21, i_14_22, i_14_25, i_14_26, i_14_27, i_14_28, i_14_29, i_14_32, i_14_33, i_14_34, i_14_35, i_14_36, i_14_39, i_14_40, i_14_41, i_14_42, cO_13, cT_10, cT_11, cT_12, cT_14, cT_15, cT_16, cT_17, cT_18, cT_19, cT_3, cT_4, cT_42, cT_5, cT_6, cT_7, cT_8, cT_9, cI_10, cI_11, cI_12, cI_14, cI_15, cI_16, cI_17, cI_18, cI_19, cI_3, cI_4, cI_42, cI_5, cI_6, cI_7, cI_8, cI_9, r13_0, r13_1, r13_2, r13_3, r13_4, r13_5, r13_6, r13_7, exists_eq_left', Option.some.injEq, exists_eq_left, ne_eq, List.length_nil, List.length_cons, Option.toList_some, Option.toList_none, List.cons_append, List.nil_append, mj_wt_nil, mj_wt_i, mj_wt_r, mj_wt_l, true_and, and_true, false_and, and_false, true_implies, false_implies, implies_true, not_true_eq_false, not_false_eq_true, and_self, Int.reduceEq, Nat.reduceEqDiff, ↓reduceIte, Int.reduceToNat, Nat.reduceAdd, Nat.reduceMul, List.append_nil, List.nil_append, implies_true, mj_w_id2, Int.toNat_natCast, Int.reduceEq, Nat.reduceEqDiff, Int.reduceLT, Int.reduceLE, Int.reduceNeg, Int.reduceMul, Int.reduceAdd, not_true_eq_false, not_false_eq_true, false_implies, true_implies, true_and, and_true, Int.le_refl]
  try grind
theorem cb_16 (h1 : ρ 1 = sgR 1) (h2 : ρ 2 = sgR 2) (h13 : ρ 13 = sgR 13) (h3 : M 3 0 = -1) : mj_Rn d 16 0 [.inr (.inl 2), .inr (.inr 0)] [] (172, s, sgD, ρ) M Q = Q (some (.inl 0)) (172, s, sgD, ρ) M := by
  have r2_0 : ρ 2 0 = 3 := by rw [h2]; rfl
  have r2_1 : ρ 2 1 = 4 := by rw [h2]; rfl
  have r2_2 : ρ 2 2 = 5 := by rw [h2]; rfl
  have r2_3 : ρ 2 3 = 6 := by rw [h2]; rfl
  have r2_4 : ρ 2 4 = 7 := by rw [h2]; rfl
  have r2_5 : ρ 2 5 = 8 := by rw [h2]; rfl
  have r2_6 : ρ 2 6 = 9 := by rw [h2]; rfl
  have r2_7 : ρ 2 7 = 10 := by rw [h2]; rfl
  have r2_8 : ρ 2 8 = 11 := by rw [h2]; rfl
  have r2_9 : ρ 2 9 = 12 := by rw [h2]; rfl
  rw [i_16_0, i_16_1, i_16_2]
  simp (disch := first | omega | decide) only [i_16_3, i_16_5, i_16_8, i_16_9, i_16_12, i_16_13, i_16_14, i_16_15, i_16_18, i_16_19, i_16_20, i_16_23, i_16_26, i_16_27, cO_2, h3, cT_10, cT_11, cT_12, cT_14, cT_15, cT_16, cT_17, cT_18, cT_19, cT_3, cT_4, cT_42, cT_5, cT_6, cT_7, cT_8, cT_9, cI_10, cI_11, cI_12, cI_14, cI_15, cI_16, cI_17, cI_18, cI_19, cI_3, cI_4, cI_42, cI_5, cI_6, cI_7, cI_8, cI_9, r2_0, r2_1, r2_2, r2_3, r2_4, r2_5, r2_6, r2_7, r2_8, r2_9, exists_eq_left', Option.some.injEq, exists_eq_left, ne_eq, List.length_nil, List.length_cons, Option.toList_some, Option.toList_none, List.cons_append, List.nil_append, mj_wt_nil, mj_wt_i, mj_wt_r, mj_wt_l, true_and, and_true, false_and, and_false, true_implies, false_implies, implies_true, not_true_eq_false, not_false_eq_true, and_self, Int.reduceEq, Nat.reduceEqDiff, ↓reduceIte, Int.reduceToNat, Nat.reduceAdd, Nat.reduceMul, List.append_nil, List.nil_append, implies_true, mj_w_id2, Int.toNat_natCast, Int.reduceEq, Nat.reduceEqDiff, Int.reduceLT, Int.reduceLE, Int.reduceNeg, Int.reduceMul, Int.reduceAdd, not_true_eq_false, not_false_eq_true, false_implies, true_implies, true_and, and_true, Int.le_refl]
  try grind
theorem cb_17 (h1 : ρ 1 = sgR 1) (h2 : ρ 2 = sgR 2) (h13 : ρ 13 = sgR 13) (h14 : M 14 0 = 1) : mj_Rn d 17 0 [.inr (.inl 1), .inl 0, .inl 0] [] (172, s, sgD, ρ) M Q = Q (some (.inl 0)) (172, s, sgD, ρ) M := by
  have r1_0 : ρ 1 0 = 2 := by rw [h1]; rfl
  have r1_1 : ρ 1 1 = 13 := by rw [h1]; rfl
  have r1_2 : ρ 1 2 = 22 := by rw [h1]; rfl
  have r1_3 : ρ 1 3 = 36 := by rw [h1]; rfl
  have r1_4 : ρ 1 4 = 42 := by rw [h1]; rfl
  have r1_5 : ρ 1 5 = 43 := by rw [h1]; rfl
  have r13_0 : ρ 13 0 = 14 := by rw [h13]; rfl
  have r13_1 : ρ 13 1 = 15 := by rw [h13]; rfl
  have r13_2 : ρ 13 2 = 16 := by rw [h13]; rfl
  have r13_3 : ρ 13 3 = 17 := by rw [h13]; rfl
  have r13_4 : ρ 13 4 = 18 := by rw [h13]; rfl
  have r13_5 : ρ 13 5 = 19 := by rw [h13]; rfl
  have r13_6 : ρ 13 6 = 20 := by rw [h13]; rfl
  have r13_7 : ρ 13 7 = 21 := by rw [h13]; rfl
  simp (disch := first | omega | decide) only [i_17_0, i_17_1, i_17_4, i_17_5, i_17_7, i_17_10, i_17_11, i_17_14, i_17_17, i_17_18, i_17_19, i_17_20, i_17_23, i_17_24, i_17_27, i_17_28, i_17_30, i_17_33, i_17_34, i_17_35, i_17_36, i_17_38, i_17_39, i_17_40, i_17_41, cO_1, cO_13, h14, cT_10, cT_11, cT_12, cT_14, cT_15, cT_16, cT_17, cT_18, cT_19, cT_3, cT_4, cT_42, cT_5, cT_6, cT_7, cT_8, cT_9, cI_10, cI_11, cI_12, cI_14, cI_15, cI_16, cI_17, cI_18, cI_19, cI_3, cI_4, cI_42, cI_5, cI_6, cI_7, cI_8, cI_9, r1_0, r1_1, r1_2, r1_3, r1_4, r1_5, r13_0, r13_1, r13_2, r13_3, r13_4, r13_5, r13_6, r13_7, exists_eq_left', Option.some.injEq, exists_eq_left, ne_eq, List.length_nil, List.length_cons, Option.toList_some, Option.toList_none, List.cons_append, List.nil_append, mj_wt_nil, mj_wt_i, mj_wt_r, mj_wt_l, true_and, and_true, false_and, and_false, true_implies, false_implies, implies_true, not_true_eq_false, not_false_eq_true, and_self, Int.reduceEq, Nat.reduceEqDiff, ↓reduceIte, Int.reduceToNat, Nat.reduceAdd, Nat.reduceMul, List.append_nil, List.nil_append, implies_true, mj_w_id2, Int.toNat_natCast, Int.reduceEq, Nat.reduceEqDiff, Int.reduceLT, Int.reduceLE, Int.reduceNeg, Int.reduceMul, Int.reduceAdd, not_true_eq_false, not_false_eq_true, false_implies, true_implies, true_and, and_true, Int.le_refl]
  try grind [mj_w]
theorem cb_15 (h1 : ρ 1 = sgR 1) (h2 : ρ 2 = sgR 2) (h13 : ρ 13 = sgR 13) (h3 : M 3 0 = -1) (h14 : M 14 0 = 1) (h42 : M 42 0 = -1) : mj_Rn (d + 1) 15 0 [.inr (.inl 1), .inl 0, .inl (-1), .inl 31, .inl (-1), .inl 0, .inl 0, .inl (-1), .inr (.inr 0), .inr (.inr 0)] [] (172, s, sgD, ρ) M Q = Q (some (.inl 0)) (172, s, sgD, ρ) (cB2 M) := by
  have r1_0 : ρ 1 0 = 2 := by rw [h1]; rfl
  have r1_1 : ρ 1 1 = 13 := by rw [h1]; rfl
  have r1_2 : ρ 1 2 = 22 := by rw [h1]; rfl
  have r1_3 : ρ 1 3 = 36 := by rw [h1]; rfl
  have r1_4 : ρ 1 4 = 42 := by rw [h1]; rfl
  have r1_5 : ρ 1 5 = 43 := by rw [h1]; rfl
  have r2_0 : ρ 2 0 = 3 := by rw [h2]; rfl
  have r2_1 : ρ 2 1 = 4 := by rw [h2]; rfl
  have r2_2 : ρ 2 2 = 5 := by rw [h2]; rfl
  have r2_3 : ρ 2 3 = 6 := by rw [h2]; rfl
  have r2_4 : ρ 2 4 = 7 := by rw [h2]; rfl
  have r2_5 : ρ 2 5 = 8 := by rw [h2]; rfl
  have r2_6 : ρ 2 6 = 9 := by rw [h2]; rfl
  have r2_7 : ρ 2 7 = 10 := by rw [h2]; rfl
  have r2_8 : ρ 2 8 = 11 := by rw [h2]; rfl
  have r2_9 : ρ 2 9 = 12 := by rw [h2]; rfl
  unfold cB2
  simp (disch := first | omega | decide) only [i_15_0, i_15_1, i_15_4, i_15_7, i_15_9, i_15_10, i_15_12, i_15_14, i_15_17, i_15_19, i_15_21, i_15_22, i_15_25, i_15_27, i_15_28, i_15_31, i_15_32, i_15_35, i_15_37, i_15_38, i_15_39, i_15_42, i_15_43, i_15_44, i_15_45, i_15_48, i_15_51, i_15_53, i_15_54, i_15_55, i_15_56, i_15_59, i_15_62, i_15_64, i_15_65, i_15_66, i_15_67, i_15_70, i_15_73, i_15_75, i_15_76, i_15_77, i_15_78, i_15_81, i_15_84, i_15_86, i_15_87, i_15_88, i_15_89, i_15_92, i_15_95, i_15_97, i_15_99, i_15_100, i_15_101, i_15_104, i_15_107, i_15_109, i_15_111, i_15_112, i_15_113, i_15_116, i_15_119, i_15_121, i_15_123, i_15_124, i_15_125, i_15_128, i_15_131, i_15_133, i_15_134, i_15_135, i_15_136, i_15_139, i_15_142, i_15_144, i_15_146, i_15_147, i_15_148, i_15_151, i_15_154, i_15_156, i_15_157, i_15_158, i_15_159, i_15_162, i_15_164, i_15_166, i_15_167, i_15_169, cO_1, cO_2, cO_13, cb_16 h1 h2 h13 h3, cb_17 h1 h2 h13 h14, h42, cT_10, cT_11, cT_12, cT_14, cT_15, cT_16, cT_17, cT_18, cT_19, cT_3, cT_4, cT_42, cT_5, cT_6, cT_7, cT_8, cT_9, cI_10, cI_11, cI_12, cI_14, cI_15, cI_16, cI_17, cI_18, cI_19, cI_3, cI_4, cI_42, cI_5, cI_6, cI_7, cI_8, cI_9, r1_0, r1_1, r1_2, r1_3, r1_4, r1_5, r2_0, r2_1, r2_2, r2_3, r2_4, r2_5, r2_6, r2_7, r2_8, r2_9, exists_eq_left', Option.some.injEq, exists_eq_left, ne_eq, List.length_nil, List.length_cons, Option.toList_some, Option.toList_none, List.cons_append, List.nil_append, mj_wt_nil, mj_wt_i, mj_wt_r, mj_wt_l, true_and, and_true, false_and, and_false, true_implies, false_implies, implies_true, not_true_eq_false, not_false_eq_true, and_self, Int.reduceEq, Nat.reduceEqDiff, ↓reduceIte, Int.reduceToNat, Nat.reduceAdd, Nat.reduceMul, List.append_nil, List.nil_append, implies_true, mj_w_id2, Int.toNat_natCast, Int.reduceEq, Nat.reduceEqDiff, Int.reduceLT, Int.reduceLE, Int.reduceNeg, Int.reduceMul, Int.reduceAdd, not_true_eq_false, not_false_eq_true, false_implies, true_implies, true_and, and_true, Int.le_refl]
  try grind
theorem cb_13 (h1 : ρ 1 = sgR 1) (h2 : ρ 2 = sgR 2) (h13 : ρ 13 = sgR 13) (h3 : M 3 0 = -1) (h42 : M 42 0 = -1) : mj_Rn (d + 2) 13 0 [.inr (.inl 1), .inr (.inr 0)] [] (172, s, sgD, ρ) M Q = Q none (172, s, sgD, ρ) (cB M) := by
  have r1_0 : ρ 1 0 = 2 := by rw [h1]; rfl
  have r1_1 : ρ 1 1 = 13 := by rw [h1]; rfl
  have r1_2 : ρ 1 2 = 22 := by rw [h1]; rfl
  have r1_3 : ρ 1 3 = 36 := by rw [h1]; rfl
  have r1_4 : ρ 1 4 = 42 := by rw [h1]; rfl
  have r1_5 : ρ 1 5 = 43 := by rw [h1]; rfl
  have r2_0 : ρ 2 0 = 3 := by rw [h2]; rfl
  have r2_1 : ρ 2 1 = 4 := by rw [h2]; rfl
  have r2_2 : ρ 2 2 = 5 := by rw [h2]; rfl
  have r2_3 : ρ 2 3 = 6 := by rw [h2]; rfl
  have r2_4 : ρ 2 4 = 7 := by rw [h2]; rfl
  have r2_5 : ρ 2 5 = 8 := by rw [h2]; rfl
  have r2_6 : ρ 2 6 = 9 := by rw [h2]; rfl
  have r2_7 : ρ 2 7 = 10 := by rw [h2]; rfl
  have r2_8 : ρ 2 8 = 11 := by rw [h2]; rfl
  have r2_9 : ρ 2 9 = 12 := by rw [h2]; rfl
  have g3 : cB1 M 3 0 = -1 := by unfold cB1; rw [mj_up_ne (by omega), mj_up_ne (by omega), mj_up_ne (by omega), mj_up_ne (by omega), mj_up_ne (by omega), mj_up_ne (by omega)]; exact h3
  have g42 : cB1 M 42 0 = -1 := by unfold cB1; rw [mj_up_ne (by omega), mj_up_ne (by omega), mj_up_ne (by omega), mj_up_ne (by omega), mj_up_ne (by omega), mj_up_ne (by omega)]; exact h42
  have g14 : cB1 M 14 0 = 1 := by unfold cB1; rw [mj_up_ne (by omega), mj_up_ne (by omega), mj_up_ne (by omega), mj_up_ne (by omega), mj_up_ne (by omega), mj_up_at, if_pos rfl]
  have e15 := fun (d : Nat) (Q : Option mj_V → mj_G → mj_M → Prop) => cb_15 (d := d) (s := s) (ρ := ρ) (M := cB1 M) (Q := Q) h1 h2 h13 g3 g14 g42
  unfold cB
  simp (disch := first | omega | decide) only [i_13_0, i_13_1, i_13_4, i_13_5, i_13_6, i_13_7, i_13_10, i_13_11, i_13_12, i_13_13, i_13_15, i_13_16, i_13_17, i_13_18, i_13_19, i_13_22, i_13_23, i_13_24, i_13_25, i_13_28, i_13_29, i_13_32, i_13_35, i_13_36, i_13_39, i_13_40, cO_1, cO_2, cO_13, cb_14 h1 h2 h13, e15, cT_10, cT_11, cT_12, cT_14, cT_15, cT_16, cT_17, cT_18, cT_19, cT_3, cT_4, cT_42, cT_5, cT_6, cT_7, cT_8, cT_9, cI_10, cI_11, cI_12, cI_14, cI_15, cI_16, cI_17, cI_18, cI_19, cI_3, cI_4, cI_42, cI_5, cI_6, cI_7, cI_8, cI_9, r1_0, r1_1, r1_2, r1_3, r1_4, r1_5, r2_0, r2_1, r2_2, r2_3, r2_4, r2_5, r2_6, r2_7, r2_8, r2_9, exists_eq_left', Option.some.injEq, exists_eq_left, ne_eq, List.length_nil, List.length_cons, Option.toList_some, Option.toList_none, List.cons_append, List.nil_append, mj_wt_nil, mj_wt_i, mj_wt_r, mj_wt_l, true_and, and_true, false_and, and_false, true_implies, false_implies, implies_true, not_true_eq_false, not_false_eq_true, and_self, Int.reduceEq, Nat.reduceEqDiff, ↓reduceIte, Int.reduceToNat, Nat.reduceAdd, Nat.reduceMul, List.append_nil, List.nil_append, implies_true, mj_w_id2, Int.toNat_natCast, Int.reduceEq, Nat.reduceEqDiff, Int.reduceLT, Int.reduceLE, Int.reduceNeg, Int.reduceMul, Int.reduceAdd, not_true_eq_false, not_false_eq_true, false_implies, true_implies, true_and, and_true, Int.le_refl]
  try grind
theorem cM_1_3 {j : Nat} (h : j < 120) : cM_1 M 3 j = -1 := by
  unfold cM_1
  rw [q_fill_ne (by omega), mj_up_ne (by omega), mj_up_ne (by omega), mj_up_ne (by omega), mj_up_ne (by omega), mj_up_ne (by omega), mj_up_ne (by omega), cM_36_o (by omega), cM_22_o (by omega), cM_13_o (by omega)]
  unfold cM_2; rw [q_fill_at.2, if_pos h]
theorem cM_1_14 {j : Nat} (h : j < 40) : cM_1 M 14 j = -1 := by
  unfold cM_1
  rw [q_fill_ne (by omega), mj_up_ne (by omega), mj_up_ne (by omega), mj_up_ne (by omega), mj_up_ne (by omega), mj_up_ne (by omega), mj_up_ne (by omega), cM_36_o (by omega), cM_22_o (by omega)]
  unfold cM_13; rw [q_fill_at.2, if_pos h]
theorem cM_1_42 {j : Nat} (h : j < 400) : cM_1 M 42 j = -1 := by
  unfold cM_1
  rw [q_fill_at.2, if_pos h]
  
def cM_0 (M : mj_M) : mj_M := (cB (q_fill (mj_up (mj_up (mj_up (cM_157 (cM_152 (cM_134 (cM_133 (cM_132 (cM_130 (cM_87 (cM_44 (cM_1 M))))))))) 0 14 (-1)) 0 15 (0)) 0 16 (0)) 168 4 (-1)))
theorem cM_0_o {b : Nat} (h : b < 0 ∨ 172 ≤ b) : cM_0 M b = M b := by
  unfold cM_0
  rw [cB_o (by omega), q_fill_ne (by omega), mj_up_ne (by omega), mj_up_ne (by omega), mj_up_ne (by omega), cM_157_o (by omega), cM_152_o (by omega), cM_134_o (by omega), cM_133_o (by omega), cM_132_o (by omega), cM_130_o (by omega), cM_87_o (by omega), cM_44_o (by omega), cM_1_o (by omega)]
theorem ct_0 (hρ : ∀ b, 0 ≤ b → b < 172 → ρ b = sgR b) (hM : ∀ b, 0 < b → b < 172 → M b = fun _ => 0) :
    mj_Rn (d + 3) 0 0 [.inr (.inl 0)] [] (1, 17, sgD, cP ρ 0 []) M Q = Q none (172, 25205, sgD, ρ) (cM_0 M) := by
  have z1 : mj_upr M 1 (fun _ => 0) = M := cZ (by exact hM 1 (by omega) (by omega))
  have t1 := fun (d : Nat) (Q : Option mj_V → mj_G → mj_M → Prop) => ct_1 (d := d) (Q := Q) (ρ := cP ρ 0 []) (M := M) (fun c h1 h2 => by rw [cP_ne (by omega)]; exact hρ c (by omega) (by omega)) (fun c h1 h2 => by exact hM c (by omega) (by omega))
  have u0_0 : ρ 0 0 = 1 := by rw [hρ 0 (by omega) (by omega)]; rfl
  have z44 : mj_upr (cM_1 M) 44 (fun _ => 0) = (cM_1 M) := cZ (by rw [cM_1_o (by omega)]; exact hM 44 (by omega) (by omega))
  have t44 := fun (d : Nat) (Q : Option mj_V → mj_G → mj_M → Prop) => ct_44 (d := d) (Q := Q) (ρ := cP ρ 0 [0]) (M := (cM_1 M)) (fun c h1 h2 => by rw [cP_ne (by omega)]; exact hρ c (by omega) (by omega)) (fun c h1 h2 => by rw [cM_1_o (by omega)]; exact hM c (by omega) (by omega))
  have u0_1 : ρ 0 1 = 44 := by rw [hρ 0 (by omega) (by omega)]; rfl
  have z87 : mj_upr (cM_44 (cM_1 M)) 87 (fun _ => 0) = (cM_44 (cM_1 M)) := cZ (by rw [cM_44_o (by omega), cM_1_o (by omega)]; exact hM 87 (by omega) (by omega))
  have t87 := fun (d : Nat) (Q : Option mj_V → mj_G → mj_M → Prop) => ct_87 (d := d) (Q := Q) (ρ := cP ρ 0 [1, 0]) (M := (cM_44 (cM_1 M))) (fun c h1 h2 => by rw [cP_ne (by omega)]; exact hρ c (by omega) (by omega)) (fun c h1 h2 => by rw [cM_44_o (by omega), cM_1_o (by omega)]; exact hM c (by omega) (by omega))
  have u0_2 : ρ 0 2 = 87 := by rw [hρ 0 (by omega) (by omega)]; rfl
  have z130 : mj_upr (cM_87 (cM_44 (cM_1 M))) 130 (fun _ => 0) = (cM_87 (cM_44 (cM_1 M))) := cZ (by rw [cM_87_o (by omega), cM_44_o (by omega), cM_1_o (by omega)]; exact hM 130 (by omega) (by omega))
  have g0_0 : ∀ L : List Nat, 0 ∈ L → cP ρ 0 L 0 0 = 1 := fun L h => by rw [cP_in h, hρ 0 (by omega) (by omega)]; rfl
  have t130 := fun (d : Nat) (Q : Option mj_V → mj_G → mj_M → Prop) => ct_130 (d := d) (Q := Q) (ρ := cP ρ 0 [2, 1, 0]) (M := (cM_87 (cM_44 (cM_1 M)))) (fun c h1 h2 => by rw [cP_ne (by omega)]; exact hρ c (by omega) (by omega)) (fun c h1 h2 => by rw [cM_87_o (by omega), cM_44_o (by omega), cM_1_o (by omega)]; exact hM c (by omega) (by omega))
  have u0_3 : ρ 0 3 = 130 := by rw [hρ 0 (by omega) (by omega)]; rfl
  have z132 : mj_upr (cM_130 (cM_87 (cM_44 (cM_1 M)))) 132 (fun _ => 0) = (cM_130 (cM_87 (cM_44 (cM_1 M)))) := cZ (by rw [cM_130_o (by omega), cM_87_o (by omega), cM_44_o (by omega), cM_1_o (by omega)]; exact hM 132 (by omega) (by omega))
  have g0_0 : ∀ L : List Nat, 0 ∈ L → cP ρ 0 L 0 0 = 1 := fun L h => by rw [cP_in h, hρ 0 (by omega) (by omega)]; rfl
  have g0_3 : ∀ L : List Nat, 3 ∈ L → cP ρ 0 L 0 3 = 130 := fun L h => by rw [cP_in h, hρ 0 (by omega) (by omega)]; rfl
  have t132 := fun (d : Nat) (Q : Option mj_V → mj_G → mj_M → Prop) => ct_132 (d := d) (Q := Q) (ρ := cP ρ 0 [3, 2, 1, 0]) (M := (cM_130 (cM_87 (cM_44 (cM_1 M))))) (fun c h1 h2 => by rw [cP_ne (by omega)]; exact hρ c (by omega) (by omega)) (fun c h1 h2 => by rw [cM_130_o (by omega), cM_87_o (by omega), cM_44_o (by omega), cM_1_o (by omega)]; exact hM c (by omega) (by omega))
  have u0_4 : ρ 0 4 = 132 := by rw [hρ 0 (by omega) (by omega)]; rfl
  have z133 : mj_upr (cM_132 (cM_130 (cM_87 (cM_44 (cM_1 M))))) 133 (fun _ => 0) = (cM_132 (cM_130 (cM_87 (cM_44 (cM_1 M))))) := cZ (by rw [cM_132_o (by omega), cM_130_o (by omega), cM_87_o (by omega), cM_44_o (by omega), cM_1_o (by omega)]; exact hM 133 (by omega) (by omega))
  have g0_0 : ∀ L : List Nat, 0 ∈ L → cP ρ 0 L 0 0 = 1 := fun L h => by rw [cP_in h, hρ 0 (by omega) (by omega)]; rfl
  have g0_3 : ∀ L : List Nat, 3 ∈ L → cP ρ 0 L 0 3 = 130 := fun L h => by rw [cP_in h, hρ 0 (by omega) (by omega)]; rfl
  have g0_4 : ∀ L : List Nat, 4 ∈ L → cP ρ 0 L 0 4 = 132 := fun L h => by rw [cP_in h, hρ 0 (by omega) (by omega)]; rfl
  have t133 := fun (d : Nat) (Q : Option mj_V → mj_G → mj_M → Prop) => ct_133 (d := d) (Q := Q) (ρ := cP ρ 0 [4, 3, 2, 1, 0]) (M := (cM_132 (cM_130 (cM_87 (cM_44 (cM_1 M)))))) (fun c h1 h2 => by rw [cP_ne (by omega)]; exact hρ c (by omega) (by omega)) (by rw [cP_ne (by omega)]; exact hρ 1 (by omega) (by omega)) (fun c h1 h2 => by rw [cM_132_o (by omega), cM_130_o (by omega), cM_87_o (by omega), cM_44_o (by omega), cM_1_o (by omega)]; exact hM c (by omega) (by omega))
  have u0_5 : ρ 0 5 = 133 := by rw [hρ 0 (by omega) (by omega)]; rfl
  have z134 : mj_upr (cM_133 (cM_132 (cM_130 (cM_87 (cM_44 (cM_1 M)))))) 134 (fun _ => 0) = (cM_133 (cM_132 (cM_130 (cM_87 (cM_44 (cM_1 M)))))) := cZ (by rw [cM_133_o (by omega), cM_132_o (by omega), cM_130_o (by omega), cM_87_o (by omega), cM_44_o (by omega), cM_1_o (by omega)]; exact hM 134 (by omega) (by omega))
  have g0_0 : ∀ L : List Nat, 0 ∈ L → cP ρ 0 L 0 0 = 1 := fun L h => by rw [cP_in h, hρ 0 (by omega) (by omega)]; rfl
  have g0_2 : ∀ L : List Nat, 2 ∈ L → cP ρ 0 L 0 2 = 87 := fun L h => by rw [cP_in h, hρ 0 (by omega) (by omega)]; rfl
  have g0_5 : ∀ L : List Nat, 5 ∈ L → cP ρ 0 L 0 5 = 133 := fun L h => by rw [cP_in h, hρ 0 (by omega) (by omega)]; rfl
  have t134 := fun (d : Nat) (Q : Option mj_V → mj_G → mj_M → Prop) => ct_134 (d := d) (Q := Q) (ρ := cP ρ 0 [5, 4, 3, 2, 1, 0]) (M := (cM_133 (cM_132 (cM_130 (cM_87 (cM_44 (cM_1 M))))))) (fun c h1 h2 => by rw [cP_ne (by omega)]; exact hρ c (by omega) (by omega)) (fun c h1 h2 => by rw [cM_133_o (by omega), cM_132_o (by omega), cM_130_o (by omega), cM_87_o (by omega), cM_44_o (by omega), cM_1_o (by omega)]; exact hM c (by omega) (by omega))
  have u0_6 : ρ 0 6 = 134 := by rw [hρ 0 (by omega) (by omega)]; rfl
  have z152 : mj_upr (cM_134 (cM_133 (cM_132 (cM_130 (cM_87 (cM_44 (cM_1 M))))))) 152 (fun _ => 0) = (cM_134 (cM_133 (cM_132 (cM_130 (cM_87 (cM_44 (cM_1 M))))))) := cZ (by rw [cM_134_o (by omega), cM_133_o (by omega), cM_132_o (by omega), cM_130_o (by omega), cM_87_o (by omega), cM_44_o (by omega), cM_1_o (by omega)]; exact hM 152 (by omega) (by omega))
  have g0_0 : ∀ L : List Nat, 0 ∈ L → cP ρ 0 L 0 0 = 1 := fun L h => by rw [cP_in h, hρ 0 (by omega) (by omega)]; rfl
  have t152 := fun (d : Nat) (Q : Option mj_V → mj_G → mj_M → Prop) => ct_152 (d := d) (Q := Q) (ρ := cP ρ 0 [6, 5, 4, 3, 2, 1, 0]) (M := (cM_134 (cM_133 (cM_132 (cM_130 (cM_87 (cM_44 (cM_1 M)))))))) (fun c h1 h2 => by rw [cP_ne (by omega)]; exact hρ c (by omega) (by omega)) (fun c h1 h2 => by rw [cM_134_o (by omega), cM_133_o (by omega), cM_132_o (by omega), cM_130_o (by omega), cM_87_o (by omega), cM_44_o (by omega), cM_1_o (by omega)]; exact hM c (by omega) (by omega))
  have u0_7 : ρ 0 7 = 152 := by rw [hρ 0 (by omega) (by omega)]; rfl
  have z157 : mj_upr (cM_152 (cM_134 (cM_133 (cM_132 (cM_130 (cM_87 (cM_44 (cM_1 M)))))))) 157 (fun _ => 0) = (cM_152 (cM_134 (cM_133 (cM_132 (cM_130 (cM_87 (cM_44 (cM_1 M)))))))) := cZ (by rw [cM_152_o (by omega), cM_134_o (by omega), cM_133_o (by omega), cM_132_o (by omega), cM_130_o (by omega), cM_87_o (by omega), cM_44_o (by omega), cM_1_o (by omega)]; exact hM 157 (by omega) (by omega))
  have g0_0 : ∀ L : List Nat, 0 ∈ L → cP ρ 0 L 0 0 = 1 := fun L h => by rw [cP_in h, hρ 0 (by omega) (by omega)]; rfl
  have t157 := fun (d : Nat) (Q : Option mj_V → mj_G → mj_M → Prop) => ct_157 (d := d) (Q := Q) (ρ := cP ρ 0 [7, 6, 5, 4, 3, 2, 1, 0]) (M := (cM_152 (cM_134 (cM_133 (cM_132 (cM_130 (cM_87 (cM_44 (cM_1 M))))))))) (fun c h1 h2 => by rw [cP_ne (by omega)]; exact hρ c (by omega) (by omega)) (fun c h1 h2 => by rw [cM_152_o (by omega), cM_134_o (by omega), cM_133_o (by omega), cM_132_o (by omega), cM_130_o (by omega), cM_87_o (by omega), cM_44_o (by omega), cM_1_o (by omega)]; exact hM c (by omega) (by omega))
  have u0_8 : ρ 0 8 = 157 := by rw [hρ 0 (by omega) (by omega)]; rfl
  have zm163 : ∀ (s : Nat) (ρ : Nat → Nat → Nat), mj_newMM (163, s, sgD, ρ) 4 (cM_157 (cM_152 (cM_134 (cM_133 (cM_132 (cM_130 (cM_87 (cM_44 (cM_1 M))))))))) = (cM_157 (cM_152 (cM_134 (cM_133 (cM_132 (cM_130 (cM_87 (cM_44 (cM_1 M))))))))) := fun s ρ => cZ2 (fun b h1 h2 => by rw [cM_157_o (by omega), cM_152_o (by omega), cM_134_o (by omega), cM_133_o (by omega), cM_132_o (by omega), cM_130_o (by omega), cM_87_o (by omega), cM_44_o (by omega), cM_1_o (by omega)]; exact hM b (by omega) (by omega))
  have zr163 : ∀ (s : Nat) (L : List Nat), mj_newM (163, s, sgD, cP ρ 0 L) 4 160 = (168, s + 4 + 640, sgD, cP ρ 0 L) := fun s L => cA2 rfl (fun a h1 h2 => by
    have h3 : a - 164 < 4 := by omega
    obtain ⟨c, hc⟩ : ∃ c, a = 164 + c := ⟨a - 164, by omega⟩
    subst hc
    have h4 : ∀ c, c < 4 → sgD (164 + c) = .inr (.int, 160) := by decide
    exact h4 c (by omega)) (fun j => by rw [cP_ne (by omega), hρ 163 (by omega) (by omega)]; rfl)
  have u0_9 : ρ 0 9 = 163 := by rw [hρ 0 (by omega) (by omega)]; rfl
  have z168 : mj_upr (cM_157 (cM_152 (cM_134 (cM_133 (cM_132 (cM_130 (cM_87 (cM_44 (cM_1 M))))))))) 168 (fun _ => 0) = (cM_157 (cM_152 (cM_134 (cM_133 (cM_132 (cM_130 (cM_87 (cM_44 (cM_1 M))))))))) := cZ (by rw [cM_157_o (by omega), cM_152_o (by omega), cM_134_o (by omega), cM_133_o (by omega), cM_132_o (by omega), cM_130_o (by omega), cM_87_o (by omega), cM_44_o (by omega), cM_1_o (by omega)]; exact hM 168 (by omega) (by omega))
  have u0_10 : ρ 0 10 = 168 := by rw [hρ 0 (by omega) (by omega)]; rfl
  have z169 : mj_upr (cM_157 (cM_152 (cM_134 (cM_133 (cM_132 (cM_130 (cM_87 (cM_44 (cM_1 M))))))))) 169 (fun _ => 0) = (cM_157 (cM_152 (cM_134 (cM_133 (cM_132 (cM_130 (cM_87 (cM_44 (cM_1 M))))))))) := cZ (by rw [cM_157_o (by omega), cM_152_o (by omega), cM_134_o (by omega), cM_133_o (by omega), cM_132_o (by omega), cM_130_o (by omega), cM_87_o (by omega), cM_44_o (by omega), cM_1_o (by omega)]; exact hM 169 (by omega) (by omega))
  have u0_11 : ρ 0 11 = 169 := by rw [hρ 0 (by omega) (by omega)]; rfl
  have z170 : mj_upr (cM_157 (cM_152 (cM_134 (cM_133 (cM_132 (cM_130 (cM_87 (cM_44 (cM_1 M))))))))) 170 (fun _ => 0) = (cM_157 (cM_152 (cM_134 (cM_133 (cM_132 (cM_130 (cM_87 (cM_44 (cM_1 M))))))))) := cZ (by rw [cM_157_o (by omega), cM_152_o (by omega), cM_134_o (by omega), cM_133_o (by omega), cM_132_o (by omega), cM_130_o (by omega), cM_87_o (by omega), cM_44_o (by omega), cM_1_o (by omega)]; exact hM 170 (by omega) (by omega))
  have u0_12 : ρ 0 12 = 170 := by rw [hρ 0 (by omega) (by omega)]; rfl
  have z171 : mj_upr (cM_157 (cM_152 (cM_134 (cM_133 (cM_132 (cM_130 (cM_87 (cM_44 (cM_1 M))))))))) 171 (fun _ => 0) = (cM_157 (cM_152 (cM_134 (cM_133 (cM_132 (cM_130 (cM_87 (cM_44 (cM_1 M))))))))) := cZ (by rw [cM_157_o (by omega), cM_152_o (by omega), cM_134_o (by omega), cM_133_o (by omega), cM_132_o (by omega), cM_130_o (by omega), cM_87_o (by omega), cM_44_o (by omega), cM_1_o (by omega)]; exact hM 171 (by omega) (by omega))
  have u0_13 : ρ 0 13 = 171 := by rw [hρ 0 (by omega) (by omega)]; rfl
  have g0_10 : ∀ L : List Nat, 10 ∈ L → cP ρ 0 L 0 10 = 168 := fun L h => by rw [cP_in h, hρ 0 (by omega) (by omega)]; rfl
  have f168 : ∀ (n s : Nat) (ρ : Nat → Nat → Nat) (M : mj_M) (d : Nat) (Q : Option mj_V → mj_G → mj_M → Prop), 168 < n → mj_Rn d 3 0 [.inr (.inl 168), .inl (-1), .inr (.inr 0), .inr (.inr 0)] [] (n, s, sgD, ρ) M Q = Q none (n, s, sgD, ρ) (q_fill M 168 4 (-1)) := fun n s ρ M d Q h => e_3 (by decide) (cT_168 h) (cI_168 h)
  have g0_0 : ∀ L : List Nat, 0 ∈ L → cP ρ 0 L 0 0 = 1 := fun L h => by rw [cP_in h, hρ 0 (by omega) (by omega)]; rfl
  have hr : ∀ b, b ≠ 0 → cP ρ 0 [13, 12, 11, 10, 9, 8, 7, 6, 5, 4, 3, 2, 1, 0] b = ρ b := fun b h => cP_ne h
  have tb := fun (d s : Nat) (Q : Option mj_V → mj_G → mj_M → Prop) => cb_13 (d := d) (s := s) (Q := Q) (ρ := cP ρ 0 [13, 12, 11, 10, 9, 8, 7, 6, 5, 4, 3, 2, 1, 0]) (M := (q_fill (mj_up (mj_up (mj_up (cM_157 (cM_152 (cM_134 (cM_133 (cM_132 (cM_130 (cM_87 (cM_44 (cM_1 M))))))))) 0 14 (-1)) 0 15 (0)) 0 16 (0)) 168 4 (-1))) (by rw [cP_ne (by omega)]; exact hρ 1 (by omega) (by omega)) (by rw [cP_ne (by omega)]; exact hρ 2 (by omega) (by omega)) (by rw [cP_ne (by omega)]; exact hρ 13 (by omega) (by omega)) (by rw [q_fill_ne (by omega), mj_up_ne (by omega), mj_up_ne (by omega), mj_up_ne (by omega), cM_157_o (by omega), cM_152_o (by omega), cM_134_o (by omega), cM_133_o (by omega), cM_132_o (by omega), cM_130_o (by omega), cM_87_o (by omega), cM_44_o (by omega)]; exact cM_1_3 (by omega)) (by rw [q_fill_ne (by omega), mj_up_ne (by omega), mj_up_ne (by omega), mj_up_ne (by omega), cM_157_o (by omega), cM_152_o (by omega), cM_134_o (by omega), cM_133_o (by omega), cM_132_o (by omega), cM_130_o (by omega), cM_87_o (by omega), cM_44_o (by omega)]; exact cM_1_42 (by omega))
  have hF : cP ρ 0 [13, 12, 11, 10, 9, 8, 7, 6, 5, 4, 3, 2, 1, 0] = ρ := cP_all (fun j hj => by
    rw [hρ 0 (by omega) (by omega)]
    exact row_all (row := sg_r.getD 0 []) (L := [13, 12, 11, 10, 9, 8, 7, 6, 5, 4, 3, 2, 1, 0]) (by decide) j hj)
  unfold cM_0
  simp (disch := first | omega | decide) only [i_0_0, i_0_1, i_0_4, i_0_5, i_0_8, i_0_9, i_0_12, i_0_15, i_0_16, i_0_19, i_0_20, i_0_23, i_0_26, i_0_27, i_0_30, i_0_31, i_0_34, i_0_37, i_0_38, i_0_41, i_0_42, i_0_43, i_0_46, i_0_49, i_0_52, i_0_53, i_0_56, i_0_57, i_0_58, i_0_61, i_0_62, i_0_65, i_0_68, i_0_71, i_0_72, i_0_75, i_0_76, i_0_77, i_0_80, i_0_81, i_0_84, i_0_85, i_0_88, i_0_91, i_0_94, i_0_95, i_0_98, i_0_99, i_0_100, i_0_103, i_0_104, i_0_107, i_0_108, i_0_111, i_0_114, i_0_117, i_0_118, i_0_121, i_0_122, i_0_123, i_0_126, i_0_129, i_0_132, i_0_133, i_0_136, i_0_137, i_0_138, i_0_141, i_0_144, i_0_147, i_0_148, i_0_149, i_0_152, i_0_156, i_0_159, i_0_160, i_0_161, i_0_163, i_0_166, i_0_167, i_0_169, i_0_171, i_0_174, i_0_175, i_0_178, i_0_180, i_0_183, i_0_184, i_0_186, i_0_188, i_0_191, i_0_192, i_0_193, i_0_196, i_0_197, i_0_198, i_0_201, i_0_202, i_0_203, i_0_206, i_0_207, i_0_210, i_0_211, i_0_214, i_0_215, i_0_218, i_0_221, cA_168, cA_169, cA_170, cA_171, cN_1, cN_130, cN_132, cN_133, cN_134, cN_152, cN_157, cN_44, cN_87, cT_168, cO_0, cO_1, cO_44, cO_87, cO_130, cO_132, cO_133, cO_134, cO_152, cO_157, z1, t1, cU u0_0, z44, t44, cU u0_1, z87, t87, cU u0_2, z130, g0_0, t130, cU u0_3, z132, g0_0, g0_3, t132, cU u0_4, z133, g0_0, g0_3, g0_4, t133, cU u0_5, z134, g0_0, g0_2, g0_5, t134, cU u0_6, z152, g0_0, t152, cU u0_7, z157, g0_0, t157, cU u0_8, zm163, zr163, cU u0_9, z168, cU u0_10, z169, cU u0_11, z170, cU u0_12, z171, cU u0_13, g0_10, f168, g0_0, tb, exists_eq_left', Option.some.injEq, exists_eq_left, ne_eq, List.length_nil, List.length_cons, Option.toList_some, Option.toList_none, List.cons_append, List.nil_append, mj_wt_nil, mj_wt_i, mj_wt_r, mj_wt_l, true_and, and_true, false_and, and_false, true_implies, false_implies, implies_true, not_true_eq_false, not_false_eq_true, and_self, Int.reduceEq, Nat.reduceEqDiff, ↓reduceIte, Int.reduceToNat, Nat.reduceAdd, Nat.reduceMul, List.append_nil, List.nil_append, implies_true, mj_w_id2, Int.toNat_natCast, cP_ne]
  try rw [hF]
  try grind
end ctor
