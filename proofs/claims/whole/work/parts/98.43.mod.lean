section mini
variable {n s : Nat} {ρ : Nat → Nat → Nat} {M : mj_M} {d : Nat} {Q : Option mj_V → mj_G → mj_M → Prop}
theorem mi_a (hM : ∀ b, 172 < b → b < 185 → M b = fun _ => 0) : mj_Rn d 170 0 [.inr (.inl 172), .inr (.inr 0), .inr (.inr 0)] [] (173, 25229, sgD, cP sgR 172 []) M Q = mj_Rn d 170 106 [.inr (.inl 172), .inr (.inr 0), .inr (.inr 0)] [] (SGx 162) M Q := by
  have z173 : mj_upr M 173 (fun _ => 0) = M := cZ (hM 173 (by omega) (by omega))
  have u172_1 : sgR 172 1 = 173 := rfl
  have z174 : mj_upr M 174 (fun _ => 0) = M := cZ (hM 174 (by omega) (by omega))
  have u172_2 : sgR 172 2 = 174 := rfl
  have z175 : mj_upr M 175 (fun _ => 0) = M := cZ (hM 175 (by omega) (by omega))
  have u172_4 : sgR 172 4 = 175 := rfl
  have z176 : mj_upr M 176 (fun _ => 0) = M := cZ (hM 176 (by omega) (by omega))
  have u172_5 : sgR 172 5 = 176 := rfl
  have z177 : mj_upr M 177 (fun _ => 0) = M := cZ (hM 177 (by omega) (by omega))
  have u172_6 : sgR 172 6 = 177 := rfl
  have z178 : mj_upr M 178 (fun _ => 0) = M := cZ (hM 178 (by omega) (by omega))
  have u172_7 : sgR 172 7 = 178 := rfl
  have z179 : mj_upr M 179 (fun _ => 0) = M := cZ (hM 179 (by omega) (by omega))
  have u172_8 : sgR 172 8 = 179 := rfl
  have z180 : mj_upr M 180 (fun _ => 0) = M := cZ (hM 180 (by omega) (by omega))
  have u172_16 : sgR 172 16 = 180 := rfl
  have z181 : mj_upr M 181 (fun _ => 0) = M := cZ (hM 181 (by omega) (by omega))
  have u172_18 : sgR 172 18 = 181 := rfl
  have z182 : mj_upr M 182 (fun _ => 0) = M := cZ (hM 182 (by omega) (by omega))
  have u172_19 : sgR 172 19 = 182 := rfl
  have z183 : mj_upr M 183 (fun _ => 0) = M := cZ (hM 183 (by omega) (by omega))
  have u172_20 : sgR 172 20 = 183 := rfl
  have z184 : mj_upr M 184 (fun _ => 0) = M := cZ (hM 184 (by omega) (by omega))
  have u172_21 : sgR 172 21 = 184 := rfl
  have hF : cP sgR 172 [21, 20, 19, 18, 16, 8, 7, 6, 5, 4, 2, 1] = sgR := cP_all (fun j hj => row_all (row := sg_r.getD 172 []) (L := [21, 20, 19, 18, 16, 8, 7, 6, 5, 4, 2, 1]) (by decide) j hj)
  rw [sg_162]
  simp (disch := first | omega | decide) only [i_170_0, i_170_1, i_170_4, i_170_5, i_170_8, i_170_10, i_170_13, i_170_14, i_170_16, i_170_18, i_170_21, i_170_22, i_170_25, i_170_27, i_170_30, i_170_31, i_170_34, i_170_36, i_170_39, i_170_40, i_170_43, i_170_45, i_170_48, i_170_49, i_170_52, i_170_54, i_170_57, i_170_58, i_170_61, i_170_63, i_170_66, i_170_67, i_170_70, i_170_72, i_170_75, i_170_76, i_170_77, i_170_79, i_170_82, i_170_83, i_170_84, i_170_86, i_170_89, i_170_90, i_170_93, i_170_95, i_170_98, i_170_99, i_170_101, i_170_103, cA_173, cA_174, cA_175, cA_176, cA_177, cA_178, cA_179, cA_180, cA_181, cA_182, cA_183, cA_184, cO_172, z173, cU u172_1, z174, cU u172_2, z175, cU u172_4, z176, cU u172_5, z177, cU u172_6, z178, cU u172_7, z179, cU u172_8, z180, cU u172_16, z181, cU u172_18, z182, cU u172_19, z183, cU u172_20, z184, cU u172_21, exists_eq_left', Option.some.injEq, exists_eq_left, ne_eq, List.length_nil, List.length_cons, Option.toList_some, Option.toList_none, List.cons_append, List.nil_append, mj_wt_nil, mj_wt_i, mj_wt_r, mj_wt_l, true_and, and_true, false_and, and_false, true_implies, false_implies, implies_true, not_true_eq_false, not_false_eq_true, and_self, Int.reduceEq, Nat.reduceEqDiff, ↓reduceIte, Int.reduceToNat, Nat.reduceAdd, Nat.reduceMul, List.append_nil, List.nil_append, implies_true, mj_w_id2, Int.toNat_natCast]
  try rw [hF]
  try grind
end mini
section mini2
variable {x : Nat} {M V : mj_M} {Q : Option mj_V → mj_G → mj_M → Prop} {d : Nat}
def f_mi (t : Nat) (V : mj_M) : mj_M := mj_up V 42 t (-1)
theorem v_dec_mi {t : Nat} (h : t < 400) : v_dec (2752 + (t : Int)).toNat = (42, t) := by
  have e : (2752 + (t : Int)).toNat = 2752 + t := by omega
  rw [e]
  unfold v_dec
  rw [if_neg (by omega), if_neg (by omega), if_pos (by omega), Nat.add_sub_cancel_left]
theorem l_170 {v : mj_V} : ∀ (n t : Nat) (V : mj_M), t + n = 400 → mj_Rn d 170 108 [.inr (.inl 172), .inl (t : Int), v] [] (SGx x) (v_st V M) Q = mj_Rn d 170 132 [.inr (.inl 172), .inl 400, v] [] (SGx x) (v_st (q_for f_mi n t V) M) Q := by
  intro n
  induction n with
  | zero =>
    intro t V h
    have ht : t = 400 := by omega
    subst ht
    have e4 : ((400 : Nat) : Int) = 400 := rfl
    rw [i_170_108, q_for]
    simp (disch := omega) only [i_170_0, i_170_1, i_170_4, i_170_5, i_170_8, i_170_10, i_170_13, i_170_14, i_170_16, i_170_18, i_170_21, i_170_22, i_170_25, i_170_27, i_170_30, i_170_31, i_170_34, i_170_36, i_170_39, i_170_40, i_170_43, i_170_45, i_170_48, i_170_49, i_170_52, i_170_54, i_170_57, i_170_58, i_170_61, i_170_63, i_170_66, i_170_67, i_170_70, i_170_72, i_170_75, i_170_76, i_170_77, i_170_79, i_170_82, i_170_83, i_170_84, i_170_86, i_170_89, i_170_90, i_170_93, i_170_95, i_170_98, i_170_99, i_170_101, i_170_103, i_170_106, i_170_107, i_170_109, i_170_112, i_170_115, i_170_116, i_170_119, i_170_122, i_170_123, i_170_124, i_170_125, i_170_126, i_170_129, i_170_133, i_170_136, i_170_137, i_170_138, i_170_139, i_170_140, i_170_141, i_170_142, i_170_145, i_170_146, i_170_147, i_170_148, i_170_149, i_170_151, i_170_154, i_170_155, i_170_156, i_170_157, i_170_158, i_170_161, i_170_162, g_o172, g_r172_1, g_r172_2, g_r172_4, g_r172_5, g_r172_6, g_r172_7, g_r172_8, g_r172_16, g_r172_18, g_r172_19, g_r172_20, g_r172_21, g_a173, g_t173, exists_eq_left', Option.some.injEq, exists_eq_left, ne_eq, List.length_nil, List.length_cons, Option.toList_some, Option.toList_none, List.cons_append, List.nil_append, mj_wt_nil, mj_wt_i, mj_wt_r, mj_wt_l, true_and, and_true, false_and, and_false, true_implies, false_implies, implies_true, not_true_eq_false, not_false_eq_true, and_self, Int.reduceEq, Nat.reduceEqDiff, ↓reduceIte, mj_w_id2, Int.toNat_natCast, v_st_ne, v_rd, v_up, v_up_ne, v_rg, v_rg2, v_th0, v_th1, v_th2, v_th3, v_th4, v_th5, v_th6, v_th7, v_tk0, v_tk1, v_tk2, v_tk3, v_tk4, v_tk5, v_tk6, v_tk7, v_tk8, v_tk9, v_tk10, v_tk11, v_rn0, v_rn1, v_rn2, v_rn3, v_rn4, v_rn5, v_rn6, v_rn7, v_rn8, v_rn9, v_rn10, v_rn11, v_ws0, v_ws1, v_ws2, v_ws3, v_ws4, v_ws5, v_ws6, v_gl0, v_gl1, v_gl2, v_gl3, v_gl4, v_gl5, v_gl6, v_gl7, v_gl8, v_gl9, v_ow, v_ow2, v_iw, v_tb, v_pg, e4]
    try grind
  | succ n ih =>
    intro t V h
    have h1t : ((t + 1 : Nat) : Int) = (t : Int) + 1 := by push_cast; rfl
    have i1 := ih (t + 1) (f_mi t V) (by omega)
    rw [h1t] at i1
    have e := v_dec_mi (t := t) (by omega)
    have ef : mj_up V 42 t (-1) = f_mi t V := rfl
    clear ih
    rw [i_170_108, q_for]
    simp (disch := omega) only [i_170_0, i_170_1, i_170_4, i_170_5, i_170_8, i_170_10, i_170_13, i_170_14, i_170_16, i_170_18, i_170_21, i_170_22, i_170_25, i_170_27, i_170_30, i_170_31, i_170_34, i_170_36, i_170_39, i_170_40, i_170_43, i_170_45, i_170_48, i_170_49, i_170_52, i_170_54, i_170_57, i_170_58, i_170_61, i_170_63, i_170_66, i_170_67, i_170_70, i_170_72, i_170_75, i_170_76, i_170_77, i_170_79, i_170_82, i_170_83, i_170_84, i_170_86, i_170_89, i_170_90, i_170_93, i_170_95, i_170_98, i_170_99, i_170_101, i_170_103, i_170_106, i_170_107, i_170_109, i_170_112, i_170_115, i_170_116, i_170_119, i_170_122, i_170_123, i_170_124, i_170_125, i_170_126, i_170_129, i_170_133, i_170_136, i_170_137, i_170_138, i_170_139, i_170_140, i_170_141, i_170_142, i_170_145, i_170_146, i_170_147, i_170_148, i_170_149, i_170_151, i_170_154, i_170_155, i_170_156, i_170_157, i_170_158, i_170_161, i_170_162, g_o172, g_r172_1, g_r172_2, g_r172_4, g_r172_5, g_r172_6, g_r172_7, g_r172_8, g_r172_16, g_r172_18, g_r172_19, g_r172_20, g_r172_21, g_a173, g_t173, exists_eq_left', Option.some.injEq, exists_eq_left, ne_eq, List.length_nil, List.length_cons, Option.toList_some, Option.toList_none, List.cons_append, List.nil_append, mj_wt_nil, mj_wt_i, mj_wt_r, mj_wt_l, true_and, and_true, false_and, and_false, true_implies, false_implies, implies_true, not_true_eq_false, not_false_eq_true, and_self, Int.reduceEq, Nat.reduceEqDiff, ↓reduceIte, mj_w_id2, Int.toNat_natCast, v_st_ne, v_rd, v_up, v_up_ne, v_rg, v_rg2, v_th0, v_th1, v_th2, v_th3, v_th4, v_th5, v_th6, v_th7, v_tk0, v_tk1, v_tk2, v_tk3, v_tk4, v_tk5, v_tk6, v_tk7, v_tk8, v_tk9, v_tk10, v_tk11, v_rn0, v_rn1, v_rn2, v_rn3, v_rn4, v_rn5, v_rn6, v_rn7, v_rn8, v_rn9, v_rn10, v_rn11, v_ws0, v_ws1, v_ws2, v_ws3, v_ws4, v_ws5, v_ws6, v_gl0, v_gl1, v_gl2, v_gl3, v_gl4, v_gl5, v_gl6, v_gl7, v_gl8, v_gl9, v_ow, v_ow2, v_iw, v_tb, v_pg, e, ef, i1]
    try grind [mj_w]
/-- the reference's numbers when all begins -/
def mV0 : mj_M := fun _ _ => 0
def mV1 : mj_M := mj_up (q_for f_mi 400 0 mV0) 1 10 (-1)
def mV2 : mj_M := m_mkt mV1 0 1 (-1)
def mV3 : mj_M := m_put mV2 0 (-1) 31 960 (-1) 0 0 (-1)
theorem f_mi_at : ∀ (n t : Nat) (V : mj_M), (∀ a, a ≠ 42 → q_for f_mi n t V a = V a) ∧ ∀ j, q_for f_mi n t V 42 j = if t ≤ j ∧ j < t + n then -1 else V 42 j := by
  intro n
  induction n with
  | zero => intro t V; exact ⟨fun _ _ => rfl, fun j => by rw [if_neg (by omega)]; rfl⟩
  | succ n ih =>
    intro t V
    obtain ⟨h1, h2⟩ := ih (t + 1) (f_mi t V)
    refine ⟨fun a ha => by rw [q_for, h1 a ha]; exact mj_up_ne ha, fun j => ?_⟩
    rw [q_for, h2 j]
    have e : f_mi t V 42 j = if j = t then -1 else V 42 j := mj_up_at
    rw [e]
    by_cases c : j = t
    · rw [if_pos c, if_neg (by omega), if_pos (by omega)]
    · rw [if_neg c]
      by_cases c2 : t + 1 ≤ j ∧ j < t + 1 + n
      · rw [if_pos c2, if_pos (by omega)]
      · rw [if_neg c2, if_neg (by omega)]
theorem mV1_at : (∀ a j, a ≠ 42 → mV1 a j = if a = 1 ∧ j = 10 then -1 else 0) ∧ ∀ j, mV1 42 j = if j < 400 then -1 else 0 := by
  obtain ⟨h1, h2⟩ := f_mi_at 400 0 mV0
  refine ⟨fun a j ha => ?_, fun j => ?_⟩
  · unfold mV1
    by_cases c : a = 1
    · subst c
      rw [mj_up_at, h1 1 (by omega)]
      by_cases c2 : j = 10
      · rw [if_pos c2, if_pos ⟨rfl, c2⟩]
      · rw [if_neg c2, if_neg (fun q => c2 q.2)]; rfl
    · rw [mj_up_ne c, h1 a ha, if_neg (fun q => c q.1)]; rfl
  · unfold mV1
    rw [mj_up_ne (by omega), h2 j]
    by_cases c : j < 400
    · rw [if_pos (by omega), if_pos c]
    · rw [if_neg (by omega), if_neg c]; rfl
theorem mV1_h : m_fth mV1 40 0 = 0 := by
  rw [m_fth, if_neg (by rw [mV1_at.1 210 0 (by omega)]; decide)]
  rfl
theorem mV2_k : m_ftk mV2 120 0 = 0 := by
  rw [m_ftk]
  have e : mV2 212 0 = 0 := by
    unfold mV2
    rw [(z_mkt (V := mV1) (y := 0) (k := 1) (o := -1) (by omega)).1 212 (by omega) (by omega) (by omega) (by omega) (by omega), mV1_at.1 212 0 (by omega), if_neg (by omega)]
  rw [e, if_neg (by omega)]
  rfl
theorem mi_b : mj_Rn (d + 3) 170 106 [.inr (.inl 172), .inr (.inr 0), .inr (.inr 0)] [] (SGx x) (v_st mV0 M) Q = Q none (SGx x) (v_st mV3 M) := by
  have hl := fun (d : Nat) (v : mj_V) => l_170 (d := d) (x := x) (M := M) (Q := Q) (v := v) 400 0 mV0 rfl
  simp only [Int.natCast_zero] at hl
  have e5 : v_dec 5 = (1, 10) := rfl
  have r1 := fun (d : Nat) (Q : Option mj_V → mj_G → mj_M → Prop) => r_171 (d := d) (x := x) (V := mV1) (M := M) (Q := Q) (k := 1) (o := -1) (by rw [mV1_h]; omega)
  have r2 := fun (d : Nat) (Q : Option mj_V → mj_G → mj_M → Prop) => r_174 (d := d) (x := x) (V := mV2) (M := M) (Q := Q) (k := 0) (th := -1) (r := 31) (ro := 960) (l := -1) (b := 0) (s := 0) (la := -1) (by rw [mV2_k]; omega) (by omega) (by omega)
  rw [mV1_h] at r1
  rw [mV2_k] at r2
  have g1 : mj_up (q_for f_mi 400 0 mV0) 1 10 (-1) = mV1 := rfl
  have g2 : m_mkt mV1 0 1 (-1) = mV2 := rfl
  have g3 : m_put mV2 0 (-1) 31 960 (-1) 0 0 (-1) = mV3 := rfl
  rw [g2] at r1
  rw [g3] at r2
  simp (disch := omega) only [i_170_0, i_170_1, i_170_4, i_170_5, i_170_8, i_170_10, i_170_13, i_170_14, i_170_16, i_170_18, i_170_21, i_170_22, i_170_25, i_170_27, i_170_30, i_170_31, i_170_34, i_170_36, i_170_39, i_170_40, i_170_43, i_170_45, i_170_48, i_170_49, i_170_52, i_170_54, i_170_57, i_170_58, i_170_61, i_170_63, i_170_66, i_170_67, i_170_70, i_170_72, i_170_75, i_170_76, i_170_77, i_170_79, i_170_82, i_170_83, i_170_84, i_170_86, i_170_89, i_170_90, i_170_93, i_170_95, i_170_98, i_170_99, i_170_101, i_170_103, i_170_106, i_170_107, i_170_109, i_170_112, i_170_115, i_170_116, i_170_119, i_170_122, i_170_123, i_170_124, i_170_125, i_170_126, i_170_129, i_170_132, i_170_133, i_170_136, i_170_137, i_170_138, i_170_139, i_170_140, i_170_141, i_170_142, i_170_145, i_170_146, i_170_147, i_170_148, i_170_149, i_170_151, i_170_154, i_170_155, i_170_156, i_170_157, i_170_158, i_170_161, i_170_162, g_o172, g_r172_1, g_r172_2, g_r172_4, g_r172_5, g_r172_6, g_r172_7, g_r172_8, g_r172_16, g_r172_18, g_r172_19, g_r172_20, g_r172_21, g_a173, g_t173, exists_eq_left', Option.some.injEq, exists_eq_left, ne_eq, List.length_nil, List.length_cons, Option.toList_some, Option.toList_none, List.cons_append, List.nil_append, mj_wt_nil, mj_wt_i, mj_wt_r, mj_wt_l, true_and, and_true, false_and, and_false, true_implies, false_implies, implies_true, not_true_eq_false, not_false_eq_true, and_self, Int.reduceEq, Nat.reduceEqDiff, ↓reduceIte, mj_w_id2, Int.toNat_natCast, v_st_ne, v_rd, v_up, v_up_ne, v_rg, v_rg2, v_th0, v_th1, v_th2, v_th3, v_th4, v_th5, v_th6, v_th7, v_tk0, v_tk1, v_tk2, v_tk3, v_tk4, v_tk5, v_tk6, v_tk7, v_tk8, v_tk9, v_tk10, v_tk11, v_rn0, v_rn1, v_rn2, v_rn3, v_rn4, v_rn5, v_rn6, v_rn7, v_rn8, v_rn9, v_rn10, v_rn11, v_ws0, v_ws1, v_ws2, v_ws3, v_ws4, v_ws5, v_ws6, v_gl0, v_gl1, v_gl2, v_gl3, v_gl4, v_gl5, v_gl6, v_gl7, v_gl8, v_gl9, v_ow, v_ow2, v_iw, v_tb, v_pg, hl, e5, g1, r1, r2, Int.reduceNeg, Int.reduceToNat]
  try grind
end mini2
