section sp71
variable {x : Nat} {M : mj_M} {Q : Option mj_V → mj_G → mj_M → Prop} {d : Nat}
theorem q_wd_at {cs : List Int} : ∀ (n t : Nat) (M : mj_M), q_wdR cs n t M = 1 → q_wdM cs n t M 157 7 = M 157 7 + n := by
  intro n
  induction n with
  | zero => intro t M _; simp [q_wdM]
  | succ n ih =>
    intro t M h
    unfold q_wdR at h
    unfold q_wdM
    split
    · rename_i hh
      rw [if_pos hh] at h
      rw [ih _ _ h]
      unfold q_at1
      simp [mj_up]
      omega
    · rename_i hh
      rw [if_neg hh] at h
      omega
theorem q_rp_at {cs : List Int} {k : Int} (h : q_rp cs M k = 1) : M 157 7 + cs.length ≤ q_rpM cs M k 157 7 := by
  unfold q_rp at h
  unfold q_rpM
  by_cases c1 : q_wdR cs cs.length 0 (q_rpA M k) = 0
  · rw [if_pos c1] at h; omega
  rw [if_neg c1] at h
  rw [if_neg c1]
  have c1b : q_wdR cs cs.length 0 (q_rpA M k) = 1 := by have := q_wdR_01 (cs := cs) cs.length 0 (q_rpA M k); omega
  have e1 := q_wd_at _ _ _ c1b
  have e2 : q_rpA M k 157 7 = M 157 7 := by unfold q_rpA; rw [mj_up_ne (by omega)]
  have e3 : q_rpB cs M k 157 7 = M 157 7 + cs.length := by unfold q_rpB; rw [e1, e2]
  have g1 := (q_nmM_sp (M := q_rpB cs M k)).2.2.1
  have g2 := (q_rpX_sp (M := q_rpB cs M k)).2.2.1
  have g3 := (q_nmM_sp (M := q_rpX (q_rpB cs M k))).2.2.1
  have g4 := (q_rpY_sp (M := q_rpX (q_rpB cs M k))).2.2.1
  have g5 := (q_rpT_sp (M := q_rpY (q_rpX (q_rpB cs M k)))).2.2.1
  split
  · omega
  · split
    · omega
    · split
      · omega
      · omega
theorem q_stt_01 : q_stt M = 0 ∨ (q_stt M = 1 ∧ M 157 7 + 4 ≤ q_sttM M 157 7) := by
  unfold q_stt q_sttM
  split
  · rcases q_rp_01 (M := M) (cs := [103, 101, 116, 115]) (k := 0) with h | h
    · exact Or.inl h
    · exact Or.inr ⟨h, by have := q_rp_at h; simpa using this⟩
  · split
    · rcases q_rp_01 (M := M) (cs := [110, 101, 118, 101, 114]) (k := 1) with h | h
      · exact Or.inl h
      · exact Or.inr ⟨h, by have := q_rp_at h; simp at this; omega⟩
    · rcases q_rp_01 (M := M) (cs := [97, 112, 97, 114, 116]) (k := 2) with h | h
      · exact Or.inl h
      · exact Or.inr ⟨h, by have := q_rp_at h; simp at this; omega⟩
def q_sz1 (M : mj_M) : mj_M := mj_up M 157 9 (M 157 9 + 1)
def q_psM : Nat → mj_M → mj_M
  | 0, M => M
  | n + 1, M => if q_stt M = 0 then q_sttM M else if q_sz1 (q_sttM M) 157 6 ≤ q_sz1 (q_sttM M) 157 7 then q_sz1 (q_sttM M) else if q_nx (q_sz1 (q_sttM M)) 59 = 0 then q_sz1 (q_sttM M) else q_psM n (q_at1 (q_sz1 (q_sttM M)))
def q_psR : Nat → mj_M → Int
  | 0, _ => 0
  | n + 1, M => if q_stt M = 0 then q_sttM M 157 7 else if q_sz1 (q_sttM M) 157 6 ≤ q_sz1 (q_sttM M) 157 7 then -1 else if q_nx (q_sz1 (q_sttM M)) 59 = 0 then q_sz1 (q_sttM M) 157 7 else q_psR n (q_at1 (q_sz1 (q_sttM M)))
theorem l_144 {v w : mj_V} (n : Nat) : ∀ (i : Nat) (M : mj_M), i + n = 161 → M 157 9 = i → 2 * (i : Int) ≤ M 157 7 → M 157 7 ≤ M 157 6 → M 157 6 ≤ 160 →
    mj_Rn (d + 5) 144 22 [.inr (.inl 157), v, w, .inl (i : Int)] [] (SGx 170) M Q = Q (some (.inl (q_psR n M))) (SGx 170) (q_psM n M) := by
  induction n with
  | zero => intro i M h h9 h7 h76 he; exfalso; omega
  | succ n ih =>
    intro i M h h9 h7 h76 he
    have hi1 : (i : Int) ≤ M 157 6 := by omega
    have h9b : 0 ≤ M 157 9 ∧ M 157 9 < 160 := by omega
    have h0 : 0 ≤ M 157 7 := by omega
    have sS := q_sttM_sp (M := M)
    have eS := q_sp_le sS he
    have oS := q_sp_ge sS h0
    have kS := sS.2.2.2.1 h76
    have nS : q_sttM M 157 9 = M 157 9 := sS.2.1
    have eA : q_sz1 (q_sttM M) 157 6 = q_sttM M 157 6 := by unfold q_sz1; simp [mj_up]
    have oA : q_sz1 (q_sttM M) 157 7 = q_sttM M 157 7 := by unfold q_sz1; simp [mj_up]
    have nA : q_sz1 (q_sttM M) 157 9 = M 157 9 + 1 := by unfold q_sz1; simp [mj_up, nS]
    have fA : mj_up (q_sttM M) 157 9 (M 157 9 + 1) = q_sz1 (q_sttM M) := by unfold q_sz1; rw [nS]
    have heA : q_sz1 (q_sttM M) 157 6 ≤ 160 := by omega
    have h0A : 0 ≤ q_sz1 (q_sttM M) 157 7 := by omega
    rw [i_144_22, q_psR, q_psM]
    rcases q_stt_01 (M := M) with hs | ⟨hs, hs2⟩
    · clear ih
      simp (disch := omega) only [i_144_0, i_144_1, i_144_2, i_144_5, i_144_6, i_144_7, i_144_10, i_144_11, i_144_12, i_144_15, i_144_16, i_144_17, i_144_20, i_144_21, i_144_23, i_144_24, i_144_27, i_144_30, i_144_31, i_144_34, i_144_37, i_144_40, i_144_41, i_144_44, i_144_47, i_144_48, i_144_51, i_144_52, i_144_53, i_144_54, i_144_57, i_144_58, i_144_59, i_144_62, i_144_63, i_144_66, i_144_67, i_144_70, i_144_73, i_144_74, i_144_75, i_144_76, i_144_78, i_144_81, i_144_84, i_144_85, i_144_88, i_144_89, i_144_90, i_144_91, i_144_94, i_144_95, i_144_96, i_144_99, i_144_102, i_144_105, i_144_106, i_144_109, g_o157, g_r157_0, g_r157_1, g_r157_2, g_r157_3, g_r157_4, g_r157_5, g_a158, g_t158, g_a159, g_t159, g_a160, g_t160, g_a161, g_t161, g_a170, g_t170, exists_eq_left', Option.some.injEq, exists_eq_left, ne_eq, List.length_nil, List.length_cons, Option.toList_some, Option.toList_none, List.cons_append, List.nil_append, mj_wt_nil, mj_wt_i, mj_wt_r, mj_wt_l, true_and, and_true, false_and, and_false, true_implies, false_implies, implies_true, not_true_eq_false, not_false_eq_true, and_self, Int.reduceEq, Nat.reduceEqDiff, ↓reduceIte, mj_w_id2, e_145 h9b he h0, e_146 heA h0A, hs, nS, fA, eA, oA, hi1, Int.not_le, Int.not_lt, gt_iff_lt]
      try grind
    · by_cases c1 : q_sz1 (q_sttM M) 157 6 ≤ q_sz1 (q_sttM M) 157 7
      · clear ih
        simp (disch := omega) only [i_144_0, i_144_1, i_144_2, i_144_5, i_144_6, i_144_7, i_144_10, i_144_11, i_144_12, i_144_15, i_144_16, i_144_17, i_144_20, i_144_21, i_144_23, i_144_24, i_144_27, i_144_30, i_144_31, i_144_34, i_144_37, i_144_40, i_144_41, i_144_44, i_144_47, i_144_48, i_144_51, i_144_52, i_144_53, i_144_54, i_144_57, i_144_58, i_144_59, i_144_62, i_144_63, i_144_66, i_144_67, i_144_70, i_144_73, i_144_74, i_144_75, i_144_76, i_144_78, i_144_81, i_144_84, i_144_85, i_144_88, i_144_89, i_144_90, i_144_91, i_144_94, i_144_95, i_144_96, i_144_99, i_144_102, i_144_105, i_144_106, i_144_109, g_o157, g_r157_0, g_r157_1, g_r157_2, g_r157_3, g_r157_4, g_r157_5, g_a158, g_t158, g_a159, g_t159, g_a160, g_t160, g_a161, g_t161, g_a170, g_t170, exists_eq_left', Option.some.injEq, exists_eq_left, ne_eq, List.length_nil, List.length_cons, Option.toList_some, Option.toList_none, List.cons_append, List.nil_append, mj_wt_nil, mj_wt_i, mj_wt_r, mj_wt_l, true_and, and_true, false_and, and_false, true_implies, false_implies, implies_true, not_true_eq_false, not_false_eq_true, and_self, Int.reduceEq, Nat.reduceEqDiff, ↓reduceIte, mj_w_id2, e_145 h9b he h0, e_146 heA h0A, hs, c1, nS, fA, eA, oA, hi1, Int.not_le, Int.not_lt, gt_iff_lt]
        try grind
      · rcases q_nx_01 (M := q_sz1 (q_sttM M)) (c := 59) with c2 | ⟨c2, c3, c4⟩
        · clear ih
          simp (disch := omega) only [i_144_0, i_144_1, i_144_2, i_144_5, i_144_6, i_144_7, i_144_10, i_144_11, i_144_12, i_144_15, i_144_16, i_144_17, i_144_20, i_144_21, i_144_23, i_144_24, i_144_27, i_144_30, i_144_31, i_144_34, i_144_37, i_144_40, i_144_41, i_144_44, i_144_47, i_144_48, i_144_51, i_144_52, i_144_53, i_144_54, i_144_57, i_144_58, i_144_59, i_144_62, i_144_63, i_144_66, i_144_67, i_144_70, i_144_73, i_144_74, i_144_75, i_144_76, i_144_78, i_144_81, i_144_84, i_144_85, i_144_88, i_144_89, i_144_90, i_144_91, i_144_94, i_144_95, i_144_96, i_144_99, i_144_102, i_144_105, i_144_106, i_144_109, g_o157, g_r157_0, g_r157_1, g_r157_2, g_r157_3, g_r157_4, g_r157_5, g_a158, g_t158, g_a159, g_t159, g_a160, g_t160, g_a161, g_t161, g_a170, g_t170, exists_eq_left', Option.some.injEq, exists_eq_left, ne_eq, List.length_nil, List.length_cons, Option.toList_some, Option.toList_none, List.cons_append, List.nil_append, mj_wt_nil, mj_wt_i, mj_wt_r, mj_wt_l, true_and, and_true, false_and, and_false, true_implies, false_implies, implies_true, not_true_eq_false, not_false_eq_true, and_self, Int.reduceEq, Nat.reduceEqDiff, ↓reduceIte, mj_w_id2, e_145 h9b he h0, e_146 heA h0A, hs, c1, c2, nS, fA, eA, oA, hi1, Int.not_le, Int.not_lt, gt_iff_lt]
          try grind
        · have sp := q_sp_at1 c3
          have f1 : mj_up (q_sz1 (q_sttM M)) 157 7 (q_sttM M 157 7 + 1) = q_at1 (q_sz1 (q_sttM M)) := by unfold q_at1; rw [oA]
          have p1 : q_at1 (q_sz1 (q_sttM M)) 157 9 = M 157 9 + 1 := by rw [sp.2.1, nA]
          have p2 : q_at1 (q_sz1 (q_sttM M)) 157 6 = q_sttM M 157 6 := by rw [sp.1, eA]
          have p3 : q_at1 (q_sz1 (q_sttM M)) 157 7 = q_sttM M 157 7 + 1 := by unfold q_at1; simp [mj_up, oA]
          have i1 := ih (i + 1) (q_at1 (q_sz1 (q_sttM M))) (by omega) (by rw [p1]; push_cast; omega) (by rw [p3]; push_cast; omega) (by rw [p2, p3]; omega) (by rw [p2]; omega)
          push_cast at i1
          clear ih
          simp (disch := omega) only [i_144_0, i_144_1, i_144_2, i_144_5, i_144_6, i_144_7, i_144_10, i_144_11, i_144_12, i_144_15, i_144_16, i_144_17, i_144_20, i_144_21, i_144_23, i_144_24, i_144_27, i_144_30, i_144_31, i_144_34, i_144_37, i_144_40, i_144_41, i_144_44, i_144_47, i_144_48, i_144_51, i_144_52, i_144_53, i_144_54, i_144_57, i_144_58, i_144_59, i_144_62, i_144_63, i_144_66, i_144_67, i_144_70, i_144_73, i_144_74, i_144_75, i_144_76, i_144_78, i_144_81, i_144_84, i_144_85, i_144_88, i_144_89, i_144_90, i_144_91, i_144_94, i_144_95, i_144_96, i_144_99, i_144_102, i_144_105, i_144_106, i_144_109, g_o157, g_r157_0, g_r157_1, g_r157_2, g_r157_3, g_r157_4, g_r157_5, g_a158, g_t158, g_a159, g_t159, g_a160, g_t160, g_a161, g_t161, g_a170, g_t170, exists_eq_left', Option.some.injEq, exists_eq_left, ne_eq, List.length_nil, List.length_cons, Option.toList_some, Option.toList_none, List.cons_append, List.nil_append, mj_wt_nil, mj_wt_i, mj_wt_r, mj_wt_l, true_and, and_true, false_and, and_false, true_implies, false_implies, implies_true, not_true_eq_false, not_false_eq_true, and_self, Int.reduceEq, Nat.reduceEqDiff, ↓reduceIte, mj_w_id2, e_145 h9b he h0, e_146 heA h0A, hs, c1, c2, i1, nS, fA, f1, eA, oA, hi1, Int.not_le, Int.not_lt, gt_iff_lt]
          try grind [mj_w]
/-- the text is read -/
def q_pa0 (M : mj_M) (m : Int) : mj_M := mj_up (mj_up (mj_up M 157 6 m) 157 7 0) 157 9 0
def q_pa (M : mj_M) (m : Int) : Int := q_psR 161 (q_pa0 M m)
def q_paM (M : mj_M) (m : Int) : mj_M := q_psM 161 (q_pa0 M m)
theorem g_SG : ((SGx x).1, (SGx x).2.1, (SGx x).2.2.1, mj_upP (SGx x).2.2.2 157 5 170) = SGx 170 := by
  unfold SGx mj_upP
  simp only [Prod.mk.injEq, true_and]
  funext a j
  by_cases h1 : a = 157
  · by_cases h2 : j = 5
    · simp [h1, h2]
    · simp [h1, h2]
  · simp [h1]
theorem e_144 {m : Int} (hm : 0 ≤ m ∧ m ≤ 160) : mj_Rn (d + 5) 144 0 [.inr (.inl 157), .inr (.inl 170), .inl m, .inr (.inr 0)] [] (SGx x) M Q = Q (some (.inl (q_pa M m))) (SGx 170) (q_paM M m) := by
  have h := l_144 (d := d) (Q := Q) (v := .inr (.inl 170)) (w := .inl m) 161 0 (q_pa0 M m) rfl (by unfold q_pa0; simp [mj_up]) (by unfold q_pa0; simp [mj_up]) (by unfold q_pa0; simp [mj_up]; omega) (by unfold q_pa0; simp [mj_up]; omega)
  push_cast at h
  unfold q_pa q_paM
  rw [← h, i_144_0, i_144_1, i_144_2, g_SG]
  unfold q_pa0
  simp (disch := omega) only [i_144_0, i_144_1, i_144_2, i_144_5, i_144_6, i_144_7, i_144_10, i_144_11, i_144_12, i_144_15, i_144_16, i_144_17, i_144_20, i_144_21, i_144_23, i_144_24, i_144_27, i_144_30, i_144_31, i_144_34, i_144_37, i_144_40, i_144_41, i_144_44, i_144_47, i_144_48, i_144_51, i_144_52, i_144_53, i_144_54, i_144_57, i_144_58, i_144_59, i_144_62, i_144_63, i_144_66, i_144_67, i_144_70, i_144_73, i_144_74, i_144_75, i_144_76, i_144_78, i_144_81, i_144_84, i_144_85, i_144_88, i_144_89, i_144_90, i_144_91, i_144_94, i_144_95, i_144_96, i_144_99, i_144_102, i_144_105, i_144_106, i_144_109, g_o157, g_r157_0, g_r157_1, g_r157_2, g_r157_3, g_r157_4, g_r157_5, g_a158, g_t158, g_a159, g_t159, g_a160, g_t160, g_a161, g_t161, g_a170, g_t170, exists_eq_left', Option.some.injEq, exists_eq_left, ne_eq, List.length_nil, List.length_cons, Option.toList_some, Option.toList_none, List.cons_append, List.nil_append, mj_wt_nil, mj_wt_i, mj_wt_r, mj_wt_l, true_and, and_true, false_and, and_false, true_implies, false_implies, implies_true, not_true_eq_false, not_false_eq_true, and_self, Int.reduceEq, Nat.reduceEqDiff, ↓reduceIte, mj_w_id2, Int.reduceAdd]
  try grind
def q_wa (M : mj_M) : Int := if M 36 5 < 20 then 1 else 0
def q_waM (M : mj_M) (k a b r : Int) : mj_M := if M 36 5 < 20 then mj_up (mj_up (mj_up (mj_up (mj_up (mj_up M 37 (M 36 5).toNat k) 38 (M 36 5).toNat a) 39 (M 36 5).toNat b) 40 (M 36 5).toNat r) 41 (M 36 5).toNat 0) 36 5 (M 36 5 + 1) else M
theorem e_155 (w : q_wr M) {k a b r : Int} : mj_Rn d 155 0 [.inr (.inl 36), .inl k, .inl a, .inl b, .inl r] [] (SGx x) M Q = Q (some (.inl (q_wa M))) (SGx x) (q_waM M k a b r) := by
  have hs := q_w36_5 w
  unfold q_wa q_waM
  by_cases h : M 36 5 < 20
  · simp (disch := omega) only [i_155_0, i_155_1, i_155_4, i_155_6, i_155_9, i_155_10, i_155_11, i_155_12, i_155_15, i_155_16, i_155_19, i_155_20, i_155_21, i_155_22, i_155_25, i_155_26, i_155_29, i_155_30, i_155_31, i_155_32, i_155_35, i_155_36, i_155_39, i_155_40, i_155_41, i_155_42, i_155_45, i_155_46, i_155_49, i_155_51, i_155_52, i_155_53, i_155_56, i_155_57, i_155_60, i_155_61, i_155_62, i_155_63, i_155_64, i_155_67, i_155_68, i_155_69, i_155_72, i_155_73, g_o36, g_r36_0, g_r36_1, g_r36_2, g_r36_3, g_r36_4, g_a37, g_t37, g_a38, g_t38, g_a39, g_t39, g_a40, g_t40, g_a41, g_t41, exists_eq_left', Option.some.injEq, exists_eq_left, ne_eq, List.length_nil, List.length_cons, Option.toList_some, Option.toList_none, List.cons_append, List.nil_append, mj_wt_nil, mj_wt_i, mj_wt_r, mj_wt_l, true_and, and_true, false_and, and_false, true_implies, false_implies, implies_true, not_true_eq_false, not_false_eq_true, and_self, Int.reduceEq, Nat.reduceEqDiff, ↓reduceIte, mj_w_id2, mj_up_ne, h, Int.not_lt, if_true, if_false]
    try grind
  · simp (disch := omega) only [i_155_0, i_155_1, i_155_4, i_155_6, i_155_9, i_155_10, i_155_11, i_155_12, i_155_15, i_155_16, i_155_19, i_155_20, i_155_21, i_155_22, i_155_25, i_155_26, i_155_29, i_155_30, i_155_31, i_155_32, i_155_35, i_155_36, i_155_39, i_155_40, i_155_41, i_155_42, i_155_45, i_155_46, i_155_49, i_155_51, i_155_52, i_155_53, i_155_56, i_155_57, i_155_60, i_155_61, i_155_62, i_155_63, i_155_64, i_155_67, i_155_68, i_155_69, i_155_72, i_155_73, g_o36, g_r36_0, g_r36_1, g_r36_2, g_r36_3, g_r36_4, g_a37, g_t37, g_a38, g_t38, g_a39, g_t39, g_a40, g_t40, g_a41, g_t41, exists_eq_left', Option.some.injEq, exists_eq_left, ne_eq, List.length_nil, List.length_cons, Option.toList_some, Option.toList_none, List.cons_append, List.nil_append, mj_wt_nil, mj_wt_i, mj_wt_r, mj_wt_l, true_and, and_true, false_and, and_false, true_implies, false_implies, implies_true, not_true_eq_false, not_false_eq_true, and_self, Int.reduceEq, Nat.reduceEqDiff, ↓reduceIte, mj_w_id2, mj_up_ne, h, Int.not_lt, if_true, if_false]
    try grind
def q_sl (M : mj_M) (b : Int) (n t : Nat) : Int := q_fst (fun s => decide (q_ta M b (s : Int) = -1)) n t
theorem q_sl_s {b : Int} {n t : Nat} : q_sl M b (n + 1) t = if q_ta M b (t : Int) = -1 then (t : Int) else q_sl M b n (t + 1) := by
  unfold q_sl; rw [q_fst]; simp only [decide_eq_true_eq]
def q_gsR (M : mj_M) (b s : Int) : Int := if s ≠ -1 ∧ q_can M b s = 1 then 1 else 0
def q_gsM (M : mj_M) (b s y r : Int) : mj_M := if s ≠ -1 ∧ q_can M b s = 1 then q_put M 0 y r (-1) b s (-1) else M
theorem q_can_01 {b s : Int} : q_can M b s = 0 ∨ (q_can M b s = 1 ∧ q_ff M 3 120 0 ≠ -1) := by unfold q_can; grind
theorem l_154 {v : mj_V} {i : Nat} (hi : i < 160) (n : Nat) : ∀ (t : Nat), t + n = 10 → mj_Rn (d + 2) 154 111 [.inr (.inl 157), .inl (i : Int), v, .inl (t : Int)] [] (SGx x) M Q = Q (some (.inl (q_gsR M (M 159 i) (q_sl M (M 159 i) n t)))) (SGx x) (q_gsM M (M 159 i) (q_sl M (M 159 i) n t) (M 160 i) (M 161 i)) := by
  induction n with
  | zero =>
    intro t h
    rw [i_154_111]
    have e : q_sl M (M 159 i) 0 t = -1 := rfl
    unfold q_gsR q_gsM
    simp (disch := omega) only [i_154_0, i_154_1, i_154_4, i_154_5, i_154_6, i_154_7, i_154_10, i_154_11, i_154_14, i_154_15, i_154_18, i_154_19, i_154_20, i_154_23, i_154_26, i_154_27, i_154_30, i_154_33, i_154_34, i_154_37, i_154_38, i_154_39, i_154_42, i_154_43, i_154_44, i_154_47, i_154_48, i_154_51, i_154_52, i_154_53, i_154_56, i_154_59, i_154_60, i_154_63, i_154_64, i_154_65, i_154_66, i_154_69, i_154_70, i_154_71, i_154_74, i_154_75, i_154_78, i_154_81, i_154_82, i_154_85, i_154_86, i_154_87, i_154_88, i_154_91, i_154_92, i_154_93, i_154_94, i_154_97, i_154_98, i_154_99, i_154_100, i_154_103, i_154_104, i_154_105, i_154_108, i_154_109, i_154_110, i_154_112, i_154_114, i_154_117, i_154_118, i_154_121, i_154_122, i_154_125, i_154_126, i_154_127, i_154_128, i_154_131, i_154_132, i_154_135, i_154_136, i_154_139, i_154_140, i_154_141, i_154_144, i_154_145, i_154_146, i_154_147, i_154_150, i_154_151, i_154_152, i_154_153, i_154_154, i_154_157, i_154_158, i_154_159, i_154_160, i_154_161, i_154_164, i_154_165, i_154_168, i_154_169, i_154_172, i_154_173, i_154_174, i_154_177, i_154_180, i_154_181, g_o157, g_r157_0, g_r157_1, g_r157_2, g_r157_3, g_r157_4, g_r157_5, g_a158, g_t158, g_a159, g_t159, g_a160, g_t160, g_a161, g_t161, g_a170, g_t170, g_o1, g_r1_0, g_r1_1, g_r1_2, g_r1_3, g_r1_4, g_r1_5, g_a42, g_t42, g_a43, g_t43, g_o2, g_r2_0, g_r2_1, g_r2_2, g_r2_3, g_r2_4, g_r2_5, g_r2_6, g_r2_7, g_r2_8, g_r2_9, g_o13, g_r13_0, g_r13_1, g_r13_2, g_r13_3, g_r13_4, g_r13_5, g_r13_6, g_r13_7, g_o36, g_r36_0, g_r36_1, g_r36_2, g_r36_3, g_r36_4, exists_eq_left', Option.some.injEq, exists_eq_left, ne_eq, List.length_nil, List.length_cons, Option.toList_some, Option.toList_none, List.cons_append, List.nil_append, mj_wt_nil, mj_wt_i, mj_wt_r, mj_wt_l, true_and, and_true, false_and, and_false, true_implies, false_implies, implies_true, not_true_eq_false, not_false_eq_true, and_self, Int.reduceEq, Nat.reduceEqDiff, ↓reduceIte, mj_w_id2, e_24, e, e_15, if_true, if_false, Int.toNat_natCast]
    try grind
  | succ n ih =>
    intro t h
    have i1 := ih (t + 1) (by omega)
    push_cast at i1
    clear ih
    rw [i_154_111, q_sl_s]
    by_cases hta : q_ta M (M 159 i) (t : Int) = -1
    · have ht1 : ¬ (t : Int) = -1 := by omega
      unfold q_gsR q_gsM
      rcases q_can_01 (M := M) (b := M 159 i) (s := (t : Int)) with hc | ⟨hc, hc2⟩
      · simp (disch := omega) only [i_154_0, i_154_1, i_154_4, i_154_5, i_154_6, i_154_7, i_154_10, i_154_11, i_154_14, i_154_15, i_154_18, i_154_19, i_154_20, i_154_23, i_154_26, i_154_27, i_154_30, i_154_33, i_154_34, i_154_37, i_154_38, i_154_39, i_154_42, i_154_43, i_154_44, i_154_47, i_154_48, i_154_51, i_154_52, i_154_53, i_154_56, i_154_59, i_154_60, i_154_63, i_154_64, i_154_65, i_154_66, i_154_69, i_154_70, i_154_71, i_154_74, i_154_75, i_154_78, i_154_81, i_154_82, i_154_85, i_154_86, i_154_87, i_154_88, i_154_91, i_154_92, i_154_93, i_154_94, i_154_97, i_154_98, i_154_99, i_154_100, i_154_103, i_154_104, i_154_105, i_154_108, i_154_109, i_154_110, i_154_112, i_154_114, i_154_117, i_154_118, i_154_121, i_154_122, i_154_125, i_154_126, i_154_127, i_154_128, i_154_131, i_154_132, i_154_135, i_154_136, i_154_139, i_154_140, i_154_141, i_154_144, i_154_145, i_154_146, i_154_147, i_154_150, i_154_151, i_154_152, i_154_153, i_154_154, i_154_157, i_154_158, i_154_159, i_154_160, i_154_161, i_154_164, i_154_165, i_154_168, i_154_169, i_154_172, i_154_173, i_154_174, i_154_177, i_154_180, i_154_181, g_o157, g_r157_0, g_r157_1, g_r157_2, g_r157_3, g_r157_4, g_r157_5, g_a158, g_t158, g_a159, g_t159, g_a160, g_t160, g_a161, g_t161, g_a170, g_t170, g_o1, g_r1_0, g_r1_1, g_r1_2, g_r1_3, g_r1_4, g_r1_5, g_a42, g_t42, g_a43, g_t43, g_o2, g_r2_0, g_r2_1, g_r2_2, g_r2_3, g_r2_4, g_r2_5, g_r2_6, g_r2_7, g_r2_8, g_r2_9, g_o13, g_r13_0, g_r13_1, g_r13_2, g_r13_3, g_r13_4, g_r13_5, g_r13_6, g_r13_7, g_o36, g_r36_0, g_r36_1, g_r36_2, g_r36_3, g_r36_4, exists_eq_left', Option.some.injEq, exists_eq_left, ne_eq, List.length_nil, List.length_cons, Option.toList_some, Option.toList_none, List.cons_append, List.nil_append, mj_wt_nil, mj_wt_i, mj_wt_r, mj_wt_l, true_and, and_true, false_and, and_false, true_implies, false_implies, implies_true, not_true_eq_false, not_false_eq_true, and_self, Int.reduceEq, Nat.reduceEqDiff, ↓reduceIte, mj_w_id2, e_24, hta, ht1, hc, e_15, i1, if_true, if_false, Int.toNat_natCast]
        try grind [mj_w]
      · simp (disch := omega) only [i_154_0, i_154_1, i_154_4, i_154_5, i_154_6, i_154_7, i_154_10, i_154_11, i_154_14, i_154_15, i_154_18, i_154_19, i_154_20, i_154_23, i_154_26, i_154_27, i_154_30, i_154_33, i_154_34, i_154_37, i_154_38, i_154_39, i_154_42, i_154_43, i_154_44, i_154_47, i_154_48, i_154_51, i_154_52, i_154_53, i_154_56, i_154_59, i_154_60, i_154_63, i_154_64, i_154_65, i_154_66, i_154_69, i_154_70, i_154_71, i_154_74, i_154_75, i_154_78, i_154_81, i_154_82, i_154_85, i_154_86, i_154_87, i_154_88, i_154_91, i_154_92, i_154_93, i_154_94, i_154_97, i_154_98, i_154_99, i_154_100, i_154_103, i_154_104, i_154_105, i_154_108, i_154_109, i_154_110, i_154_112, i_154_114, i_154_117, i_154_118, i_154_121, i_154_122, i_154_125, i_154_126, i_154_127, i_154_128, i_154_131, i_154_132, i_154_135, i_154_136, i_154_139, i_154_140, i_154_141, i_154_144, i_154_145, i_154_146, i_154_147, i_154_150, i_154_151, i_154_152, i_154_153, i_154_154, i_154_157, i_154_158, i_154_159, i_154_160, i_154_161, i_154_164, i_154_165, i_154_168, i_154_169, i_154_172, i_154_173, i_154_174, i_154_177, i_154_180, i_154_181, g_o157, g_r157_0, g_r157_1, g_r157_2, g_r157_3, g_r157_4, g_r157_5, g_a158, g_t158, g_a159, g_t159, g_a160, g_t160, g_a161, g_t161, g_a170, g_t170, g_o1, g_r1_0, g_r1_1, g_r1_2, g_r1_3, g_r1_4, g_r1_5, g_a42, g_t42, g_a43, g_t43, g_o2, g_r2_0, g_r2_1, g_r2_2, g_r2_3, g_r2_4, g_r2_5, g_r2_6, g_r2_7, g_r2_8, g_r2_9, g_o13, g_r13_0, g_r13_1, g_r13_2, g_r13_3, g_r13_4, g_r13_5, g_r13_6, g_r13_7, g_o36, g_r36_0, g_r36_1, g_r36_2, g_r36_3, g_r36_4, exists_eq_left', Option.some.injEq, exists_eq_left, ne_eq, List.length_nil, List.length_cons, Option.toList_some, Option.toList_none, List.cons_append, List.nil_append, mj_wt_nil, mj_wt_i, mj_wt_r, mj_wt_l, true_and, and_true, false_and, and_false, true_implies, false_implies, implies_true, not_true_eq_false, not_false_eq_true, and_self, Int.reduceEq, Nat.reduceEqDiff, ↓reduceIte, mj_w_id2, e_24, hta, ht1, hc, hc2, e_15, i1, if_true, if_false, Int.toNat_natCast]
        try grind [mj_w]
    · simp (disch := omega) only [i_154_0, i_154_1, i_154_4, i_154_5, i_154_6, i_154_7, i_154_10, i_154_11, i_154_14, i_154_15, i_154_18, i_154_19, i_154_20, i_154_23, i_154_26, i_154_27, i_154_30, i_154_33, i_154_34, i_154_37, i_154_38, i_154_39, i_154_42, i_154_43, i_154_44, i_154_47, i_154_48, i_154_51, i_154_52, i_154_53, i_154_56, i_154_59, i_154_60, i_154_63, i_154_64, i_154_65, i_154_66, i_154_69, i_154_70, i_154_71, i_154_74, i_154_75, i_154_78, i_154_81, i_154_82, i_154_85, i_154_86, i_154_87, i_154_88, i_154_91, i_154_92, i_154_93, i_154_94, i_154_97, i_154_98, i_154_99, i_154_100, i_154_103, i_154_104, i_154_105, i_154_108, i_154_109, i_154_110, i_154_112, i_154_114, i_154_117, i_154_118, i_154_121, i_154_122, i_154_125, i_154_126, i_154_127, i_154_128, i_154_131, i_154_132, i_154_135, i_154_136, i_154_139, i_154_140, i_154_141, i_154_144, i_154_145, i_154_146, i_154_147, i_154_150, i_154_151, i_154_152, i_154_153, i_154_154, i_154_157, i_154_158, i_154_159, i_154_160, i_154_161, i_154_164, i_154_165, i_154_168, i_154_169, i_154_172, i_154_173, i_154_174, i_154_177, i_154_180, i_154_181, g_o157, g_r157_0, g_r157_1, g_r157_2, g_r157_3, g_r157_4, g_r157_5, g_a158, g_t158, g_a159, g_t159, g_a160, g_t160, g_a161, g_t161, g_a170, g_t170, g_o1, g_r1_0, g_r1_1, g_r1_2, g_r1_3, g_r1_4, g_r1_5, g_a42, g_t42, g_a43, g_t43, g_o2, g_r2_0, g_r2_1, g_r2_2, g_r2_3, g_r2_4, g_r2_5, g_r2_6, g_r2_7, g_r2_8, g_r2_9, g_o13, g_r13_0, g_r13_1, g_r13_2, g_r13_3, g_r13_4, g_r13_5, g_r13_6, g_r13_7, g_o36, g_r36_0, g_r36_1, g_r36_2, g_r36_3, g_r36_4, exists_eq_left', Option.some.injEq, exists_eq_left, ne_eq, List.length_nil, List.length_cons, Option.toList_some, Option.toList_none, List.cons_append, List.nil_append, mj_wt_nil, mj_wt_i, mj_wt_r, mj_wt_l, true_and, and_true, false_and, and_false, true_implies, false_implies, implies_true, not_true_eq_false, not_false_eq_true, and_self, Int.reduceEq, Nat.reduceEqDiff, ↓reduceIte, mj_w_id2, e_24, hta, e_15, i1, if_true, if_false, Int.toNat_natCast]
      try grind [mj_w]
def q_sec (M : mj_M) (i : Nat) : Int := if M 158 i = 2 then q_of M (M 160 i) 1 else q_tht M (M 160 i)
def q_po (M : mj_M) (i : Nat) : Int := if q_of M (M 159 i) 1 = 1 ∧ q_sec M i = 1 then (if M 158 i = 0 then q_gsR M (M 159 i) (q_sl M (M 159 i) 10 0) else q_wa M) else 0
def q_poM (M : mj_M) (i : Nat) : mj_M := if q_of M (M 159 i) 1 = 1 ∧ q_sec M i = 1 then (if M 158 i = 0 then q_gsM M (M 159 i) (q_sl M (M 159 i) 10 0) (M 160 i) (M 161 i) else q_waM M (M 158 i) (M 159 i) (M 160 i) (M 161 i)) else M
theorem q_tht_01 {t : Int} : q_tht M t = 0 ∨ (q_tht M t = 1 ∧ 0 ≤ t ∧ t < 40) := by grind [q_tht]
theorem q_sec_01 {i : Nat} : q_sec M i = 0 ∨ (q_sec M i = 1 ∧ 0 ≤ M 160 i ∧ M 160 i < 40) := by
  unfold q_sec
  split
  · exact q_of_01
  · exact q_tht_01
theorem e_154 (w : q_wr M) {i : Nat} (hi : i < 160) : mj_Rn (d + 2) 154 0 [.inr (.inl 157), .inl (i : Int), .inr (.inr 0), .inr (.inr 0)] [] (SGx x) M Q = Q (some (.inl (q_po M i))) (SGx x) (q_poM M i) := by
  have hh : ∀ v, mj_Rn (d + 2) 154 111 [.inr (.inl 157), .inl (i : Int), v, .inl 0] [] (SGx x) M Q = Q (some (.inl (q_gsR M (M 159 i) (q_sl M (M 159 i) 10 0)))) (SGx x) (q_gsM M (M 159 i) (q_sl M (M 159 i) 10 0) (M 160 i) (M 161 i)) := fun v => l_154 (d := d) (x := x) (Q := Q) (M := M) (v := v) hi 10 0 rfl
  have hsec : q_sec M i = if M 158 i = 2 then q_of M (M 160 i) 1 else q_tht M (M 160 i) := rfl
  have hwa : q_wa M = 0 ∨ q_wa M = 1 := by unfold q_wa; split <;> simp
  have hgs : q_gsR M (M 159 i) (q_sl M (M 159 i) 10 0) = 0 ∨ q_gsR M (M 159 i) (q_sl M (M 159 i) 10 0) = 1 := by unfold q_gsR; split <;> simp
  have hwa2 : 0 ≤ q_wa M ∧ q_wa M ≤ 1 := by omega
  have hgs2 : 0 ≤ q_gsR M (M 159 i) (q_sl M (M 159 i) 10 0) ∧ q_gsR M (M 159 i) (q_sl M (M 159 i) 10 0) ≤ 1 := by omega
  clear hwa hgs
  unfold q_po q_poM
  rcases q_of_01 (M := M) (t := M 159 i) (v := 1) with c1 | ⟨c1, _⟩
  · by_cases k2 : M 158 i = 2
    · simp (disch := omega) only [i_154_0, i_154_1, i_154_4, i_154_5, i_154_6, i_154_7, i_154_10, i_154_11, i_154_14, i_154_15, i_154_18, i_154_19, i_154_20, i_154_23, i_154_26, i_154_27, i_154_30, i_154_33, i_154_34, i_154_37, i_154_38, i_154_39, i_154_42, i_154_43, i_154_44, i_154_47, i_154_48, i_154_51, i_154_52, i_154_53, i_154_56, i_154_59, i_154_60, i_154_63, i_154_64, i_154_65, i_154_66, i_154_69, i_154_70, i_154_71, i_154_74, i_154_75, i_154_78, i_154_81, i_154_82, i_154_85, i_154_86, i_154_87, i_154_88, i_154_91, i_154_92, i_154_93, i_154_94, i_154_97, i_154_98, i_154_99, i_154_100, i_154_103, i_154_104, i_154_105, i_154_108, i_154_109, i_154_110, i_154_112, i_154_114, i_154_117, i_154_118, i_154_121, i_154_122, i_154_125, i_154_126, i_154_127, i_154_128, i_154_131, i_154_132, i_154_135, i_154_136, i_154_139, i_154_140, i_154_141, i_154_144, i_154_145, i_154_146, i_154_147, i_154_150, i_154_151, i_154_152, i_154_153, i_154_154, i_154_157, i_154_158, i_154_159, i_154_160, i_154_161, i_154_164, i_154_165, i_154_168, i_154_169, i_154_172, i_154_173, i_154_174, i_154_177, i_154_180, i_154_181, g_o157, g_r157_0, g_r157_1, g_r157_2, g_r157_3, g_r157_4, g_r157_5, g_a158, g_t158, g_a159, g_t159, g_a160, g_t160, g_a161, g_t161, g_a170, g_t170, g_o1, g_r1_0, g_r1_1, g_r1_2, g_r1_3, g_r1_4, g_r1_5, g_a42, g_t42, g_a43, g_t43, g_o2, g_r2_0, g_r2_1, g_r2_2, g_r2_3, g_r2_4, g_r2_5, g_r2_6, g_r2_7, g_r2_8, g_r2_9, g_o13, g_r13_0, g_r13_1, g_r13_2, g_r13_3, g_r13_4, g_r13_5, g_r13_6, g_r13_7, g_o36, g_r36_0, g_r36_1, g_r36_2, g_r36_3, g_r36_4, exists_eq_left', Option.some.injEq, exists_eq_left, ne_eq, List.length_nil, List.length_cons, Option.toList_some, Option.toList_none, List.cons_append, List.nil_append, mj_wt_nil, mj_wt_i, mj_wt_r, mj_wt_l, true_and, and_true, false_and, and_false, true_implies, false_implies, implies_true, not_true_eq_false, not_false_eq_true, and_self, Int.reduceEq, Nat.reduceEqDiff, ↓reduceIte, mj_w_id2, e_19, e_67, e_155 w, hh, hsec, hwa2, hgs2, c1, k2, if_true, if_false, Int.toNat_natCast]
      try grind
    · simp (disch := omega) only [i_154_0, i_154_1, i_154_4, i_154_5, i_154_6, i_154_7, i_154_10, i_154_11, i_154_14, i_154_15, i_154_18, i_154_19, i_154_20, i_154_23, i_154_26, i_154_27, i_154_30, i_154_33, i_154_34, i_154_37, i_154_38, i_154_39, i_154_42, i_154_43, i_154_44, i_154_47, i_154_48, i_154_51, i_154_52, i_154_53, i_154_56, i_154_59, i_154_60, i_154_63, i_154_64, i_154_65, i_154_66, i_154_69, i_154_70, i_154_71, i_154_74, i_154_75, i_154_78, i_154_81, i_154_82, i_154_85, i_154_86, i_154_87, i_154_88, i_154_91, i_154_92, i_154_93, i_154_94, i_154_97, i_154_98, i_154_99, i_154_100, i_154_103, i_154_104, i_154_105, i_154_108, i_154_109, i_154_110, i_154_112, i_154_114, i_154_117, i_154_118, i_154_121, i_154_122, i_154_125, i_154_126, i_154_127, i_154_128, i_154_131, i_154_132, i_154_135, i_154_136, i_154_139, i_154_140, i_154_141, i_154_144, i_154_145, i_154_146, i_154_147, i_154_150, i_154_151, i_154_152, i_154_153, i_154_154, i_154_157, i_154_158, i_154_159, i_154_160, i_154_161, i_154_164, i_154_165, i_154_168, i_154_169, i_154_172, i_154_173, i_154_174, i_154_177, i_154_180, i_154_181, g_o157, g_r157_0, g_r157_1, g_r157_2, g_r157_3, g_r157_4, g_r157_5, g_a158, g_t158, g_a159, g_t159, g_a160, g_t160, g_a161, g_t161, g_a170, g_t170, g_o1, g_r1_0, g_r1_1, g_r1_2, g_r1_3, g_r1_4, g_r1_5, g_a42, g_t42, g_a43, g_t43, g_o2, g_r2_0, g_r2_1, g_r2_2, g_r2_3, g_r2_4, g_r2_5, g_r2_6, g_r2_7, g_r2_8, g_r2_9, g_o13, g_r13_0, g_r13_1, g_r13_2, g_r13_3, g_r13_4, g_r13_5, g_r13_6, g_r13_7, g_o36, g_r36_0, g_r36_1, g_r36_2, g_r36_3, g_r36_4, exists_eq_left', Option.some.injEq, exists_eq_left, ne_eq, List.length_nil, List.length_cons, Option.toList_some, Option.toList_none, List.cons_append, List.nil_append, mj_wt_nil, mj_wt_i, mj_wt_r, mj_wt_l, true_and, and_true, false_and, and_false, true_implies, false_implies, implies_true, not_true_eq_false, not_false_eq_true, and_self, Int.reduceEq, Nat.reduceEqDiff, ↓reduceIte, mj_w_id2, e_19, e_67, e_155 w, hh, hsec, hwa2, hgs2, c1, k2, if_true, if_false, Int.toNat_natCast]
      try grind
  · by_cases k2 : M 158 i = 2
    · have k0 : ¬ M 158 i = 0 := by omega
      rw [if_pos k2] at hsec
      rcases q_of_01 (M := M) (t := M 160 i) (v := 1) with c2 | ⟨c2, _⟩
      · simp (disch := omega) only [i_154_0, i_154_1, i_154_4, i_154_5, i_154_6, i_154_7, i_154_10, i_154_11, i_154_14, i_154_15, i_154_18, i_154_19, i_154_20, i_154_23, i_154_26, i_154_27, i_154_30, i_154_33, i_154_34, i_154_37, i_154_38, i_154_39, i_154_42, i_154_43, i_154_44, i_154_47, i_154_48, i_154_51, i_154_52, i_154_53, i_154_56, i_154_59, i_154_60, i_154_63, i_154_64, i_154_65, i_154_66, i_154_69, i_154_70, i_154_71, i_154_74, i_154_75, i_154_78, i_154_81, i_154_82, i_154_85, i_154_86, i_154_87, i_154_88, i_154_91, i_154_92, i_154_93, i_154_94, i_154_97, i_154_98, i_154_99, i_154_100, i_154_103, i_154_104, i_154_105, i_154_108, i_154_109, i_154_110, i_154_112, i_154_114, i_154_117, i_154_118, i_154_121, i_154_122, i_154_125, i_154_126, i_154_127, i_154_128, i_154_131, i_154_132, i_154_135, i_154_136, i_154_139, i_154_140, i_154_141, i_154_144, i_154_145, i_154_146, i_154_147, i_154_150, i_154_151, i_154_152, i_154_153, i_154_154, i_154_157, i_154_158, i_154_159, i_154_160, i_154_161, i_154_164, i_154_165, i_154_168, i_154_169, i_154_172, i_154_173, i_154_174, i_154_177, i_154_180, i_154_181, g_o157, g_r157_0, g_r157_1, g_r157_2, g_r157_3, g_r157_4, g_r157_5, g_a158, g_t158, g_a159, g_t159, g_a160, g_t160, g_a161, g_t161, g_a170, g_t170, g_o1, g_r1_0, g_r1_1, g_r1_2, g_r1_3, g_r1_4, g_r1_5, g_a42, g_t42, g_a43, g_t43, g_o2, g_r2_0, g_r2_1, g_r2_2, g_r2_3, g_r2_4, g_r2_5, g_r2_6, g_r2_7, g_r2_8, g_r2_9, g_o13, g_r13_0, g_r13_1, g_r13_2, g_r13_3, g_r13_4, g_r13_5, g_r13_6, g_r13_7, g_o36, g_r36_0, g_r36_1, g_r36_2, g_r36_3, g_r36_4, exists_eq_left', Option.some.injEq, exists_eq_left, ne_eq, List.length_nil, List.length_cons, Option.toList_some, Option.toList_none, List.cons_append, List.nil_append, mj_wt_nil, mj_wt_i, mj_wt_r, mj_wt_l, true_and, and_true, false_and, and_false, true_implies, false_implies, implies_true, not_true_eq_false, not_false_eq_true, and_self, Int.reduceEq, Nat.reduceEqDiff, ↓reduceIte, mj_w_id2, e_19, e_67, e_155 w, hh, hsec, hwa2, hgs2, c1, c2, k0, k2, if_true, if_false, Int.toNat_natCast]
        try grind
      · simp (disch := omega) only [i_154_0, i_154_1, i_154_4, i_154_5, i_154_6, i_154_7, i_154_10, i_154_11, i_154_14, i_154_15, i_154_18, i_154_19, i_154_20, i_154_23, i_154_26, i_154_27, i_154_30, i_154_33, i_154_34, i_154_37, i_154_38, i_154_39, i_154_42, i_154_43, i_154_44, i_154_47, i_154_48, i_154_51, i_154_52, i_154_53, i_154_56, i_154_59, i_154_60, i_154_63, i_154_64, i_154_65, i_154_66, i_154_69, i_154_70, i_154_71, i_154_74, i_154_75, i_154_78, i_154_81, i_154_82, i_154_85, i_154_86, i_154_87, i_154_88, i_154_91, i_154_92, i_154_93, i_154_94, i_154_97, i_154_98, i_154_99, i_154_100, i_154_103, i_154_104, i_154_105, i_154_108, i_154_109, i_154_110, i_154_112, i_154_114, i_154_117, i_154_118, i_154_121, i_154_122, i_154_125, i_154_126, i_154_127, i_154_128, i_154_131, i_154_132, i_154_135, i_154_136, i_154_139, i_154_140, i_154_141, i_154_144, i_154_145, i_154_146, i_154_147, i_154_150, i_154_151, i_154_152, i_154_153, i_154_154, i_154_157, i_154_158, i_154_159, i_154_160, i_154_161, i_154_164, i_154_165, i_154_168, i_154_169, i_154_172, i_154_173, i_154_174, i_154_177, i_154_180, i_154_181, g_o157, g_r157_0, g_r157_1, g_r157_2, g_r157_3, g_r157_4, g_r157_5, g_a158, g_t158, g_a159, g_t159, g_a160, g_t160, g_a161, g_t161, g_a170, g_t170, g_o1, g_r1_0, g_r1_1, g_r1_2, g_r1_3, g_r1_4, g_r1_5, g_a42, g_t42, g_a43, g_t43, g_o2, g_r2_0, g_r2_1, g_r2_2, g_r2_3, g_r2_4, g_r2_5, g_r2_6, g_r2_7, g_r2_8, g_r2_9, g_o13, g_r13_0, g_r13_1, g_r13_2, g_r13_3, g_r13_4, g_r13_5, g_r13_6, g_r13_7, g_o36, g_r36_0, g_r36_1, g_r36_2, g_r36_3, g_r36_4, exists_eq_left', Option.some.injEq, exists_eq_left, ne_eq, List.length_nil, List.length_cons, Option.toList_some, Option.toList_none, List.cons_append, List.nil_append, mj_wt_nil, mj_wt_i, mj_wt_r, mj_wt_l, true_and, and_true, false_and, and_false, true_implies, false_implies, implies_true, not_true_eq_false, not_false_eq_true, and_self, Int.reduceEq, Nat.reduceEqDiff, ↓reduceIte, mj_w_id2, e_19, e_67, e_155 w, hh, hsec, hwa2, hgs2, c1, c2, k0, k2, if_true, if_false, Int.toNat_natCast]
        try grind
    · rw [if_neg k2] at hsec
      rcases q_tht_01 (M := M) (t := M 160 i) with c2 | ⟨c2, _⟩
      · simp (disch := omega) only [i_154_0, i_154_1, i_154_4, i_154_5, i_154_6, i_154_7, i_154_10, i_154_11, i_154_14, i_154_15, i_154_18, i_154_19, i_154_20, i_154_23, i_154_26, i_154_27, i_154_30, i_154_33, i_154_34, i_154_37, i_154_38, i_154_39, i_154_42, i_154_43, i_154_44, i_154_47, i_154_48, i_154_51, i_154_52, i_154_53, i_154_56, i_154_59, i_154_60, i_154_63, i_154_64, i_154_65, i_154_66, i_154_69, i_154_70, i_154_71, i_154_74, i_154_75, i_154_78, i_154_81, i_154_82, i_154_85, i_154_86, i_154_87, i_154_88, i_154_91, i_154_92, i_154_93, i_154_94, i_154_97, i_154_98, i_154_99, i_154_100, i_154_103, i_154_104, i_154_105, i_154_108, i_154_109, i_154_110, i_154_112, i_154_114, i_154_117, i_154_118, i_154_121, i_154_122, i_154_125, i_154_126, i_154_127, i_154_128, i_154_131, i_154_132, i_154_135, i_154_136, i_154_139, i_154_140, i_154_141, i_154_144, i_154_145, i_154_146, i_154_147, i_154_150, i_154_151, i_154_152, i_154_153, i_154_154, i_154_157, i_154_158, i_154_159, i_154_160, i_154_161, i_154_164, i_154_165, i_154_168, i_154_169, i_154_172, i_154_173, i_154_174, i_154_177, i_154_180, i_154_181, g_o157, g_r157_0, g_r157_1, g_r157_2, g_r157_3, g_r157_4, g_r157_5, g_a158, g_t158, g_a159, g_t159, g_a160, g_t160, g_a161, g_t161, g_a170, g_t170, g_o1, g_r1_0, g_r1_1, g_r1_2, g_r1_3, g_r1_4, g_r1_5, g_a42, g_t42, g_a43, g_t43, g_o2, g_r2_0, g_r2_1, g_r2_2, g_r2_3, g_r2_4, g_r2_5, g_r2_6, g_r2_7, g_r2_8, g_r2_9, g_o13, g_r13_0, g_r13_1, g_r13_2, g_r13_3, g_r13_4, g_r13_5, g_r13_6, g_r13_7, g_o36, g_r36_0, g_r36_1, g_r36_2, g_r36_3, g_r36_4, exists_eq_left', Option.some.injEq, exists_eq_left, ne_eq, List.length_nil, List.length_cons, Option.toList_some, Option.toList_none, List.cons_append, List.nil_append, mj_wt_nil, mj_wt_i, mj_wt_r, mj_wt_l, true_and, and_true, false_and, and_false, true_implies, false_implies, implies_true, not_true_eq_false, not_false_eq_true, and_self, Int.reduceEq, Nat.reduceEqDiff, ↓reduceIte, mj_w_id2, e_19, e_67, e_155 w, hh, hsec, hwa2, hgs2, c1, c2, k2, if_true, if_false, Int.toNat_natCast]
        try grind
      · by_cases k0 : M 158 i = 0
        · simp (disch := omega) only [i_154_0, i_154_1, i_154_4, i_154_5, i_154_6, i_154_7, i_154_10, i_154_11, i_154_14, i_154_15, i_154_18, i_154_19, i_154_20, i_154_23, i_154_26, i_154_27, i_154_30, i_154_33, i_154_34, i_154_37, i_154_38, i_154_39, i_154_42, i_154_43, i_154_44, i_154_47, i_154_48, i_154_51, i_154_52, i_154_53, i_154_56, i_154_59, i_154_60, i_154_63, i_154_64, i_154_65, i_154_66, i_154_69, i_154_70, i_154_71, i_154_74, i_154_75, i_154_78, i_154_81, i_154_82, i_154_85, i_154_86, i_154_87, i_154_88, i_154_91, i_154_92, i_154_93, i_154_94, i_154_97, i_154_98, i_154_99, i_154_100, i_154_103, i_154_104, i_154_105, i_154_108, i_154_109, i_154_110, i_154_112, i_154_114, i_154_117, i_154_118, i_154_121, i_154_122, i_154_125, i_154_126, i_154_127, i_154_128, i_154_131, i_154_132, i_154_135, i_154_136, i_154_139, i_154_140, i_154_141, i_154_144, i_154_145, i_154_146, i_154_147, i_154_150, i_154_151, i_154_152, i_154_153, i_154_154, i_154_157, i_154_158, i_154_159, i_154_160, i_154_161, i_154_164, i_154_165, i_154_168, i_154_169, i_154_172, i_154_173, i_154_174, i_154_177, i_154_180, i_154_181, g_o157, g_r157_0, g_r157_1, g_r157_2, g_r157_3, g_r157_4, g_r157_5, g_a158, g_t158, g_a159, g_t159, g_a160, g_t160, g_a161, g_t161, g_a170, g_t170, g_o1, g_r1_0, g_r1_1, g_r1_2, g_r1_3, g_r1_4, g_r1_5, g_a42, g_t42, g_a43, g_t43, g_o2, g_r2_0, g_r2_1, g_r2_2, g_r2_3, g_r2_4, g_r2_5, g_r2_6, g_r2_7, g_r2_8, g_r2_9, g_o13, g_r13_0, g_r13_1, g_r13_2, g_r13_3, g_r13_4, g_r13_5, g_r13_6, g_r13_7, g_o36, g_r36_0, g_r36_1, g_r36_2, g_r36_3, g_r36_4, exists_eq_left', Option.some.injEq, exists_eq_left, ne_eq, List.length_nil, List.length_cons, Option.toList_some, Option.toList_none, List.cons_append, List.nil_append, mj_wt_nil, mj_wt_i, mj_wt_r, mj_wt_l, true_and, and_true, false_and, and_false, true_implies, false_implies, implies_true, not_true_eq_false, not_false_eq_true, and_self, Int.reduceEq, Nat.reduceEqDiff, ↓reduceIte, mj_w_id2, e_19, e_67, e_155 w, hh, hsec, hwa2, hgs2, c1, c2, k0, k2, if_true, if_false, Int.toNat_natCast]
          try grind
        · simp (disch := omega) only [i_154_0, i_154_1, i_154_4, i_154_5, i_154_6, i_154_7, i_154_10, i_154_11, i_154_14, i_154_15, i_154_18, i_154_19, i_154_20, i_154_23, i_154_26, i_154_27, i_154_30, i_154_33, i_154_34, i_154_37, i_154_38, i_154_39, i_154_42, i_154_43, i_154_44, i_154_47, i_154_48, i_154_51, i_154_52, i_154_53, i_154_56, i_154_59, i_154_60, i_154_63, i_154_64, i_154_65, i_154_66, i_154_69, i_154_70, i_154_71, i_154_74, i_154_75, i_154_78, i_154_81, i_154_82, i_154_85, i_154_86, i_154_87, i_154_88, i_154_91, i_154_92, i_154_93, i_154_94, i_154_97, i_154_98, i_154_99, i_154_100, i_154_103, i_154_104, i_154_105, i_154_108, i_154_109, i_154_110, i_154_112, i_154_114, i_154_117, i_154_118, i_154_121, i_154_122, i_154_125, i_154_126, i_154_127, i_154_128, i_154_131, i_154_132, i_154_135, i_154_136, i_154_139, i_154_140, i_154_141, i_154_144, i_154_145, i_154_146, i_154_147, i_154_150, i_154_151, i_154_152, i_154_153, i_154_154, i_154_157, i_154_158, i_154_159, i_154_160, i_154_161, i_154_164, i_154_165, i_154_168, i_154_169, i_154_172, i_154_173, i_154_174, i_154_177, i_154_180, i_154_181, g_o157, g_r157_0, g_r157_1, g_r157_2, g_r157_3, g_r157_4, g_r157_5, g_a158, g_t158, g_a159, g_t159, g_a160, g_t160, g_a161, g_t161, g_a170, g_t170, g_o1, g_r1_0, g_r1_1, g_r1_2, g_r1_3, g_r1_4, g_r1_5, g_a42, g_t42, g_a43, g_t43, g_o2, g_r2_0, g_r2_1, g_r2_2, g_r2_3, g_r2_4, g_r2_5, g_r2_6, g_r2_7, g_r2_8, g_r2_9, g_o13, g_r13_0, g_r13_1, g_r13_2, g_r13_3, g_r13_4, g_r13_5, g_r13_6, g_r13_7, g_o36, g_r36_0, g_r36_1, g_r36_2, g_r36_3, g_r36_4, exists_eq_left', Option.some.injEq, exists_eq_left, ne_eq, List.length_nil, List.length_cons, Option.toList_some, Option.toList_none, List.cons_append, List.nil_append, mj_wt_nil, mj_wt_i, mj_wt_r, mj_wt_l, true_and, and_true, false_and, and_false, true_implies, false_implies, implies_true, not_true_eq_false, not_false_eq_true, and_self, Int.reduceEq, Nat.reduceEqDiff, ↓reduceIte, mj_w_id2, e_19, e_67, e_155 w, hh, hsec, hwa2, hgs2, c1, c2, k0, k2, if_true, if_false, Int.toNat_natCast]
          try grind
theorem q_waM_w {k a b r : Int} (w : q_wr M) : q_wr (q_waM M k a b r) := by
  have hs := q_w36_5 w
  unfold q_waM
  split
  · exact q_wr_up (q_wr_up (q_wr_up (q_wr_up (q_wr_up (q_wr_up w (by simp [q_okv])) (by simp [q_okv])) (by simp [q_okv])) (by simp [q_okv])) (by simp [q_okv])) (by simp [q_okv]; omega)
  · exact w
theorem q_poM_w {i : Nat} (w : q_wr M) : q_wr (q_poM M i) := by
  unfold q_poM
  split
  · rename_i h
    split
    · unfold q_gsM
      split
      · rename_i h2
        refine q_put_w w h2.2 (by omega) ?_ (by omega)
        rcases q_sec_01 (M := M) (i := i) with k | k <;> omega
      · exact w
    · exact q_waM_w w
  · exact w
theorem q_poM_fr {i a j : Nat} (h : 156 < a) : q_poM M i a j = M a j := by
  unfold q_poM q_gsM q_put q_waM
  simp only []
  split
  · split
    · split
      · rw [mj_up_ne (by omega), mj_up_ne (by omega), mj_up_ne (by omega), mj_up_ne (by omega), mj_up_ne (by omega), mj_up_ne (by omega), mj_up_ne (by omega), mj_up_ne (by omega), mj_up_ne (by omega), mj_up_ne (by omega), mj_up_ne (by omega)]
      · rfl
    · split
      · rw [mj_up_ne (by omega), mj_up_ne (by omega), mj_up_ne (by omega), mj_up_ne (by omega), mj_up_ne (by omega), mj_up_ne (by omega)]
      · rfl
  · rfl
theorem q_po_01 {i : Nat} : q_po M i = 0 ∨ q_po M i = 1 := by
  unfold q_po q_gsR q_wa
  split
  · split
    · split
      · exact Or.inr rfl
      · exact Or.inl rfl
    · split
      · exact Or.inr rfl
      · exact Or.inl rfl
  · exact Or.inl rfl
def q_pf : Nat → Nat → mj_M → Int
  | 0, _, _ => 1
  | n + 1, i, M => if q_po M i = 1 then q_pf n (i + 1) (q_poM M i) else 0
def q_pfM : Nat → Nat → mj_M → mj_M
  | 0, _, M => M
  | n + 1, i, M => if q_po M i = 1 then q_pfM n (i + 1) (q_poM M i) else q_poM M i
theorem l_153 {sz : Nat} (hs : sz ≤ 160) (n : Nat) : ∀ (i : Nat) (M : mj_M), i + n = sz → M 157 9 = sz → q_wr M → mj_Rn (d + 3) 153 2 [.inr (.inl 157), .inl (i : Int)] [] (SGx x) M Q = Q (some (.inl (q_pf n i M))) (SGx x) (q_pfM n i M) := by
  induction n with
  | zero =>
    intro i M h h9 w
    rw [i_153_2, q_pf, q_pfM]
    simp (disch := omega) only [i_153_0, i_153_1, i_153_3, i_153_4, i_153_7, i_153_10, i_153_11, i_153_12, i_153_15, i_153_18, i_153_19, i_153_20, i_153_23, i_153_26, i_153_27, g_o157, g_r157_0, g_r157_1, g_r157_2, g_r157_3, g_r157_4, g_r157_5, g_a158, g_t158, g_a159, g_t159, g_a160, g_t160, g_a161, g_t161, g_a170, g_t170, exists_eq_left', Option.some.injEq, exists_eq_left, ne_eq, List.length_nil, List.length_cons, Option.toList_some, Option.toList_none, List.cons_append, List.nil_append, mj_wt_nil, mj_wt_i, mj_wt_r, mj_wt_l, true_and, and_true, false_and, and_false, true_implies, false_implies, implies_true, not_true_eq_false, not_false_eq_true, and_self, Int.reduceEq, Nat.reduceEqDiff, ↓reduceIte, mj_w_id2, h9]
    try grind
  | succ n ih =>
    intro i M h h9 w
    have hi : i < 160 := by omega
    have i1 := ih (i + 1) (q_poM M i) (by omega) (by rw [q_poM_fr (by omega)]; exact h9) (q_poM_w w)
    push_cast at i1
    clear ih
    rw [i_153_2, q_pf, q_pfM]
    rcases q_po_01 (M := M) (i := i) with c | c
    · simp (disch := omega) only [i_153_0, i_153_1, i_153_3, i_153_4, i_153_7, i_153_10, i_153_11, i_153_12, i_153_15, i_153_18, i_153_19, i_153_20, i_153_23, i_153_26, i_153_27, g_o157, g_r157_0, g_r157_1, g_r157_2, g_r157_3, g_r157_4, g_r157_5, g_a158, g_t158, g_a159, g_t159, g_a160, g_t160, g_a161, g_t161, g_a170, g_t170, exists_eq_left', Option.some.injEq, exists_eq_left, ne_eq, List.length_nil, List.length_cons, Option.toList_some, Option.toList_none, List.cons_append, List.nil_append, mj_wt_nil, mj_wt_i, mj_wt_r, mj_wt_l, true_and, and_true, false_and, and_false, true_implies, false_implies, implies_true, not_true_eq_false, not_false_eq_true, and_self, Int.reduceEq, Nat.reduceEqDiff, ↓reduceIte, mj_w_id2, e_154 w hi, c, h9, i1]
      try grind [mj_w]
    · simp (disch := omega) only [i_153_0, i_153_1, i_153_3, i_153_4, i_153_7, i_153_10, i_153_11, i_153_12, i_153_15, i_153_18, i_153_19, i_153_20, i_153_23, i_153_26, i_153_27, g_o157, g_r157_0, g_r157_1, g_r157_2, g_r157_3, g_r157_4, g_r157_5, g_a158, g_t158, g_a159, g_t159, g_a160, g_t160, g_a161, g_t161, g_a170, g_t170, exists_eq_left', Option.some.injEq, exists_eq_left, ne_eq, List.length_nil, List.length_cons, Option.toList_some, Option.toList_none, List.cons_append, List.nil_append, mj_wt_nil, mj_wt_i, mj_wt_r, mj_wt_l, true_and, and_true, false_and, and_false, true_implies, false_implies, implies_true, not_true_eq_false, not_false_eq_true, and_self, Int.reduceEq, Nat.reduceEqDiff, ↓reduceIte, mj_w_id2, e_154 w hi, c, h9, i1]
      try grind [mj_w]
theorem e_153 {sz : Nat} (hs : sz ≤ 160) (h9 : M 157 9 = sz) (w : q_wr M) : mj_Rn (d + 3) 153 0 [.inr (.inl 157), .inr (.inr 0)] [] (SGx x) M Q = Q (some (.inl (q_pf sz 0 M))) (SGx x) (q_pfM sz 0 M) := by
  have h := l_153 (d := d) (x := x) (Q := Q) hs sz 0 M (by omega) h9 w
  push_cast at h
  rw [← h, i_153_0, i_153_1]
end sp71
