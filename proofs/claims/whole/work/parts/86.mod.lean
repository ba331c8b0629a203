section sp86
variable {x : Nat} {M V : mj_M} {Q : Option mj_V → mj_G → mj_M → Prop} {d : Nat}
def m_doom : Nat → Int → mj_M → mj_M
  | 0, _, V => V
  | n + 1, t, V => q_for (fun k V => if V 212 k ≠ 0 ∧ V 7 k = t then m_doom n (k : Int) (mj_up V 12 k 1) else V) 120 0 V
theorem m_doom_o {a : Nat} (h : a ≠ 12) : ∀ (n : Nat) (t : Int) (V : mj_M), m_doom n t V a = V a := by
  intro n
  induction n with
  | zero => intro t V; rfl
  | succ n ih =>
    intro t V
    unfold m_doom
    rw [q_for_o]
    intro k A
    split
    · rw [ih, mj_up_ne h]
    · rfl
theorem m_doom_w (n : Nat) (t : Int) (w : q_wr V) : q_wr (m_doom n t V) := by
  apply q_okv_wr
  intro a i
  by_cases h : a = 12
  · unfold q_okv; omega
  · rw [m_doom_o h]; exact q_wr_okv w a i
theorem m_acy_o {ρ : Nat → Nat} {A : mj_M} (h : m_acy ρ V) (h7 : A 7 = V 7) (h2 : A 212 = V 212) : m_acy ρ A := by
  intro k hk; rw [h7, h2]; exact h k hk
theorem r_206 {ρ : Nat → Nat} (n : Nat) : ∀ (t : Int) (V : mj_M) (d : Nat) (Q : Option mj_V → mj_G → mj_M → Prop), q_wr V → m_acy ρ V → (0 ≤ t ∧ t < 120) → ρ t.toNat < n → mj_Rn (d + n + 1) 206 0 [.inr (.inl 172), .inl t, .inr (.inr 0)] [] (SGx x) (v_st V M) Q = Q none (SGx x) (v_st (m_doom n t V) M) := by
  induction n with
  | zero => intro t V d Q w ha ht hr; omega
  | succ n ih =>
    intro t V d Q w ha ht hr
    have loop : ∀ (m k : Nat) (V : mj_M), k + m = 120 → (q_wr V ∧ m_acy ρ V) → mj_Rn (d + (n + 1) + 1) 206 2 [.inr (.inl 172), .inl t, .inl (k : Int)] [] (SGx x) (v_st V M) Q = Q none (SGx x) (v_st (q_for (fun k V => if V 212 k ≠ 0 ∧ V 7 k = t then m_doom n (k : Int) (mj_up V 12 k 1) else V) m k V) M) := by
      refine q_for_rule (N := 120) (F := fun k V => if V 212 k ≠ 0 ∧ V 7 k = t then m_doom n (k : Int) (mj_up V 12 k 1) else V) (P := fun k V => q_wr V ∧ m_acy ρ V) (H := fun k V => mj_Rn (d + (n + 1) + 1) 206 2 [.inr (.inl 172), .inl t, .inl (k : Int)] [] (SGx x) (v_st V M) Q) (E := fun V => Q none (SGx x) (v_st V M)) ?_ ?_
      · intro k V hk hP
        obtain ⟨w, ha⟩ := hP
        have h1t : ((k + 1 : Nat) : Int) = (k : Int) + 1 := by push_cast; rfl
        simp only [h1t]
        have w2 : q_wr (mj_up V 12 k 1) := q_wr_up w (by simp [q_okv])
        have ha2 : m_acy ρ (mj_up V 12 k 1) := m_acy_o ha (mj_up_ne (by omega)) (mj_up_ne (by omega))
        by_cases c1 : V 212 k = 0
        · rw [if_neg (by omega)]
          refine ⟨⟨w, ha⟩, ?_⟩
          rw [i_206_2]
          simp (disch := omega) only [i_206_3, i_206_5, i_206_8, i_206_9, i_206_10, i_206_11, i_206_14, i_206_17, i_206_18, i_206_19, i_206_20, i_206_23, i_206_24, i_206_27, i_206_30, i_206_31, i_206_34, i_206_37, i_206_39, i_206_40, i_206_41, i_206_42, i_206_44, i_206_45, i_206_46, i_206_47, i_206_48, i_206_49, i_206_52, i_206_55, i_206_58, g_o172, g_r172_1, g_r172_2, g_r172_4, g_r172_5, g_r172_6, g_r172_7, g_r172_8, g_r172_16, g_r172_18, g_r172_19, g_r172_20, g_r172_21, g_a173, g_t173, exists_eq_left', Option.some.injEq, exists_eq_left, ne_eq, List.length_nil, List.length_cons, Option.toList_some, Option.toList_none, List.cons_append, List.nil_append, mj_wt_nil, mj_wt_i, mj_wt_r, mj_wt_l, true_and, and_true, false_and, and_false, true_implies, false_implies, implies_true, not_true_eq_false, not_false_eq_true, and_self, Int.reduceEq, Nat.reduceEqDiff, ↓reduceIte, mj_w_id2, Int.toNat_natCast, v_st_ne, v_rd, v_up, v_up_ne, v_rg, v_rg2, v_th0, v_th1, v_th2, v_th3, v_th4, v_th5, v_th6, v_th7, v_tk0, v_tk1, v_tk2, v_tk3, v_tk4, v_tk5, v_tk6, v_tk7, v_tk8, v_tk9, v_tk10, v_tk11, v_rn0, v_rn1, v_rn2, v_rn3, v_rn4, v_rn5, v_rn6, v_rn7, v_rn8, v_rn9, v_rn10, v_rn11, v_ws0, v_ws1, v_ws2, v_ws3, v_ws4, v_ws5, v_ws6, v_gl0, v_gl1, v_gl2, v_gl3, v_gl4, v_gl5, v_gl6, v_gl7, v_gl8, v_gl9, v_ow, v_ow2, v_iw, v_tb, v_pg, r_176, c1, if_true, if_false]
          try grind [mj_w]
        · by_cases c2 : V 7 k = t
          · have hk2 := ha k hk c1 (by omega)
            rw [c2] at hk2
            rw [if_pos ⟨c1, c2⟩]
            have hr2 : ∀ Q, mj_Rn (d + (n + 1)) 206 0 [.inr (.inl 172), .inl (k : Int), .inr (.inr 0)] [] (SGx x) (v_st (mj_up V 12 k 1) M) Q = Q none (SGx x) (v_st (m_doom n (k : Int) (mj_up V 12 k 1)) M) := fun Q => ih (k : Int) _ d Q w2 ha2 (by omega) (by simp only [Int.toNat_natCast]; omega)
            refine ⟨⟨m_doom_w _ _ w2, m_acy_o ha2 (m_doom_o (by omega) _ _ _) (m_doom_o (by omega) _ _ _)⟩, ?_⟩
            rw [i_206_2]
            simp (disch := omega) only [i_206_3, i_206_5, i_206_8, i_206_9, i_206_10, i_206_11, i_206_14, i_206_17, i_206_18, i_206_19, i_206_20, i_206_23, i_206_24, i_206_27, i_206_30, i_206_31, i_206_34, i_206_37, i_206_39, i_206_40, i_206_41, i_206_42, i_206_44, i_206_45, i_206_46, i_206_47, i_206_48, i_206_49, i_206_52, i_206_55, i_206_58, g_o172, g_r172_1, g_r172_2, g_r172_4, g_r172_5, g_r172_6, g_r172_7, g_r172_8, g_r172_16, g_r172_18, g_r172_19, g_r172_20, g_r172_21, g_a173, g_t173, exists_eq_left', Option.some.injEq, exists_eq_left, ne_eq, List.length_nil, List.length_cons, Option.toList_some, Option.toList_none, List.cons_append, List.nil_append, mj_wt_nil, mj_wt_i, mj_wt_r, mj_wt_l, true_and, and_true, false_and, and_false, true_implies, false_implies, implies_true, not_true_eq_false, not_false_eq_true, and_self, Int.reduceEq, Nat.reduceEqDiff, ↓reduceIte, mj_w_id2, Int.toNat_natCast, v_st_ne, v_rd, v_up, v_up_ne, v_rg, v_rg2, v_th0, v_th1, v_th2, v_th3, v_th4, v_th5, v_th6, v_th7, v_tk0, v_tk1, v_tk2, v_tk3, v_tk4, v_tk5, v_tk6, v_tk7, v_tk8, v_tk9, v_tk10, v_tk11, v_rn0, v_rn1, v_rn2, v_rn3, v_rn4, v_rn5, v_rn6, v_rn7, v_rn8, v_rn9, v_rn10, v_rn11, v_ws0, v_ws1, v_ws2, v_ws3, v_ws4, v_ws5, v_ws6, v_gl0, v_gl1, v_gl2, v_gl3, v_gl4, v_gl5, v_gl6, v_gl7, v_gl8, v_gl9, v_ow, v_ow2, v_iw, v_tb, v_pg, r_176, hr2, c1, c2, if_true, if_false]
            try grind [mj_w]
          · rw [if_neg (by omega)]
            refine ⟨⟨w, ha⟩, ?_⟩
            rw [i_206_2]
            simp (disch := omega) only [i_206_3, i_206_5, i_206_8, i_206_9, i_206_10, i_206_11, i_206_14, i_206_17, i_206_18, i_206_19, i_206_20, i_206_23, i_206_24, i_206_27, i_206_30, i_206_31, i_206_34, i_206_37, i_206_39, i_206_40, i_206_41, i_206_42, i_206_44, i_206_45, i_206_46, i_206_47, i_206_48, i_206_49, i_206_52, i_206_55, i_206_58, g_o172, g_r172_1, g_r172_2, g_r172_4, g_r172_5, g_r172_6, g_r172_7, g_r172_8, g_r172_16, g_r172_18, g_r172_19, g_r172_20, g_r172_21, g_a173, g_t173, exists_eq_left', Option.some.injEq, exists_eq_left, ne_eq, List.length_nil, List.length_cons, Option.toList_some, Option.toList_none, List.cons_append, List.nil_append, mj_wt_nil, mj_wt_i, mj_wt_r, mj_wt_l, true_and, and_true, false_and, and_false, true_implies, false_implies, implies_true, not_true_eq_false, not_false_eq_true, and_self, Int.reduceEq, Nat.reduceEqDiff, ↓reduceIte, mj_w_id2, Int.toNat_natCast, v_st_ne, v_rd, v_up, v_up_ne, v_rg, v_rg2, v_th0, v_th1, v_th2, v_th3, v_th4, v_th5, v_th6, v_th7, v_tk0, v_tk1, v_tk2, v_tk3, v_tk4, v_tk5, v_tk6, v_tk7, v_tk8, v_tk9, v_tk10, v_tk11, v_rn0, v_rn1, v_rn2, v_rn3, v_rn4, v_rn5, v_rn6, v_rn7, v_rn8, v_rn9, v_rn10, v_rn11, v_ws0, v_ws1, v_ws2, v_ws3, v_ws4, v_ws5, v_ws6, v_gl0, v_gl1, v_gl2, v_gl3, v_gl4, v_gl5, v_gl6, v_gl7, v_gl8, v_gl9, v_ow, v_ow2, v_iw, v_tb, v_pg, r_176, c1, c2, if_true, if_false]
            try grind [mj_w]
      · intro V hP
        rw [i_206_2]
        simp (disch := omega) only [i_206_3, i_206_5, i_206_8, i_206_9, i_206_10, i_206_11, i_206_14, i_206_17, i_206_18, i_206_19, i_206_20, i_206_23, i_206_24, i_206_27, i_206_30, i_206_31, i_206_34, i_206_37, i_206_39, i_206_40, i_206_41, i_206_42, i_206_44, i_206_45, i_206_46, i_206_47, i_206_48, i_206_49, i_206_52, i_206_55, i_206_58, g_o172, g_r172_1, g_r172_2, g_r172_4, g_r172_5, g_r172_6, g_r172_7, g_r172_8, g_r172_16, g_r172_18, g_r172_19, g_r172_20, g_r172_21, g_a173, g_t173, exists_eq_left', Option.some.injEq, exists_eq_left, ne_eq, List.length_nil, List.length_cons, Option.toList_some, Option.toList_none, List.cons_append, List.nil_append, mj_wt_nil, mj_wt_i, mj_wt_r, mj_wt_l, true_and, and_true, false_and, and_false, true_implies, false_implies, implies_true, not_true_eq_false, not_false_eq_true, and_self, Int.reduceEq, Nat.reduceEqDiff, ↓reduceIte, mj_w_id2, Int.toNat_natCast, v_st_ne, v_rd, v_up, v_up_ne, v_rg, v_rg2, v_th0, v_th1, v_th2, v_th3, v_th4, v_th5, v_th6, v_th7, v_tk0, v_tk1, v_tk2, v_tk3, v_tk4, v_tk5, v_tk6, v_tk7, v_tk8, v_tk9, v_tk10, v_tk11, v_rn0, v_rn1, v_rn2, v_rn3, v_rn4, v_rn5, v_rn6, v_rn7, v_rn8, v_rn9, v_rn10, v_rn11, v_ws0, v_ws1, v_ws2, v_ws3, v_ws4, v_ws5, v_ws6, v_gl0, v_gl1, v_gl2, v_gl3, v_gl4, v_gl5, v_gl6, v_gl7, v_gl8, v_gl9, v_ow, v_ow2, v_iw, v_tb, v_pg, r_176, if_true, if_false]
        try grind [mj_w]
    have h1 := loop 120 0 V rfl ⟨w, ha⟩
    rw [m_doom, i_206_0, i_206_1]
    exact h1
def m_put (V : mj_M) (k th r ro l b s la : Int) : mj_M :=
  mj_up (mj_up (mj_up (mj_up (mj_up (mj_up (mj_up (mj_up (mj_up (mj_up (mj_up (mj_up (mj_up V 212 (m_ftk V 120 0).toNat 1) 3 (m_ftk V 120 0).toNat k) 4 (m_ftk V 120 0).toNat th) 5 (m_ftk V 120 0).toNat r)
    6 (m_ftk V 120 0).toNat ro) 7 (m_ftk V 120 0).toNat l) 8 (m_ftk V 120 0).toNat b) 9 (m_ftk V 120 0).toNat s) 10 (m_ftk V 120 0).toNat (-1)) 11 (m_ftk V 120 0).toNat la) 12 (m_ftk V 120 0).toNat 0) 131 (m_ftk V 120 0).toNat 0)
    42 (10 * b + s).toNat (m_ftk V 120 0)
theorem r_174 {k th r ro l b s la : Int} (ht : m_ftk V 120 0 ≠ 120) (hb : 0 ≤ b ∧ b < 40) (hs : 0 ≤ s ∧ s < 10) : mj_Rn (d + 2) 174 0 [.inr (.inl 172), .inl k, .inl th, .inl r, .inl ro, .inl l, .inl b, .inl s, .inl la, .inr (.inr 0), .inr (.inr 0)] [] (SGx x) (v_st V M) Q = Q (some (.inl (m_ftk V 120 0))) (SGx x) (v_st (m_put V k th r ro l b s la) M) := by
  have h0 := m_ftk_in (V := V) 120 0
  have h1 : 0 ≤ m_ftk V 120 0 ∧ m_ftk V 120 0 < 120 := by omega
  unfold m_put
  simp (disch := omega) only [i_174_0, i_174_1, i_174_4, i_174_6, i_174_9, i_174_11, i_174_13, i_174_14, i_174_15, i_174_17, i_174_18, i_174_21, i_174_23, i_174_24, i_174_25, i_174_26, i_174_27, i_174_28, i_174_31, i_174_33, i_174_34, i_174_35, i_174_36, i_174_37, i_174_38, i_174_41, i_174_43, i_174_44, i_174_45, i_174_46, i_174_47, i_174_48, i_174_51, i_174_53, i_174_54, i_174_55, i_174_56, i_174_57, i_174_58, i_174_61, i_174_63, i_174_64, i_174_65, i_174_67, i_174_68, i_174_69, i_174_72, i_174_74, i_174_75, i_174_76, i_174_78, i_174_79, i_174_80, i_174_83, i_174_85, i_174_87, i_174_88, i_174_90, i_174_91, i_174_92, i_174_95, i_174_97, i_174_99, i_174_100, i_174_102, i_174_103, i_174_104, i_174_107, i_174_109, i_174_111, i_174_112, i_174_113, i_174_114, i_174_115, i_174_118, i_174_120, i_174_122, i_174_123, i_174_125, i_174_126, i_174_127, i_174_130, i_174_132, i_174_134, i_174_135, i_174_136, i_174_137, i_174_138, i_174_141, i_174_143, i_174_145, i_174_146, i_174_147, i_174_148, i_174_149, i_174_152, i_174_155, i_174_157, i_174_159, i_174_160, i_174_161, i_174_163, i_174_164, i_174_166, i_174_167, i_174_169, g_o172, g_r172_1, g_r172_2, g_r172_4, g_r172_5, g_r172_6, g_r172_7, g_r172_8, g_r172_16, g_r172_18, g_r172_19, g_r172_20, g_r172_21, g_a173, g_t173, exists_eq_left', Option.some.injEq, exists_eq_left, ne_eq, List.length_nil, List.length_cons, Option.toList_some, Option.toList_none, List.cons_append, List.nil_append, mj_wt_nil, mj_wt_i, mj_wt_r, mj_wt_l, true_and, and_true, false_and, and_false, true_implies, false_implies, implies_true, not_true_eq_false, not_false_eq_true, and_self, Int.reduceEq, Nat.reduceEqDiff, ↓reduceIte, mj_w_id2, Int.toNat_natCast, v_st_ne, v_rd, v_up, v_up_ne, v_rg, v_rg2, v_th0, v_th1, v_th2, v_th3, v_th4, v_th5, v_th6, v_th7, v_tk0, v_tk1, v_tk2, v_tk3, v_tk4, v_tk5, v_tk6, v_tk7, v_tk8, v_tk9, v_tk10, v_tk11, v_rn0, v_rn1, v_rn2, v_rn3, v_rn4, v_rn5, v_rn6, v_rn7, v_rn8, v_rn9, v_rn10, v_rn11, v_ws0, v_ws1, v_ws2, v_ws3, v_ws4, v_ws5, v_ws6, v_gl0, v_gl1, v_gl2, v_gl3, v_gl4, v_gl5, v_gl6, v_gl7, v_gl8, v_gl9, v_ow, v_ow2, v_iw, v_tb, v_pg, r_175]
  try grind
theorem m_ftk_o {A : mj_M} (h : A 212 = V 212) : ∀ (n t : Nat), m_ftk A n t = m_ftk V n t := by
  intro n
  induction n with
  | zero => intro t; rfl
  | succ n ih => intro t; unfold m_ftk; rw [h, ih]
theorem m_fth_o {A : mj_M} (h : A 210 = V 210) : ∀ (n t : Nat), m_fth A n t = m_fth V n t := by
  intro n
  induction n with
  | zero => intro t; rfl
  | succ n ih => intro t; unfold m_fth; rw [h, ih]
theorem m_put_w {k th r ro l b s la : Int} (w : q_wr V) (ht : m_ftk V 120 0 ≠ 120) (hk : -1 ≤ k ∧ k ≤ 3) (hth : -1 ≤ th ∧ th < 40) (hl : -1 ≤ l ∧ l < 120) (hb : 0 ≤ b ∧ b < 40) (hs : 0 ≤ s ∧ s < 10) : q_wr (m_put V k th r ro l b s la) := by
  have h0 := m_ftk_in (V := V) 120 0
  unfold m_put
  generalize m_ftk V 120 0 = t at *
  refine q_wr_up (q_wr_up (q_wr_up (q_wr_up (q_wr_up (q_wr_up (q_wr_up (q_wr_up (q_wr_up (q_wr_up (q_wr_up (q_wr_up (q_wr_up w ?_) ?_) ?_) ?_) ?_) ?_) ?_) ?_) ?_) ?_) ?_) ?_) ?_
  all_goals (unfold q_okv; omega)
theorem m_put_7 {k th r ro l b s la : Int} : m_put V k th r ro l b s la 7 = mj_up V 7 (m_ftk V 120 0).toNat l 7 := by
  unfold m_put
  rw [mj_up_ne (by omega), mj_up_ne (by omega), mj_up_ne (by omega), mj_up_ne (by omega), mj_up_ne (by omega), mj_up_ne (by omega), mj_up_ne (by omega)]
  funext i
  simp [mj_up]
theorem m_put_212 {k th r ro l b s la : Int} : m_put V k th r ro l b s la 212 = mj_up V 212 (m_ftk V 120 0).toNat 1 212 := by
  unfold m_put
  rw [mj_up_ne (by omega), mj_up_ne (by omega), mj_up_ne (by omega), mj_up_ne (by omega), mj_up_ne (by omega), mj_up_ne (by omega), mj_up_ne (by omega), mj_up_ne (by omega), mj_up_ne (by omega), mj_up_ne (by omega), mj_up_ne (by omega), mj_up_ne (by omega)]
/-- a bound on ranks: how many are less -/
def m_rk (V : mj_M) (ρ : Nat → Nat) (t k : Nat) : Nat := if k = t ∨ V 212 k = 0 ∨ 120 ≤ k then 0 else 1 + (q_sum (fun j => if V 212 j ≠ 0 ∧ ρ j < ρ k then 1 else 0) 120 0).toNat
theorem m_put_ok {k th r ro l b s la : Int} (h : m_ok V) (ht : m_ftk V 120 0 ≠ 120) (hk : -1 ≤ k ∧ k ≤ 3) (hth : -1 ≤ th ∧ th < 40) (hl : l = -1 ∨ (0 ≤ l ∧ l < 120 ∧ V 212 l.toNat ≠ 0)) (hb : 0 ≤ b ∧ b < 40) (hs : 0 ≤ s ∧ s < 10) : m_ok (m_put V k th r ro l b s la) := by
  obtain ⟨w, hu, hlu, ρ, h1, h2⟩ := h
  have h0 := m_ftk_in (V := V) 120 0
  have hfree : V 212 (m_ftk V 120 0).toNat = 0 := by
    have := hu (m_ftk V 120 0).toNat (by omega)
    have := h0.2.2 (by omega)
    omega
  have ht0 : (m_ftk V 120 0).toNat < 120 := by omega
  refine ⟨m_put_w w ht hk hth (by omega) hb hs, ?_, ?_, m_rk V ρ (m_ftk V 120 0).toNat, ?_, ?_⟩
  · intro j hj
    rw [m_put_212]
    simp only [mj_up, if_true]
    split
    · exact Or.inr rfl
    · exact hu j hj
  · intro j hj h3 h4
    rw [m_put_7] at h4 ⊢
    rw [m_put_212] at h3 ⊢
    generalize (m_ftk V 120 0).toNat = t at *
    simp only [mj_up, if_true] at h3 h4 ⊢
    by_cases e : j = t
    · rw [if_pos e] at h4 ⊢
      split
      · omega
      · rcases hl with hl | hl
        · omega
        · exact hl.2.2
    · rw [if_neg e] at h3 h4 ⊢
      split
      · omega
      · exact hlu j hj h3 h4
  · intro j
    unfold m_rk
    generalize (m_ftk V 120 0).toNat = t at *
    split
    · omega
    · rename_i hj
      have e1 := q_sum_lt (f := fun i => if V 212 i ≠ 0 ∧ ρ i < ρ j then 1 else 0) (g := fun i => if V 212 i ≠ 0 ∧ (ρ i < ρ j ∨ i = j) then 1 else 0) (fun i => by repeat' split; all_goals omega) 120 0 j (by omega) (by omega) (by rw [if_neg (fun h => absurd h.2 (Nat.lt_irrefl _)), if_pos ⟨by omega, by omega⟩]; omega)
      have e2 := q_sum_lt (f := fun i => if V 212 i ≠ 0 ∧ (ρ i < ρ j ∨ i = j) then 1 else 0) (g := fun _ => 1) (fun i => by split; all_goals omega) 120 0 t (by omega) (by omega) (by rw [if_neg (fun h => by omega)]; omega)
      have e3 := (q_sum_b (f := fun _ => 1) (fun _ => by omega) 120 0).2
      push_cast at e3
      omega
  · intro j hj h3 h4
    rw [m_put_7] at h4 ⊢
    rw [m_put_212] at h3
    generalize (m_ftk V 120 0).toNat = t at *
    simp only [mj_up, if_true] at h3 h4 ⊢
    unfold m_rk
    by_cases e : j = t
    · rw [if_pos e] at h4 ⊢
      rw [if_pos (Or.inl e)]
      rcases hl with hl | hl
      · omega
      · have : l.toNat ≠ t := by intro e2; rw [e2] at hl; omega
        rw [if_neg (by omega)]
        omega
    · rw [if_neg e] at h3 h4 ⊢
      have h5 := hlu j hj h3 h4
      have h6 := h2 j hj h3 h4
      have h77 := q_w7 (i := j) w hj
      have : (V 7 j).toNat ≠ t := by intro e2; rw [e2] at h5; omega
      rw [if_neg (by omega), if_neg (by omega)]
      have e1 := q_sum_lt (f := fun i => if V 212 i ≠ 0 ∧ ρ i < ρ j then 1 else 0) (g := fun i => if V 212 i ≠ 0 ∧ ρ i < ρ (V 7 j).toNat then 1 else 0) (fun i => by repeat' split; all_goals omega) 120 0 j (by omega) (by omega) (by rw [if_neg (fun h => absurd h.2 (Nat.lt_irrefl _)), if_pos ⟨by omega, by omega⟩]; omega)
      have e2 := (q_sum_b (f := fun i => if V 212 i ≠ 0 ∧ ρ i < ρ j then 1 else 0) (fun i => by split <;> omega) 120 0)
      omega
end sp86
