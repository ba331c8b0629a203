section sp89
variable {x : Nat} {M V : mj_M} {Q : Option mj_V → mj_G → mj_M → Prop} {d : Nat}
/-- what the table holds is there -/
def m_tt (V : mj_M) : Prop := ∀ i : Nat, i < 400 → V 42 i ≠ -1 → V 212 (V 42 i).toNat ≠ 0
theorem m_ft_tt {b s r : Int} (w : q_wr V) (ht : m_tt V) (hb : 0 ≤ b ∧ b < 40) (h : m_ft V b s r ≠ -1) : V 212 (m_ft V b s r).toNat ≠ 0 := by
  have h1 := m_ft_in (s := s) (r := r) w hb
  have h2 := m_fi_in (s := s) (r := r) w hb
  have h3 : V 42 (10 * b + s).toNat = m_ft V b s r := by omega
  rw [← h3]
  exact ht _ (by omega) (by omega)
theorem m_fi_tt {b s r : Int} (w : q_wr V) (ht : m_tt V) (hb : 0 ≤ b ∧ b < 40) (h : m_fi V b s r ≠ -1) : V 212 (m_fi V b s r).toNat ≠ 0 := by
  have h2 := m_fi_in (s := s) (r := r) w hb
  have h3 : V 42 (10 * b + s).toNat = m_fi V b s r := by omega
  rw [← h3]
  exact ht _ (by omega) (by omega)
theorem m_ln_ok {b a k r u s : Int} (h : m_ok V) (ht : m_tt V) (hb : 0 ≤ b ∧ b < 40) (hu : 0 ≤ u ∧ u < 40) (hk : -1 ≤ k ∧ k ≤ 3) : m_ok (m_lnM V b a k r u s) := m_lnM_ok h hb hu hk (fun h1 => m_ft_tt h.1 ht hb h1)
theorem m_sp_ok {b a n c : Int} (h : m_ok V) (ht : m_tt V) (hb : 0 ≤ b ∧ b < 40) : m_ok (m_spM V b a n c) := m_spM_ok h hb (fun h1 => m_fi_tt h.1 ht hb h1)
theorem m_ln_no {b a k r u s : Int} (h : m_ln V b a u s = 0) : m_lnM V b a k r u s = V := by unfold m_lnM; rw [if_neg (by omega)]
def m_pu (V : mj_M) (b a c e : Int) : Int := if m_fk V b c 2 1 ≠ -1 ∧ m_ln V b a (V 4 (m_fk V b c 2 1).toNat) e = 1 then 1 else 0
def m_puM (V : mj_M) (b a c e : Int) : mj_M := if m_pu V b a c e = 1 then m_use (m_lnM V b a 1 31 (V 4 (m_fk V b c 2 1).toNat) e) (m_fk V b c 2 1) else V
theorem m_puM_ok {b a c e : Int} (h : m_ok V) (ht : m_tt V) (hb : 0 ≤ b ∧ b < 40) : m_ok (m_puM V b a c e) := by
  have hg := m_fk_in (s := c) (r := 2) (k := 1) h.1 hb
  unfold m_puM
  split
  · rename_i g
    unfold m_pu at g
    split at g
    · have hu4 : 0 ≤ V 4 (m_fk V b c 2 1).toNat ∧ V 4 (m_fk V b c 2 1).toNat < 40 := by omega
      exact m_use_ok (m_ln_ok (a := a) (k := 1) (r := 31) (s := e) h ht hb hu4 (by omega))
    · omega
  · exact h
theorem r_208 {b a c e : Int} (h : m_ok V) (ht : m_tt V) (hb : 0 ≤ b ∧ b < 40) : mj_Rn (d + 125) 208 0 [.inr (.inl 172), .inl b, .inl a, .inl c, .inl e, .inr (.inr 0)] [] (SGx x) (v_st V M) Q = Q (some (.inl (m_pu V b a c e))) (SGx x) (v_st (m_puM V b a c e) M) := by
  have w := h.1
  have hg := m_fk_in (s := c) (r := 2) (k := 1) w hb
  by_cases c1 : m_fk V b c 2 1 = -1
  · have g : m_pu V b a c e = 0 := by unfold m_pu; rw [if_neg (by omega)]
    unfold m_puM
    simp (disch := omega) only [i_208_0, i_208_1, i_208_2, i_208_3, i_208_4, i_208_5, i_208_8, i_208_10, i_208_12, i_208_13, i_208_16, i_208_17, i_208_18, i_208_19, i_208_20, i_208_22, i_208_23, i_208_25, i_208_26, i_208_29, i_208_31, i_208_34, i_208_37, i_208_38, i_208_39, i_208_40, i_208_42, i_208_45, i_208_46, g_o172, g_r172_1, g_r172_2, g_r172_4, g_r172_5, g_r172_6, g_r172_7, g_r172_8, g_r172_16, g_r172_18, g_r172_19, g_r172_20, g_r172_21, g_a173, g_t173, exists_eq_left', Option.some.injEq, exists_eq_left, ne_eq, List.length_nil, List.length_cons, Option.toList_some, Option.toList_none, List.cons_append, List.nil_append, mj_wt_nil, mj_wt_i, mj_wt_r, mj_wt_l, true_and, and_true, false_and, and_false, true_implies, false_implies, implies_true, not_true_eq_false, not_false_eq_true, and_self, Int.reduceEq, Nat.reduceEqDiff, ↓reduceIte, mj_w_id2, Int.toNat_natCast, v_st_ne, v_rd, v_up, v_up_ne, v_rg, v_rg2, v_th0, v_th1, v_th2, v_th3, v_th4, v_th5, v_th6, v_th7, v_tk0, v_tk1, v_tk2, v_tk3, v_tk4, v_tk5, v_tk6, v_tk7, v_tk8, v_tk9, v_tk10, v_tk11, v_rn0, v_rn1, v_rn2, v_rn3, v_rn4, v_rn5, v_rn6, v_rn7, v_rn8, v_rn9, v_rn10, v_rn11, v_ws0, v_ws1, v_ws2, v_ws3, v_ws4, v_ws5, v_ws6, v_gl0, v_gl1, v_gl2, v_gl3, v_gl4, v_gl5, v_gl6, v_gl7, v_gl8, v_gl9, v_ow, v_ow2, v_iw, v_tb, v_pg, r_209 w hb, r_176, c1, g, if_true, if_false]
    try grind
  have hu : 0 ≤ m_fk V b c 2 1 ∧ m_fk V b c 2 1 < 120 := by omega
  have hu4 : 0 ≤ V 4 (m_fk V b c 2 1).toNat ∧ V 4 (m_fk V b c 2 1).toNat < 40 := by omega
  rcases m_ln_01 (V := V) (b := b) (a := a) (u := V 4 (m_fk V b c 2 1).toNat) (s := e) with c2 | ⟨c2, _⟩
  · have g : m_pu V b a c e = 0 := by unfold m_pu; rw [if_neg (by omega)]
    have c3 : m_lnM V b a 1 31 (V 4 (m_fk V b c 2 1).toNat) e = V := m_ln_no c2
    unfold m_puM
    simp (disch := omega) only [i_208_0, i_208_1, i_208_2, i_208_3, i_208_4, i_208_5, i_208_8, i_208_10, i_208_12, i_208_13, i_208_16, i_208_17, i_208_18, i_208_19, i_208_20, i_208_22, i_208_23, i_208_25, i_208_26, i_208_29, i_208_31, i_208_34, i_208_37, i_208_38, i_208_39, i_208_40, i_208_42, i_208_45, i_208_46, g_o172, g_r172_1, g_r172_2, g_r172_4, g_r172_5, g_r172_6, g_r172_7, g_r172_8, g_r172_16, g_r172_18, g_r172_19, g_r172_20, g_r172_21, g_a173, g_t173, exists_eq_left', Option.some.injEq, exists_eq_left, ne_eq, List.length_nil, List.length_cons, Option.toList_some, Option.toList_none, List.cons_append, List.nil_append, mj_wt_nil, mj_wt_i, mj_wt_r, mj_wt_l, true_and, and_true, false_and, and_false, true_implies, false_implies, implies_true, not_true_eq_false, not_false_eq_true, and_self, Int.reduceEq, Nat.reduceEqDiff, ↓reduceIte, mj_w_id2, Int.toNat_natCast, v_st_ne, v_rd, v_up, v_up_ne, v_rg, v_rg2, v_th0, v_th1, v_th2, v_th3, v_th4, v_th5, v_th6, v_th7, v_tk0, v_tk1, v_tk2, v_tk3, v_tk4, v_tk5, v_tk6, v_tk7, v_tk8, v_tk9, v_tk10, v_tk11, v_rn0, v_rn1, v_rn2, v_rn3, v_rn4, v_rn5, v_rn6, v_rn7, v_rn8, v_rn9, v_rn10, v_rn11, v_ws0, v_ws1, v_ws2, v_ws3, v_ws4, v_ws5, v_ws6, v_gl0, v_gl1, v_gl2, v_gl3, v_gl4, v_gl5, v_gl6, v_gl7, v_gl8, v_gl9, v_ow, v_ow2, v_iw, v_tb, v_pg, r_209 w hb, r_176, r_184 w hb hu4, c1, c2, c3, g, if_true, if_false]
    try grind
  · have g : m_pu V b a c e = 1 := by unfold m_pu; rw [if_pos ⟨c1, c2⟩]
    have hA := m_ln_ok (a := a) (k := 1) (r := 31) (s := e) h ht hb hu4 (by omega)
    unfold m_puM
    simp (disch := omega) only [i_208_0, i_208_1, i_208_2, i_208_3, i_208_4, i_208_5, i_208_8, i_208_10, i_208_12, i_208_13, i_208_16, i_208_17, i_208_18, i_208_19, i_208_20, i_208_22, i_208_23, i_208_25, i_208_26, i_208_29, i_208_31, i_208_34, i_208_37, i_208_38, i_208_39, i_208_40, i_208_42, i_208_45, i_208_46, g_o172, g_r172_1, g_r172_2, g_r172_4, g_r172_5, g_r172_6, g_r172_7, g_r172_8, g_r172_16, g_r172_18, g_r172_19, g_r172_20, g_r172_21, g_a173, g_t173, exists_eq_left', Option.some.injEq, exists_eq_left, ne_eq, List.length_nil, List.length_cons, Option.toList_some, Option.toList_none, List.cons_append, List.nil_append, mj_wt_nil, mj_wt_i, mj_wt_r, mj_wt_l, true_and, and_true, false_and, and_false, true_implies, false_implies, implies_true, not_true_eq_false, not_false_eq_true, and_self, Int.reduceEq, Nat.reduceEqDiff, ↓reduceIte, mj_w_id2, Int.toNat_natCast, v_st_ne, v_rd, v_up, v_up_ne, v_rg, v_rg2, v_th0, v_th1, v_th2, v_th3, v_th4, v_th5, v_th6, v_th7, v_tk0, v_tk1, v_tk2, v_tk3, v_tk4, v_tk5, v_tk6, v_tk7, v_tk8, v_tk9, v_tk10, v_tk11, v_rn0, v_rn1, v_rn2, v_rn3, v_rn4, v_rn5, v_rn6, v_rn7, v_rn8, v_rn9, v_rn10, v_rn11, v_ws0, v_ws1, v_ws2, v_ws3, v_ws4, v_ws5, v_ws6, v_gl0, v_gl1, v_gl2, v_gl3, v_gl4, v_gl5, v_gl6, v_gl7, v_gl8, v_gl9, v_ow, v_ow2, v_iw, v_tb, v_pg, r_209 w hb, r_176, r_184 w hb hu4, c1, c2, r_194 hA hu, g, if_true, if_false]
    try grind
def m_ge (V : mj_M) (b a c e : Int) : Int := if m_fk V b c 1 1 ≠ -1 ∧ m_ln V (V 4 (m_fk V b c 1 1).toNat) a b e = 1 then 1 else 0
def m_geM (V : mj_M) (b a c e : Int) : mj_M := if m_ge V b a c e = 1 then m_use (m_lnM V (V 4 (m_fk V b c 1 1).toNat) a 1 31 b e) (m_fk V b c 1 1) else V
theorem m_geM_ok {b a c e : Int} (h : m_ok V) (ht : m_tt V) (hb : 0 ≤ b ∧ b < 40) : m_ok (m_geM V b a c e) := by
  have hg := m_fk_in (s := c) (r := 1) (k := 1) h.1 hb
  unfold m_geM
  split
  · rename_i g
    unfold m_ge at g
    split at g
    · have hu4 : 0 ≤ V 4 (m_fk V b c 1 1).toNat ∧ V 4 (m_fk V b c 1 1).toNat < 40 := by omega
      exact m_use_ok (m_ln_ok (a := a) (k := 1) (r := 31) (s := e) h ht hu4 hb (by omega))
    · omega
  · exact h
theorem r_210 {b a c e : Int} (h : m_ok V) (ht : m_tt V) (hb : 0 ≤ b ∧ b < 40) : mj_Rn (d + 125) 210 0 [.inr (.inl 172), .inl b, .inl a, .inl c, .inl e, .inr (.inr 0)] [] (SGx x) (v_st V M) Q = Q (some (.inl (m_ge V b a c e))) (SGx x) (v_st (m_geM V b a c e) M) := by
  have w := h.1
  have hg := m_fk_in (s := c) (r := 1) (k := 1) w hb
  by_cases c1 : m_fk V b c 1 1 = -1
  · have g : m_ge V b a c e = 0 := by unfold m_ge; rw [if_neg (by omega)]
    unfold m_geM
    simp (disch := omega) only [i_210_0, i_210_1, i_210_2, i_210_3, i_210_4, i_210_5, i_210_8, i_210_10, i_210_12, i_210_13, i_210_16, i_210_17, i_210_18, i_210_20, i_210_21, i_210_24, i_210_25, i_210_26, i_210_28, i_210_29, i_210_31, i_210_34, i_210_37, i_210_38, i_210_39, i_210_40, i_210_42, i_210_45, i_210_46, g_o172, g_r172_1, g_r172_2, g_r172_4, g_r172_5, g_r172_6, g_r172_7, g_r172_8, g_r172_16, g_r172_18, g_r172_19, g_r172_20, g_r172_21, g_a173, g_t173, exists_eq_left', Option.some.injEq, exists_eq_left, ne_eq, List.length_nil, List.length_cons, Option.toList_some, Option.toList_none, List.cons_append, List.nil_append, mj_wt_nil, mj_wt_i, mj_wt_r, mj_wt_l, true_and, and_true, false_and, and_false, true_implies, false_implies, implies_true, not_true_eq_false, not_false_eq_true, and_self, Int.reduceEq, Nat.reduceEqDiff, ↓reduceIte, mj_w_id2, Int.toNat_natCast, v_st_ne, v_rd, v_up, v_up_ne, v_rg, v_rg2, v_th0, v_th1, v_th2, v_th3, v_th4, v_th5, v_th6, v_th7, v_tk0, v_tk1, v_tk2, v_tk3, v_tk4, v_tk5, v_tk6, v_tk7, v_tk8, v_tk9, v_tk10, v_tk11, v_rn0, v_rn1, v_rn2, v_rn3, v_rn4, v_rn5, v_rn6, v_rn7, v_rn8, v_rn9, v_rn10, v_rn11, v_ws0, v_ws1, v_ws2, v_ws3, v_ws4, v_ws5, v_ws6, v_gl0, v_gl1, v_gl2, v_gl3, v_gl4, v_gl5, v_gl6, v_gl7, v_gl8, v_gl9, v_ow, v_ow2, v_iw, v_tb, v_pg, r_209 w hb, r_176, c1, g, if_true, if_false]
    try grind
  have hu : 0 ≤ m_fk V b c 1 1 ∧ m_fk V b c 1 1 < 120 := by omega
  have hu4 : 0 ≤ V 4 (m_fk V b c 1 1).toNat ∧ V 4 (m_fk V b c 1 1).toNat < 40 := by omega
  rcases m_ln_01 (V := V) (b := V 4 (m_fk V b c 1 1).toNat) (a := a) (u := b) (s := e) with c2 | ⟨c2, _⟩
  · have g : m_ge V b a c e = 0 := by unfold m_ge; rw [if_neg (by omega)]
    have c3 : m_lnM V (V 4 (m_fk V b c 1 1).toNat) a 1 31 b e = V := m_ln_no c2
    unfold m_geM
    simp (disch := omega) only [i_210_0, i_210_1, i_210_2, i_210_3, i_210_4, i_210_5, i_210_8, i_210_10, i_210_12, i_210_13, i_210_16, i_210_17, i_210_18, i_210_20, i_210_21, i_210_24, i_210_25, i_210_26, i_210_28, i_210_29, i_210_31, i_210_34, i_210_37, i_210_38, i_210_39, i_210_40, i_210_42, i_210_45, i_210_46, g_o172, g_r172_1, g_r172_2, g_r172_4, g_r172_5, g_r172_6, g_r172_7, g_r172_8, g_r172_16, g_r172_18, g_r172_19, g_r172_20, g_r172_21, g_a173, g_t173, exists_eq_left', Option.some.injEq, exists_eq_left, ne_eq, List.length_nil, List.length_cons, Option.toList_some, Option.toList_none, List.cons_append, List.nil_append, mj_wt_nil, mj_wt_i, mj_wt_r, mj_wt_l, true_and, and_true, false_and, and_false, true_implies, false_implies, implies_true, not_true_eq_false, not_false_eq_true, and_self, Int.reduceEq, Nat.reduceEqDiff, ↓reduceIte, mj_w_id2, Int.toNat_natCast, v_st_ne, v_rd, v_up, v_up_ne, v_rg, v_rg2, v_th0, v_th1, v_th2, v_th3, v_th4, v_th5, v_th6, v_th7, v_tk0, v_tk1, v_tk2, v_tk3, v_tk4, v_tk5, v_tk6, v_tk7, v_tk8, v_tk9, v_tk10, v_tk11, v_rn0, v_rn1, v_rn2, v_rn3, v_rn4, v_rn5, v_rn6, v_rn7, v_rn8, v_rn9, v_rn10, v_rn11, v_ws0, v_ws1, v_ws2, v_ws3, v_ws4, v_ws5, v_ws6, v_gl0, v_gl1, v_gl2, v_gl3, v_gl4, v_gl5, v_gl6, v_gl7, v_gl8, v_gl9, v_ow, v_ow2, v_iw, v_tb, v_pg, r_209 w hb, r_176, r_184 w hu4 hb, c1, c2, c3, g, if_true, if_false]
    try grind
  · have g : m_ge V b a c e = 1 := by unfold m_ge; rw [if_pos ⟨c1, c2⟩]
    have hA := m_ln_ok (a := a) (k := 1) (r := 31) (s := e) h ht hu4 hb (by omega)
    unfold m_geM
    simp (disch := omega) only [i_210_0, i_210_1, i_210_2, i_210_3, i_210_4, i_210_5, i_210_8, i_210_10, i_210_12, i_210_13, i_210_16, i_210_17, i_210_18, i_210_20, i_210_21, i_210_24, i_210_25, i_210_26, i_210_28, i_210_29, i_210_31, i_210_34, i_210_37, i_210_38, i_210_39, i_210_40, i_210_42, i_210_45, i_210_46, g_o172, g_r172_1, g_r172_2, g_r172_4, g_r172_5, g_r172_6, g_r172_7, g_r172_8, g_r172_16, g_r172_18, g_r172_19, g_r172_20, g_r172_21, g_a173, g_t173, exists_eq_left', Option.some.injEq, exists_eq_left, ne_eq, List.length_nil, List.length_cons, Option.toList_some, Option.toList_none, List.cons_append, List.nil_append, mj_wt_nil, mj_wt_i, mj_wt_r, mj_wt_l, true_and, and_true, false_and, and_false, true_implies, false_implies, implies_true, not_true_eq_false, not_false_eq_true, and_self, Int.reduceEq, Nat.reduceEqDiff, ↓reduceIte, mj_w_id2, Int.toNat_natCast, v_st_ne, v_rd, v_up, v_up_ne, v_rg, v_rg2, v_th0, v_th1, v_th2, v_th3, v_th4, v_th5, v_th6, v_th7, v_tk0, v_tk1, v_tk2, v_tk3, v_tk4, v_tk5, v_tk6, v_tk7, v_tk8, v_tk9, v_tk10, v_tk11, v_rn0, v_rn1, v_rn2, v_rn3, v_rn4, v_rn5, v_rn6, v_rn7, v_rn8, v_rn9, v_rn10, v_rn11, v_ws0, v_ws1, v_ws2, v_ws3, v_ws4, v_ws5, v_ws6, v_gl0, v_gl1, v_gl2, v_gl3, v_gl4, v_gl5, v_gl6, v_gl7, v_gl8, v_gl9, v_ow, v_ow2, v_iw, v_tb, v_pg, r_209 w hb, r_176, r_184 w hu4 hb, c1, c2, r_194 hA hu, g, if_true, if_false]
    try grind
def m_ldk (V : mj_M) (b a : Int) : Int := V 14 (V 4 (m_ft V b a 1).toNat).toNat
def m_ld (V : mj_M) (b a : Int) : Int := if m_ft V b a 1 ≠ -1 ∧ (m_ldk V b a = 0 ∨ m_ldk V b a = 4 ∨ m_ldk V b a = 5) then 1 else 0
def m_ldn (V : mj_M) (b a : Int) : Int := if V 19 (V 4 (m_ft V b a 1).toNat).toNat < V 18 (V 4 (m_ft V b a 1).toNat).toNat then 1 else 0
def m_ldV (V : mj_M) (b a : Int) : Int := if m_ldk V b a = 0 then V 16 (V 4 (m_ft V b a 1).toNat).toNat else if m_ldk V b a = 5 then V 1 7 else if m_ldn V b a = 1 then V 21 (30 * V 4 (m_ft V b a 1).toNat + V 19 (V 4 (m_ft V b a 1).toNat).toNat).toNat else 0
def m_ldA (V : mj_M) (b a : Int) : mj_M := if m_ldk V b a = 4 ∧ m_ldn V b a = 1 then mj_up V 19 (V 4 (m_ft V b a 1).toNat).toNat (mj_w (V 19 (V 4 (m_ft V b a 1).toNat).toNat + 1)) else V
def m_ldM (V : mj_M) (b a : Int) : mj_M := if m_ld V b a = 1 then m_use (m_ldA V b a) (m_ft V b a 1) else V
def m_ldN (M V : mj_M) (b a : Int) : mj_M := if m_ld V b a = 1 then mj_up M 172 3 (m_ldV V b a) else M
theorem mj_up_up {a i : Nat} {u v : Int} : mj_up (mj_up M a i u) a i v = mj_up M a i v := by
  funext b j; unfold mj_up; by_cases hb : b = a <;> by_cases hj : j = i <;> simp [hb, hj]
theorem m_ldA_w {b a : Int} (w : q_wr V) (hb : 0 ≤ b ∧ b < 40) (hT : m_ft V b a 1 ≠ -1) : q_wr (m_ldA V b a) := by
  have hg := m_ft_in (s := a) (r := 1) w hb
  unfold m_ldA
  have h18 := q_w18 (i := (V 4 (m_ft V b a 1).toNat).toNat) w (by omega)
  have h19 := q_w19 (i := (V 4 (m_ft V b a 1).toNat).toNat) w (by omega)
  split
  · rename_i hh
    have hh := hh.2
    unfold m_ldn at hh
    split at hh
    · refine q_wr_up w ?_
      rw [mj_w_id2 (by omega) (by omega)]
      simp [q_okv]; omega
    · omega
  · exact w
theorem m_ldA_ok {b a : Int} (h : m_ok V) (hb : 0 ≤ b ∧ b < 40) (hT : m_ft V b a 1 ≠ -1) : m_ok (m_ldA V b a) := by
  have w := m_ldA_w h.1 hb hT
  unfold m_ldA at w ⊢
  split
  · rename_i hh
    rw [if_pos hh] at w
    exact m_ok_same h w (mj_up_ne (by omega)) (mj_up_ne (by omega))
  · exact h
theorem m_ldM_ok {b a : Int} (h : m_ok V) (hb : 0 ≤ b ∧ b < 40) : m_ok (m_ldM V b a) := by
  unfold m_ldM
  split
  · rename_i g
    unfold m_ld at g
    split at g
    · rename_i h1
      exact m_use_ok (m_ldA_ok h hb h1.1)
    · omega
  · exact h
theorem r_214 {b a : Int} (h : m_ok V) (hb : 0 ≤ b ∧ b < 40) : mj_Rn (d + 125) 214 0 [.inr (.inl 172), .inl b, .inl a, .inr (.inr 0), .inr (.inr 0), .inr (.inr 0)] [] (SGx x) (v_st V M) Q = Q (some (.inl (m_ld V b a))) (SGx x) (v_st (m_ldM V b a) (m_ldN M V b a)) := by
  have w := h.1
  have hg := m_ft_in (s := a) (r := 1) w hb
  by_cases c1 : m_ft V b a 1 = -1
  · have g : m_ld V b a = 0 := by unfold m_ld; rw [if_neg (by omega)]
    unfold m_ldM m_ldN
    simp (disch := omega) only [i_214_0, i_214_1, i_214_2, i_214_3, i_214_4, i_214_7, i_214_8, i_214_9, i_214_10, i_214_13, i_214_14, i_214_15, i_214_16, i_214_17, i_214_18, i_214_21, i_214_23, i_214_25, i_214_27, i_214_29, i_214_30, i_214_31, i_214_33, i_214_34, i_214_36, i_214_37, i_214_40, i_214_76, i_214_77, i_214_78, i_214_81, i_214_83, i_214_84, i_214_85, i_214_86, i_214_89, i_214_92, i_214_93, i_214_94, i_214_97, i_214_98, i_214_99, i_214_102, i_214_105, i_214_106, i_214_107, i_214_110, i_214_111, i_214_114, i_214_116, i_214_117, i_214_118, i_214_119, i_214_120, i_214_123, i_214_125, i_214_127, i_214_128, i_214_129, i_214_132, i_214_133, i_214_134, i_214_137, i_214_139, i_214_141, i_214_142, i_214_143, i_214_146, i_214_148, i_214_149, i_214_150, i_214_151, i_214_152, i_214_153, i_214_156, i_214_157, i_214_160, i_214_162, i_214_163, i_214_164, i_214_165, i_214_166, i_214_167, i_214_168, i_214_169, i_214_172, i_214_173, i_214_174, i_214_175, i_214_176, i_214_179, i_214_180, g_o172, g_r172_1, g_r172_2, g_r172_4, g_r172_5, g_r172_6, g_r172_7, g_r172_8, g_r172_16, g_r172_18, g_r172_19, g_r172_20, g_r172_21, g_a173, g_t173, exists_eq_left', Option.some.injEq, exists_eq_left, ne_eq, List.length_nil, List.length_cons, Option.toList_some, Option.toList_none, List.cons_append, List.nil_append, mj_wt_nil, mj_wt_i, mj_wt_r, mj_wt_l, true_and, and_true, false_and, and_false, true_implies, false_implies, implies_true, not_true_eq_false, not_false_eq_true, and_self, Int.reduceEq, Nat.reduceEqDiff, ↓reduceIte, mj_w_id2, Int.toNat_natCast, v_st_ne, v_rd, v_up, v_up_ne, v_rg, v_rg2, v_th0, v_th1, v_th2, v_th3, v_th4, v_th5, v_th6, v_th7, v_tk0, v_tk1, v_tk2, v_tk3, v_tk4, v_tk5, v_tk6, v_tk7, v_tk8, v_tk9, v_tk10, v_tk11, v_rn0, v_rn1, v_rn2, v_rn3, v_rn4, v_rn5, v_rn6, v_rn7, v_rn8, v_rn9, v_rn10, v_rn11, v_ws0, v_ws1, v_ws2, v_ws3, v_ws4, v_ws5, v_ws6, v_gl0, v_gl1, v_gl2, v_gl3, v_gl4, v_gl5, v_gl6, v_gl7, v_gl8, v_gl9, v_ow, v_ow2, v_iw, v_tb, v_pg, r_185 w hb, r_176, r_173, mj_up_up, c1, g, if_true, if_false]
    try grind
  have ht : 0 ≤ m_ft V b a 1 ∧ m_ft V b a 1 < 120 := by omega
  have hx : 0 ≤ V 4 (m_ft V b a 1).toNat ∧ V 4 (m_ft V b a 1).toNat < 40 := by omega
  have hA := m_ldA_ok h hb c1
  have ek : V 14 (V 4 (m_ft V b a 1).toNat).toNat = m_ldk V b a := rfl
  have h18 := q_w18 (i := (V 4 (m_ft V b a 1).toNat).toNat) w (by omega)
  have h19 := q_w19 (i := (V 4 (m_ft V b a 1).toNat).toNat) w (by omega)
  by_cases k0 : m_ldk V b a = 0
  · have g : m_ld V b a = 1 := by unfold m_ld; rw [if_pos (by omega)]
    have eA : m_ldA V b a = V := by unfold m_ldA; rw [if_neg (by omega)]
    have eV : m_ldV V b a = V 16 (V 4 (m_ft V b a 1).toNat).toNat := by unfold m_ldV; rw [if_pos k0]
    rw [eA] at hA
    unfold m_ldM m_ldN
    simp (disch := omega) only [i_214_0, i_214_1, i_214_2, i_214_3, i_214_4, i_214_7, i_214_8, i_214_9, i_214_10, i_214_13, i_214_14, i_214_15, i_214_16, i_214_17, i_214_18, i_214_21, i_214_23, i_214_25, i_214_27, i_214_29, i_214_30, i_214_31, i_214_33, i_214_34, i_214_36, i_214_37, i_214_40, i_214_76, i_214_77, i_214_78, i_214_81, i_214_83, i_214_84, i_214_85, i_214_86, i_214_89, i_214_92, i_214_93, i_214_94, i_214_97, i_214_98, i_214_99, i_214_102, i_214_105, i_214_106, i_214_107, i_214_110, i_214_111, i_214_114, i_214_116, i_214_117, i_214_118, i_214_119, i_214_120, i_214_123, i_214_125, i_214_127, i_214_128, i_214_129, i_214_132, i_214_133, i_214_134, i_214_137, i_214_139, i_214_141, i_214_142, i_214_143, i_214_146, i_214_148, i_214_149, i_214_150, i_214_151, i_214_152, i_214_153, i_214_156, i_214_157, i_214_160, i_214_162, i_214_163, i_214_164, i_214_165, i_214_166, i_214_167, i_214_168, i_214_169, i_214_172, i_214_173, i_214_174, i_214_175, i_214_176, i_214_179, i_214_180, g_o172, g_r172_1, g_r172_2, g_r172_4, g_r172_5, g_r172_6, g_r172_7, g_r172_8, g_r172_16, g_r172_18, g_r172_19, g_r172_20, g_r172_21, g_a173, g_t173, exists_eq_left', Option.some.injEq, exists_eq_left, ne_eq, List.length_nil, List.length_cons, Option.toList_some, Option.toList_none, List.cons_append, List.nil_append, mj_wt_nil, mj_wt_i, mj_wt_r, mj_wt_l, true_and, and_true, false_and, and_false, true_implies, false_implies, implies_true, not_true_eq_false, not_false_eq_true, and_self, Int.reduceEq, Nat.reduceEqDiff, ↓reduceIte, mj_w_id2, Int.toNat_natCast, v_st_ne, v_rd, v_up, v_up_ne, v_rg, v_rg2, v_th0, v_th1, v_th2, v_th3, v_th4, v_th5, v_th6, v_th7, v_tk0, v_tk1, v_tk2, v_tk3, v_tk4, v_tk5, v_tk6, v_tk7, v_tk8, v_tk9, v_tk10, v_tk11, v_rn0, v_rn1, v_rn2, v_rn3, v_rn4, v_rn5, v_rn6, v_rn7, v_rn8, v_rn9, v_rn10, v_rn11, v_ws0, v_ws1, v_ws2, v_ws3, v_ws4, v_ws5, v_ws6, v_gl0, v_gl1, v_gl2, v_gl3, v_gl4, v_gl5, v_gl6, v_gl7, v_gl8, v_gl9, v_ow, v_ow2, v_iw, v_tb, v_pg, r_185 w hb, r_176, r_173, mj_up_up, c1, ek, k0, eA, eV, r_194 hA ht, g, if_true, if_false]
    try grind
  by_cases k5 : m_ldk V b a = 5
  · have g : m_ld V b a = 1 := by unfold m_ld; rw [if_pos (by omega)]
    have eA : m_ldA V b a = V := by unfold m_ldA; rw [if_neg (by omega)]
    have eV : m_ldV V b a = V 1 7 := by unfold m_ldV; rw [if_neg k0, if_pos k5]
    rw [eA] at hA
    unfold m_ldM m_ldN
    simp (disch := omega) only [i_214_0, i_214_1, i_214_2, i_214_3, i_214_4, i_214_7, i_214_8, i_214_9, i_214_10, i_214_13, i_214_14, i_214_15, i_214_16, i_214_17, i_214_18, i_214_21, i_214_23, i_214_25, i_214_27, i_214_29, i_214_30, i_214_31, i_214_33, i_214_34, i_214_36, i_214_37, i_214_40, i_214_76, i_214_77, i_214_78, i_214_81, i_214_83, i_214_84, i_214_85, i_214_86, i_214_89, i_214_92, i_214_93, i_214_94, i_214_97, i_214_98, i_214_99, i_214_102, i_214_105, i_214_106, i_214_107, i_214_110, i_214_111, i_214_114, i_214_116, i_214_117, i_214_118, i_214_119, i_214_120, i_214_123, i_214_125, i_214_127, i_214_128, i_214_129, i_214_132, i_214_133, i_214_134, i_214_137, i_214_139, i_214_141, i_214_142, i_214_143, i_214_146, i_214_148, i_214_149, i_214_150, i_214_151, i_214_152, i_214_153, i_214_156, i_214_157, i_214_160, i_214_162, i_214_163, i_214_164, i_214_165, i_214_166, i_214_167, i_214_168, i_214_169, i_214_172, i_214_173, i_214_174, i_214_175, i_214_176, i_214_179, i_214_180, g_o172, g_r172_1, g_r172_2, g_r172_4, g_r172_5, g_r172_6, g_r172_7, g_r172_8, g_r172_16, g_r172_18, g_r172_19, g_r172_20, g_r172_21, g_a173, g_t173, exists_eq_left', Option.some.injEq, exists_eq_left, ne_eq, List.length_nil, List.length_cons, Option.toList_some, Option.toList_none, List.cons_append, List.nil_append, mj_wt_nil, mj_wt_i, mj_wt_r, mj_wt_l, true_and, and_true, false_and, and_false, true_implies, false_implies, implies_true, not_true_eq_false, not_false_eq_true, and_self, Int.reduceEq, Nat.reduceEqDiff, ↓reduceIte, mj_w_id2, Int.toNat_natCast, v_st_ne, v_rd, v_up, v_up_ne, v_rg, v_rg2, v_th0, v_th1, v_th2, v_th3, v_th4, v_th5, v_th6, v_th7, v_tk0, v_tk1, v_tk2, v_tk3, v_tk4, v_tk5, v_tk6, v_tk7, v_tk8, v_tk9, v_tk10, v_tk11, v_rn0, v_rn1, v_rn2, v_rn3, v_rn4, v_rn5, v_rn6, v_rn7, v_rn8, v_rn9, v_rn10, v_rn11, v_ws0, v_ws1, v_ws2, v_ws3, v_ws4, v_ws5, v_ws6, v_gl0, v_gl1, v_gl2, v_gl3, v_gl4, v_gl5, v_gl6, v_gl7, v_gl8, v_gl9, v_ow, v_ow2, v_iw, v_tb, v_pg, r_185 w hb, r_176, r_173, mj_up_up, c1, ek, k0, k5, eA, eV, r_194 hA ht, g, if_true, if_false]
    try grind
  by_cases k4 : m_ldk V b a = 4
  · have g : m_ld V b a = 1 := by unfold m_ld; rw [if_pos (by omega)]
    by_cases cn : V 19 (V 4 (m_ft V b a 1).toNat).toNat < V 18 (V 4 (m_ft V b a 1).toNat).toNat
    · have n1 : m_ldn V b a = 1 := by unfold m_ldn; rw [if_pos cn]
      have eA : mj_up V 19 (V 4 (m_ft V b a 1).toNat).toNat (mj_w (V 19 (V 4 (m_ft V b a 1).toNat).toNat + 1)) = m_ldA V b a := by unfold m_ldA; rw [if_pos ⟨k4, n1⟩]
      have eV : m_ldV V b a = V 21 (30 * V 4 (m_ft V b a 1).toNat + V 19 (V 4 (m_ft V b a 1).toNat).toNat).toNat := by unfold m_ldV; rw [if_neg k0, if_neg k5, if_pos n1]
      have ew : mj_w (V 19 (V 4 (m_ft V b a 1).toNat).toNat + 1) = V 19 (V 4 (m_ft V b a 1).toNat).toNat + 1 := mj_w_id2 (by omega) (by omega)
      rw [ew] at eA
      have hk2 : 0 ≤ V 19 (V 4 (m_ft V b a 1).toNat).toNat ∧ V 19 (V 4 (m_ft V b a 1).toNat).toNat < 30 := by omega
      unfold m_ldM m_ldN
      simp (disch := omega) only [i_214_0, i_214_1, i_214_2, i_214_3, i_214_4, i_214_7, i_214_8, i_214_9, i_214_10, i_214_13, i_214_14, i_214_15, i_214_16, i_214_17, i_214_18, i_214_21, i_214_23, i_214_25, i_214_27, i_214_29, i_214_30, i_214_31, i_214_33, i_214_34, i_214_36, i_214_37, i_214_40, i_214_76, i_214_77, i_214_78, i_214_81, i_214_83, i_214_84, i_214_85, i_214_86, i_214_89, i_214_92, i_214_93, i_214_94, i_214_97, i_214_98, i_214_99, i_214_102, i_214_105, i_214_106, i_214_107, i_214_110, i_214_111, i_214_114, i_214_116, i_214_117, i_214_118, i_214_119, i_214_120, i_214_123, i_214_125, i_214_127, i_214_128, i_214_129, i_214_132, i_214_133, i_214_134, i_214_137, i_214_139, i_214_141, i_214_142, i_214_143, i_214_146, i_214_148, i_214_149, i_214_150, i_214_151, i_214_152, i_214_153, i_214_156, i_214_157, i_214_160, i_214_162, i_214_163, i_214_164, i_214_165, i_214_166, i_214_167, i_214_168, i_214_169, i_214_172, i_214_173, i_214_174, i_214_175, i_214_176, i_214_179, i_214_180, g_o172, g_r172_1, g_r172_2, g_r172_4, g_r172_5, g_r172_6, g_r172_7, g_r172_8, g_r172_16, g_r172_18, g_r172_19, g_r172_20, g_r172_21, g_a173, g_t173, exists_eq_left', Option.some.injEq, exists_eq_left, ne_eq, List.length_nil, List.length_cons, Option.toList_some, Option.toList_none, List.cons_append, List.nil_append, mj_wt_nil, mj_wt_i, mj_wt_r, mj_wt_l, true_and, and_true, false_and, and_false, true_implies, false_implies, implies_true, not_true_eq_false, not_false_eq_true, and_self, Int.reduceEq, Nat.reduceEqDiff, ↓reduceIte, mj_w_id2, Int.toNat_natCast, v_st_ne, v_rd, v_up, v_up_ne, v_rg, v_rg2, v_th0, v_th1, v_th2, v_th3, v_th4, v_th5, v_th6, v_th7, v_tk0, v_tk1, v_tk2, v_tk3, v_tk4, v_tk5, v_tk6, v_tk7, v_tk8, v_tk9, v_tk10, v_tk11, v_rn0, v_rn1, v_rn2, v_rn3, v_rn4, v_rn5, v_rn6, v_rn7, v_rn8, v_rn9, v_rn10, v_rn11, v_ws0, v_ws1, v_ws2, v_ws3, v_ws4, v_ws5, v_ws6, v_gl0, v_gl1, v_gl2, v_gl3, v_gl4, v_gl5, v_gl6, v_gl7, v_gl8, v_gl9, v_ow, v_ow2, v_iw, v_tb, v_pg, r_185 w hb, r_176, r_173, mj_up_up, c1, ek, k0, k4, k5, cn, eA, eV, r_194 hA ht, g, if_true, if_false]
      try grind
    · have n1 : m_ldn V b a = 0 := by unfold m_ldn; rw [if_neg cn]
      have eA : m_ldA V b a = V := by unfold m_ldA; rw [if_neg (by omega)]
      have eV : m_ldV V b a = 0 := by unfold m_ldV; rw [if_neg k0, if_neg k5, if_neg (by omega)]
      rw [eA] at hA
      unfold m_ldM m_ldN
      simp (disch := omega) only [i_214_0, i_214_1, i_214_2, i_214_3, i_214_4, i_214_7, i_214_8, i_214_9, i_214_10, i_214_13, i_214_14, i_214_15, i_214_16, i_214_17, i_214_18, i_214_21, i_214_23, i_214_25, i_214_27, i_214_29, i_214_30, i_214_31, i_214_33, i_214_34, i_214_36, i_214_37, i_214_40, i_214_76, i_214_77, i_214_78, i_214_81, i_214_83, i_214_84, i_214_85, i_214_86, i_214_89, i_214_92, i_214_93, i_214_94, i_214_97, i_214_98, i_214_99, i_214_102, i_214_105, i_214_106, i_214_107, i_214_110, i_214_111, i_214_114, i_214_116, i_214_117, i_214_118, i_214_119, i_214_120, i_214_123, i_214_125, i_214_127, i_214_128, i_214_129, i_214_132, i_214_133, i_214_134, i_214_137, i_214_139, i_214_141, i_214_142, i_214_143, i_214_146, i_214_148, i_214_149, i_214_150, i_214_151, i_214_152, i_214_153, i_214_156, i_214_157, i_214_160, i_214_162, i_214_163, i_214_164, i_214_165, i_214_166, i_214_167, i_214_168, i_214_169, i_214_172, i_214_173, i_214_174, i_214_175, i_214_176, i_214_179, i_214_180, g_o172, g_r172_1, g_r172_2, g_r172_4, g_r172_5, g_r172_6, g_r172_7, g_r172_8, g_r172_16, g_r172_18, g_r172_19, g_r172_20, g_r172_21, g_a173, g_t173, exists_eq_left', Option.some.injEq, exists_eq_left, ne_eq, List.length_nil, List.length_cons, Option.toList_some, Option.toList_none, List.cons_append, List.nil_append, mj_wt_nil, mj_wt_i, mj_wt_r, mj_wt_l, true_and, and_true, false_and, and_false, true_implies, false_implies, implies_true, not_true_eq_false, not_false_eq_true, and_self, Int.reduceEq, Nat.reduceEqDiff, ↓reduceIte, mj_w_id2, Int.toNat_natCast, v_st_ne, v_rd, v_up, v_up_ne, v_rg, v_rg2, v_th0, v_th1, v_th2, v_th3, v_th4, v_th5, v_th6, v_th7, v_tk0, v_tk1, v_tk2, v_tk3, v_tk4, v_tk5, v_tk6, v_tk7, v_tk8, v_tk9, v_tk10, v_tk11, v_rn0, v_rn1, v_rn2, v_rn3, v_rn4, v_rn5, v_rn6, v_rn7, v_rn8, v_rn9, v_rn10, v_rn11, v_ws0, v_ws1, v_ws2, v_ws3, v_ws4, v_ws5, v_ws6, v_gl0, v_gl1, v_gl2, v_gl3, v_gl4, v_gl5, v_gl6, v_gl7, v_gl8, v_gl9, v_ow, v_ow2, v_iw, v_tb, v_pg, r_185 w hb, r_176, r_173, mj_up_up, c1, ek, k0, k4, k5, cn, eA, eV, r_194 hA ht, g, if_true, if_false]
      try grind
  · have g : m_ld V b a = 0 := by unfold m_ld; rw [if_neg (by omega)]
    unfold m_ldM m_ldN
    simp (disch := omega) only [i_214_0, i_214_1, i_214_2, i_214_3, i_214_4, i_214_7, i_214_8, i_214_9, i_214_10, i_214_13, i_214_14, i_214_15, i_214_16, i_214_17, i_214_18, i_214_21, i_214_23, i_214_25, i_214_27, i_214_29, i_214_30, i_214_31, i_214_33, i_214_34, i_214_36, i_214_37, i_214_40, i_214_76, i_214_77, i_214_78, i_214_81, i_214_83, i_214_84, i_214_85, i_214_86, i_214_89, i_214_92, i_214_93, i_214_94, i_214_97, i_214_98, i_214_99, i_214_102, i_214_105, i_214_106, i_214_107, i_214_110, i_214_111, i_214_114, i_214_116, i_214_117, i_214_118, i_214_119, i_214_120, i_214_123, i_214_125, i_214_127, i_214_128, i_214_129, i_214_132, i_214_133, i_214_134, i_214_137, i_214_139, i_214_141, i_214_142, i_214_143, i_214_146, i_214_148, i_214_149, i_214_150, i_214_151, i_214_152, i_214_153, i_214_156, i_214_157, i_214_160, i_214_162, i_214_163, i_214_164, i_214_165, i_214_166, i_214_167, i_214_168, i_214_169, i_214_172, i_214_173, i_214_174, i_214_175, i_214_176, i_214_179, i_214_180, g_o172, g_r172_1, g_r172_2, g_r172_4, g_r172_5, g_r172_6, g_r172_7, g_r172_8, g_r172_16, g_r172_18, g_r172_19, g_r172_20, g_r172_21, g_a173, g_t173, exists_eq_left', Option.some.injEq, exists_eq_left, ne_eq, List.length_nil, List.length_cons, Option.toList_some, Option.toList_none, List.cons_append, List.nil_append, mj_wt_nil, mj_wt_i, mj_wt_r, mj_wt_l, true_and, and_true, false_and, and_false, true_implies, false_implies, implies_true, not_true_eq_false, not_false_eq_true, and_self, Int.reduceEq, Nat.reduceEqDiff, ↓reduceIte, mj_w_id2, Int.toNat_natCast, v_st_ne, v_rd, v_up, v_up_ne, v_rg, v_rg2, v_th0, v_th1, v_th2, v_th3, v_th4, v_th5, v_th6, v_th7, v_tk0, v_tk1, v_tk2, v_tk3, v_tk4, v_tk5, v_tk6, v_tk7, v_tk8, v_tk9, v_tk10, v_tk11, v_rn0, v_rn1, v_rn2, v_rn3, v_rn4, v_rn5, v_rn6, v_rn7, v_rn8, v_rn9, v_rn10, v_rn11, v_ws0, v_ws1, v_ws2, v_ws3, v_ws4, v_ws5, v_ws6, v_gl0, v_gl1, v_gl2, v_gl3, v_gl4, v_gl5, v_gl6, v_gl7, v_gl8, v_gl9, v_ow, v_ow2, v_iw, v_tb, v_pg, r_185 w hb, r_176, r_173, mj_up_up, c1, ek, k0, k4, k5, r_194 hA ht, g, if_true, if_false]
    try grind
def m_st (V : mj_M) (b a : Int) : Int := if m_ft V b a 2 ≠ -1 ∧ (V 14 (V 4 (m_ft V b a 2).toNat).toNat = 0 ∨ V 14 (V 4 (m_ft V b a 2).toNat).toNat = 4) then 1 else 0
def m_stO (V : mj_M) (y v : Int) : mj_M := if V 17 y.toNat < 30 then mj_up (mj_up V 20 (30 * y + V 17 y.toNat).toNat v) 17 y.toNat (mj_w (V 17 y.toNat + 1)) else mj_up V 17 y.toNat (mj_w (V 17 y.toNat + 1))
def m_stA (V : mj_M) (b a v : Int) : mj_M := if V 14 (V 4 (m_ft V b a 2).toNat).toNat = 0 then mj_up V 16 (V 4 (m_ft V b a 2).toNat).toNat v else m_stO V (V 4 (m_ft V b a 2).toNat) v
def m_stM (V : mj_M) (b a v : Int) : mj_M := if m_st V b a = 1 then m_use (m_stA V b a v) (m_ft V b a 2) else V
theorem m_stA_w {b a v : Int} (w : q_wr V) (hn : q_few V 99999999) (hb : 0 ≤ b ∧ b < 40) (hT : m_ft V b a 2 ≠ -1) : q_wr (m_stA V b a v) := by
  have hg := m_ft_in (s := a) (r := 2) w hb
  have h17 := q_w17 (i := (V 4 (m_ft V b a 2).toNat).toNat) w (by omega)
  have h17b := hn (V 4 (m_ft V b a 2).toNat).toNat (by omega)
  unfold m_stA m_stO
  rw [mj_w_id2 (x := V 17 (V 4 (m_ft V b a 2).toNat).toNat + 1) (by omega) (by omega)]
  split
  · exact q_wr_up w (by simp [q_okv])
  · split
    · exact q_wr_up (q_wr_up w (by simp [q_okv])) (by simp [q_okv]; omega)
    · exact q_wr_up w (by simp [q_okv]; omega)
theorem m_stA_ok {b a v : Int} (h : m_ok V) (hn : q_few V 99999999) (hb : 0 ≤ b ∧ b < 40) (hT : m_ft V b a 2 ≠ -1) : m_ok (m_stA V b a v) := by
  refine m_ok_same h (m_stA_w h.1 hn hb hT) ?_ ?_
  · unfold m_stA m_stO; (repeat' split) <;> simp only [mj_up_ne (show (7 : Nat) ≠ 16 by decide), mj_up_ne (show (7 : Nat) ≠ 17 by decide), mj_up_ne (show (7 : Nat) ≠ 20 by decide)]
  · unfold m_stA m_stO; (repeat' split) <;> simp only [mj_up_ne (show (212 : Nat) ≠ 16 by decide), mj_up_ne (show (212 : Nat) ≠ 17 by decide), mj_up_ne (show (212 : Nat) ≠ 20 by decide)]
theorem m_stM_ok {b a v : Int} (h : m_ok V) (hn : q_few V 99999999) (hb : 0 ≤ b ∧ b < 40) : m_ok (m_stM V b a v) := by
  unfold m_stM
  split
  · rename_i g
    unfold m_st at g
    split at g
    · rename_i h1
      exact m_use_ok (m_stA_ok h hn hb h1.1)
    · omega
  · exact h
theorem r_216 {b a v : Int} (h : m_ok V) (hn : q_few V 99999999) (hb : 0 ≤ b ∧ b < 40) : mj_Rn (d + 125) 216 0 [.inr (.inl 172), .inl b, .inl a, .inl v, .inr (.inr 0), .inr (.inr 0), .inr (.inr 0)] [] (SGx x) (v_st V M) Q = Q (some (.inl (m_st V b a))) (SGx x) (v_st (m_stM V b a v) M) := by
  have w := h.1
  have hg := m_ft_in (s := a) (r := 2) w hb
  by_cases c1 : m_ft V b a 2 = -1
  · have g : m_st V b a = 0 := by unfold m_st; rw [if_neg (by omega)]
    unfold m_stM
    simp (disch := omega) only [i_216_0, i_216_1, i_216_2, i_216_3, i_216_4, i_216_7, i_216_9, i_216_11, i_216_12, i_216_15, i_216_16, i_216_17, i_216_18, i_216_20, i_216_21, i_216_24, i_216_26, i_216_28, i_216_30, i_216_32, i_216_33, i_216_34, i_216_36, i_216_37, i_216_39, i_216_40, i_216_43, i_216_46, i_216_47, i_216_50, i_216_52, i_216_53, i_216_54, i_216_55, i_216_56, i_216_59, i_216_60, i_216_62, i_216_63, i_216_66, i_216_67, i_216_70, i_216_71, i_216_74, i_216_76, i_216_77, i_216_78, i_216_79, i_216_81, i_216_84, i_216_85, i_216_88, i_216_90, i_216_92, i_216_93, i_216_94, i_216_97, i_216_99, i_216_100, i_216_101, i_216_102, i_216_103, i_216_104, i_216_105, i_216_106, i_216_109, i_216_111, i_216_112, i_216_113, i_216_114, i_216_115, i_216_116, i_216_117, i_216_118, i_216_121, i_216_122, i_216_123, i_216_124, i_216_126, i_216_129, i_216_130, g_o172, g_r172_1, g_r172_2, g_r172_4, g_r172_5, g_r172_6, g_r172_7, g_r172_8, g_r172_16, g_r172_18, g_r172_19, g_r172_20, g_r172_21, g_a173, g_t173, exists_eq_left', Option.some.injEq, exists_eq_left, ne_eq, List.length_nil, List.length_cons, Option.toList_some, Option.toList_none, List.cons_append, List.nil_append, mj_wt_nil, mj_wt_i, mj_wt_r, mj_wt_l, true_and, and_true, false_and, and_false, true_implies, false_implies, implies_true, not_true_eq_false, not_false_eq_true, and_self, Int.reduceEq, Nat.reduceEqDiff, ↓reduceIte, mj_w_id2, Int.toNat_natCast, v_st_ne, v_rd, v_up, v_up_ne, v_rg, v_rg2, v_th0, v_th1, v_th2, v_th3, v_th4, v_th5, v_th6, v_th7, v_tk0, v_tk1, v_tk2, v_tk3, v_tk4, v_tk5, v_tk6, v_tk7, v_tk8, v_tk9, v_tk10, v_tk11, v_rn0, v_rn1, v_rn2, v_rn3, v_rn4, v_rn5, v_rn6, v_rn7, v_rn8, v_rn9, v_rn10, v_rn11, v_ws0, v_ws1, v_ws2, v_ws3, v_ws4, v_ws5, v_ws6, v_gl0, v_gl1, v_gl2, v_gl3, v_gl4, v_gl5, v_gl6, v_gl7, v_gl8, v_gl9, v_ow, v_ow2, v_iw, v_tb, v_pg, r_185 w hb, r_176, r_173, mj_up_ne, c1, g, if_true, if_false]
    try grind
  have ht : 0 ≤ m_ft V b a 2 ∧ m_ft V b a 2 < 120 := by omega
  have hx : 0 ≤ V 4 (m_ft V b a 2).toNat ∧ V 4 (m_ft V b a 2).toNat < 40 := by omega
  have hA := m_stA_ok (v := v) h hn hb c1
  have h17 := q_w17 (i := (V 4 (m_ft V b a 2).toNat).toNat) w (by omega)
  have h17b := hn (V 4 (m_ft V b a 2).toNat).toNat (by omega)
  by_cases k0 : V 14 (V 4 (m_ft V b a 2).toNat).toNat = 0
  · have g : m_st V b a = 1 := by unfold m_st; rw [if_pos (by omega)]
    have eA : mj_up V 16 (V 4 (m_ft V b a 2).toNat).toNat v = m_stA V b a v := by unfold m_stA; rw [if_pos k0]
    unfold m_stM
    simp (disch := omega) only [i_216_0, i_216_1, i_216_2, i_216_3, i_216_4, i_216_7, i_216_9, i_216_11, i_216_12, i_216_15, i_216_16, i_216_17, i_216_18, i_216_20, i_216_21, i_216_24, i_216_26, i_216_28, i_216_30, i_216_32, i_216_33, i_216_34, i_216_36, i_216_37, i_216_39, i_216_40, i_216_43, i_216_46, i_216_47, i_216_50, i_216_52, i_216_53, i_216_54, i_216_55, i_216_56, i_216_59, i_216_60, i_216_62, i_216_63, i_216_66, i_216_67, i_216_70, i_216_71, i_216_74, i_216_76, i_216_77, i_216_78, i_216_79, i_216_81, i_216_84, i_216_85, i_216_88, i_216_90, i_216_92, i_216_93, i_216_94, i_216_97, i_216_99, i_216_100, i_216_101, i_216_102, i_216_103, i_216_104, i_216_105, i_216_106, i_216_109, i_216_111, i_216_112, i_216_113, i_216_114, i_216_115, i_216_116, i_216_117, i_216_118, i_216_121, i_216_122, i_216_123, i_216_124, i_216_126, i_216_129, i_216_130, g_o172, g_r172_1, g_r172_2, g_r172_4, g_r172_5, g_r172_6, g_r172_7, g_r172_8, g_r172_16, g_r172_18, g_r172_19, g_r172_20, g_r172_21, g_a173, g_t173, exists_eq_left', Option.some.injEq, exists_eq_left, ne_eq, List.length_nil, List.length_cons, Option.toList_some, Option.toList_none, List.cons_append, List.nil_append, mj_wt_nil, mj_wt_i, mj_wt_r, mj_wt_l, true_and, and_true, false_and, and_false, true_implies, false_implies, implies_true, not_true_eq_false, not_false_eq_true, and_self, Int.reduceEq, Nat.reduceEqDiff, ↓reduceIte, mj_w_id2, Int.toNat_natCast, v_st_ne, v_rd, v_up, v_up_ne, v_rg, v_rg2, v_th0, v_th1, v_th2, v_th3, v_th4, v_th5, v_th6, v_th7, v_tk0, v_tk1, v_tk2, v_tk3, v_tk4, v_tk5, v_tk6, v_tk7, v_tk8, v_tk9, v_tk10, v_tk11, v_rn0, v_rn1, v_rn2, v_rn3, v_rn4, v_rn5, v_rn6, v_rn7, v_rn8, v_rn9, v_rn10, v_rn11, v_ws0, v_ws1, v_ws2, v_ws3, v_ws4, v_ws5, v_ws6, v_gl0, v_gl1, v_gl2, v_gl3, v_gl4, v_gl5, v_gl6, v_gl7, v_gl8, v_gl9, v_ow, v_ow2, v_iw, v_tb, v_pg, r_185 w hb, r_176, r_173, mj_up_ne, c1, k0, eA, r_194 hA ht, g, if_true, if_false]
    try grind
  by_cases k4 : V 14 (V 4 (m_ft V b a 2).toNat).toNat = 4
  · have g : m_st V b a = 1 := by unfold m_st; rw [if_pos (by omega)]
    have ew : mj_w (V 17 (V 4 (m_ft V b a 2).toNat).toNat + 1) = V 17 (V 4 (m_ft V b a 2).toNat).toNat + 1 := mj_w_id2 (by omega) (by omega)
    by_cases cn : V 17 (V 4 (m_ft V b a 2).toNat).toNat < 30
    · have eA : mj_up (mj_up V 20 (30 * V 4 (m_ft V b a 2).toNat + V 17 (V 4 (m_ft V b a 2).toNat).toNat).toNat v) 17 (V 4 (m_ft V b a 2).toNat).toNat (V 17 (V 4 (m_ft V b a 2).toNat).toNat + 1) = m_stA V b a v := by unfold m_stA m_stO; rw [if_neg k0, if_pos cn, ew]
      unfold m_stM
      simp (disch := omega) only [i_216_0, i_216_1, i_216_2, i_216_3, i_216_4, i_216_7, i_216_9, i_216_11, i_216_12, i_216_15, i_216_16, i_216_17, i_216_18, i_216_20, i_216_21, i_216_24, i_216_26, i_216_28, i_216_30, i_216_32, i_216_33, i_216_34, i_216_36, i_216_37, i_216_39, i_216_40, i_216_43, i_216_46, i_216_47, i_216_50, i_216_52, i_216_53, i_216_54, i_216_55, i_216_56, i_216_59, i_216_60, i_216_62, i_216_63, i_216_66, i_216_67, i_216_70, i_216_71, i_216_74, i_216_76, i_216_77, i_216_78, i_216_79, i_216_81, i_216_84, i_216_85, i_216_88, i_216_90, i_216_92, i_216_93, i_216_94, i_216_97, i_216_99, i_216_100, i_216_101, i_216_102, i_216_103, i_216_104, i_216_105, i_216_106, i_216_109, i_216_111, i_216_112, i_216_113, i_216_114, i_216_115, i_216_116, i_216_117, i_216_118, i_216_121, i_216_122, i_216_123, i_216_124, i_216_126, i_216_129, i_216_130, g_o172, g_r172_1, g_r172_2, g_r172_4, g_r172_5, g_r172_6, g_r172_7, g_r172_8, g_r172_16, g_r172_18, g_r172_19, g_r172_20, g_r172_21, g_a173, g_t173, exists_eq_left', Option.some.injEq, exists_eq_left, ne_eq, List.length_nil, List.length_cons, Option.toList_some, Option.toList_none, List.cons_append, List.nil_append, mj_wt_nil, mj_wt_i, mj_wt_r, mj_wt_l, true_and, and_true, false_and, and_false, true_implies, false_implies, implies_true, not_true_eq_false, not_false_eq_true, and_self, Int.reduceEq, Nat.reduceEqDiff, ↓reduceIte, mj_w_id2, Int.toNat_natCast, v_st_ne, v_rd, v_up, v_up_ne, v_rg, v_rg2, v_th0, v_th1, v_th2, v_th3, v_th4, v_th5, v_th6, v_th7, v_tk0, v_tk1, v_tk2, v_tk3, v_tk4, v_tk5, v_tk6, v_tk7, v_tk8, v_tk9, v_tk10, v_tk11, v_rn0, v_rn1, v_rn2, v_rn3, v_rn4, v_rn5, v_rn6, v_rn7, v_rn8, v_rn9, v_rn10, v_rn11, v_ws0, v_ws1, v_ws2, v_ws3, v_ws4, v_ws5, v_ws6, v_gl0, v_gl1, v_gl2, v_gl3, v_gl4, v_gl5, v_gl6, v_gl7, v_gl8, v_gl9, v_ow, v_ow2, v_iw, v_tb, v_pg, r_185 w hb, r_176, r_173, mj_up_ne, c1, k0, k4, cn, eA, r_194 hA ht, g, if_true, if_false]
      try grind
    · have eA : mj_up V 17 (V 4 (m_ft V b a 2).toNat).toNat (V 17 (V 4 (m_ft V b a 2).toNat).toNat + 1) = m_stA V b a v := by unfold m_stA m_stO; rw [if_neg k0, if_neg cn, ew]
      unfold m_stM
      simp (disch := omega) only [i_216_0, i_216_1, i_216_2, i_216_3, i_216_4, i_216_7, i_216_9, i_216_11, i_216_12, i_216_15, i_216_16, i_216_17, i_216_18, i_216_20, i_216_21, i_216_24, i_216_26, i_216_28, i_216_30, i_216_32, i_216_33, i_216_34, i_216_36, i_216_37, i_216_39, i_216_40, i_216_43, i_216_46, i_216_47, i_216_50, i_216_52, i_216_53, i_216_54, i_216_55, i_216_56, i_216_59, i_216_60, i_216_62, i_216_63, i_216_66, i_216_67, i_216_70, i_216_71, i_216_74, i_216_76, i_216_77, i_216_78, i_216_79, i_216_81, i_216_84, i_216_85, i_216_88, i_216_90, i_216_92, i_216_93, i_216_94, i_216_97, i_216_99, i_216_100, i_216_101, i_216_102, i_216_103, i_216_104, i_216_105, i_216_106, i_216_109, i_216_111, i_216_112, i_216_113, i_216_114, i_216_115, i_216_116, i_216_117, i_216_118, i_216_121, i_216_122, i_216_123, i_216_124, i_216_126, i_216_129, i_216_130, g_o172, g_r172_1, g_r172_2, g_r172_4, g_r172_5, g_r172_6, g_r172_7, g_r172_8, g_r172_16, g_r172_18, g_r172_19, g_r172_20, g_r172_21, g_a173, g_t173, exists_eq_left', Option.some.injEq, exists_eq_left, ne_eq, List.length_nil, List.length_cons, Option.toList_some, Option.toList_none, List.cons_append, List.nil_append, mj_wt_nil, mj_wt_i, mj_wt_r, mj_wt_l, true_and, and_true, false_and, and_false, true_implies, false_implies, implies_true, not_true_eq_false, not_false_eq_true, and_self, Int.reduceEq, Nat.reduceEqDiff, ↓reduceIte, mj_w_id2, Int.toNat_natCast, v_st_ne, v_rd, v_up, v_up_ne, v_rg, v_rg2, v_th0, v_th1, v_th2, v_th3, v_th4, v_th5, v_th6, v_th7, v_tk0, v_tk1, v_tk2, v_tk3, v_tk4, v_tk5, v_tk6, v_tk7, v_tk8, v_tk9, v_tk10, v_tk11, v_rn0, v_rn1, v_rn2, v_rn3, v_rn4, v_rn5, v_rn6, v_rn7, v_rn8, v_rn9, v_rn10, v_rn11, v_ws0, v_ws1, v_ws2, v_ws3, v_ws4, v_ws5, v_ws6, v_gl0, v_gl1, v_gl2, v_gl3, v_gl4, v_gl5, v_gl6, v_gl7, v_gl8, v_gl9, v_ow, v_ow2, v_iw, v_tb, v_pg, r_185 w hb, r_176, r_173, mj_up_ne, c1, k0, k4, cn, eA, r_194 hA ht, g, if_true, if_false]
      try grind
  · have g : m_st V b a = 0 := by unfold m_st; rw [if_neg (by omega)]
    unfold m_stM
    simp (disch := omega) only [i_216_0, i_216_1, i_216_2, i_216_3, i_216_4, i_216_7, i_216_9, i_216_11, i_216_12, i_216_15, i_216_16, i_216_17, i_216_18, i_216_20, i_216_21, i_216_24, i_216_26, i_216_28, i_216_30, i_216_32, i_216_33, i_216_34, i_216_36, i_216_37, i_216_39, i_216_40, i_216_43, i_216_46, i_216_47, i_216_50, i_216_52, i_216_53, i_216_54, i_216_55, i_216_56, i_216_59, i_216_60, i_216_62, i_216_63, i_216_66, i_216_67, i_216_70, i_216_71, i_216_74, i_216_76, i_216_77, i_216_78, i_216_79, i_216_81, i_216_84, i_216_85, i_216_88, i_216_90, i_216_92, i_216_93, i_216_94, i_216_97, i_216_99, i_216_100, i_216_101, i_216_102, i_216_103, i_216_104, i_216_105, i_216_106, i_216_109, i_216_111, i_216_112, i_216_113, i_216_114, i_216_115, i_216_116, i_216_117, i_216_118, i_216_121, i_216_122, i_216_123, i_216_124, i_216_126, i_216_129, i_216_130, g_o172, g_r172_1, g_r172_2, g_r172_4, g_r172_5, g_r172_6, g_r172_7, g_r172_8, g_r172_16, g_r172_18, g_r172_19, g_r172_20, g_r172_21, g_a173, g_t173, exists_eq_left', Option.some.injEq, exists_eq_left, ne_eq, List.length_nil, List.length_cons, Option.toList_some, Option.toList_none, List.cons_append, List.nil_append, mj_wt_nil, mj_wt_i, mj_wt_r, mj_wt_l, true_and, and_true, false_and, and_false, true_implies, false_implies, implies_true, not_true_eq_false, not_false_eq_true, and_self, Int.reduceEq, Nat.reduceEqDiff, ↓reduceIte, mj_w_id2, Int.toNat_natCast, v_st_ne, v_rd, v_up, v_up_ne, v_rg, v_rg2, v_th0, v_th1, v_th2, v_th3, v_th4, v_th5, v_th6, v_th7, v_tk0, v_tk1, v_tk2, v_tk3, v_tk4, v_tk5, v_tk6, v_tk7, v_tk8, v_tk9, v_tk10, v_tk11, v_rn0, v_rn1, v_rn2, v_rn3, v_rn4, v_rn5, v_rn6, v_rn7, v_rn8, v_rn9, v_rn10, v_rn11, v_ws0, v_ws1, v_ws2, v_ws3, v_ws4, v_ws5, v_ws6, v_gl0, v_gl1, v_gl2, v_gl3, v_gl4, v_gl5, v_gl6, v_gl7, v_gl8, v_gl9, v_ow, v_ow2, v_iw, v_tb, v_pg, r_185 w hb, r_176, r_173, mj_up_ne, c1, k0, k4, r_194 hA ht, g, if_true, if_false]
    try grind
end sp89
