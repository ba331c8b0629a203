section sp85
variable {x : Nat} {M V : mj_M} {Q : Option mj_V → mj_G → mj_M → Prop} {d : Nat}
theorem m_less_o {A : mj_M} (h7 : A 7 = V 7) (h : A 212 = V 212) : m_less V A := ⟨h7, fun k hk => by rw [h] at hk; exact hk⟩
theorem q_for_o {F : Nat → mj_M → mj_M} {a : Nat} (h : ∀ t A, F t A a = A a) : ∀ (n t : Nat) (A : mj_M), q_for F n t A a = A a := by
  intro n
  induction n with
  | zero => intro t A; rfl
  | succ n ih => intro t A; rw [q_for, ih, h]
theorem m_gtA_o {y : Int} {a : Nat} (h : a ≠ 1 ∧ a ≠ 6 ∧ a ≠ 210) : m_gtA V y a = V a := by
  unfold m_gtA; split
  · rw [mj_up_ne (by omega), mj_up_ne (by omega)]
  · rw [mj_up_ne (by omega), mj_up_ne (by omega)]
theorem m_gt_o {y : Int} {a : Nat} (h : a ≠ 1 ∧ a ≠ 6 ∧ a ≠ 10 ∧ (a < 24 ∨ 30 < a) ∧ a ≠ 131 ∧ a ≠ 210) : m_gt V y a = V a := by
  have e1 : ∀ t A, f_m200t y t A a = A a := by
    intro t A; unfold f_m200t; split
    · rw [mj_up_ne (by omega)]
    · rfl
  have e2 : ∀ k t A, f_m200r y k t A a = A a := fun k t A => f_m200r_o (by omega)
  have e3 : ∀ t A, f_m200s y t A a = A a := by
    intro t A; unfold f_m200s m_mk; split
    · rfl
    · rw [mj_up_ne (by omega)]
  unfold m_gt m_gtS
  have e4 : m_gtR (q_for (f_m200t y) 120 0 (m_gtA V y)) y (V 14 y.toNat) a = V a := by
    unfold m_gtR
    rw [q_for_o (e2 _), q_for_o e1, m_gtA_o (by omega)]
  split
  · rw [q_for_o e3, e4]
  · exact e4
theorem m_gt_210 {y : Int} : m_gt V y 210 = mj_up V 210 y.toNat 0 210 := by
  have e1 : ∀ t A, f_m200t y t A 210 = A 210 := by
    intro t A; unfold f_m200t; split
    · rw [mj_up_ne (by omega)]
    · rfl
  have e2 : ∀ k t A, f_m200r y k t A 210 = A 210 := fun k t A => f_m200r_o (by omega)
  have e3 : ∀ t A, f_m200s y t A 210 = A 210 := by
    intro t A; unfold f_m200s m_mk; split
    · rfl
    · rw [mj_up_ne (by omega)]
  have e5 : m_gtA V y 210 = mj_up V 210 y.toNat 0 210 := by
    unfold m_gtA; split
    · rw [mj_up_ne (by omega)]
    · rw [mj_up_ne (by omega)]
  have e4 : m_gtR (q_for (f_m200t y) 120 0 (m_gtA V y)) y (V 14 y.toNat) 210 = mj_up V 210 y.toNat 0 210 := by
    unfold m_gtR
    rw [q_for_o (e2 _), q_for_o e1, e5]
  unfold m_gt m_gtS
  split
  · rw [q_for_o e3, e4]
  · exact e4
theorem m_gt_less {y : Int} : m_less V (m_gt V y) := m_less_o (m_gt_o (by omega)) (m_gt_o (by omega))
theorem m_go2_210 {t : Int} : m_go2 V t 210 = V 210 := by
  unfold m_go2
  rw [q_for_o]
  · unfold m_go1; split
    · rw [mj_up_ne (by omega), mj_up_ne (by omega), mj_up_ne (by omega)]
    · rw [mj_up_ne (by omega), mj_up_ne (by omega), mj_up_ne (by omega)]
  · intro y A; unfold f_m198; split
    · rw [mj_up_ne (by omega)]
    · rfl
theorem m_goes_210 : ∀ (n : Nat) (t : Int) (V : mj_M), m_goes n t V 210 = V 210 := by
  intro n
  induction n with
  | zero => intro t V; rfl
  | succ n ih =>
    intro t V
    unfold m_goes
    rw [m_go2_210, q_for_o]
    intro k A
    split
    · exact ih _ _
    · rfl
def f_swT (t : Nat) (V : mj_M) : mj_M := if V 212 t = 1 ∧ V 131 t = 1 then m_goes 120 (t : Int) V else V
def f_swX (y : Nat) (V : mj_M) : mj_M := if V 210 y = 0 ∨ 0 < m_to V (y : Int) 120 0 0 then V else m_gt V (y : Int)
def m_swF : Nat → Nat → mj_M → Int → Int
  | 0, _, _, c => c
  | n + 1, y, V, c => m_swF n (y + 1) (f_swX y V) (if V 210 y = 0 ∨ 0 < m_to V (y : Int) 120 0 0 then c else 1)
def m_swP (V : mj_M) : mj_M := q_for f_swX 39 1 (q_for f_swT 120 0 V)
def m_swG (V : mj_M) : Int := m_swF 39 1 (q_for f_swT 120 0 V) 0
def m_sw : Nat → mj_M → mj_M
  | 0, V => V
  | n + 1, V => if m_swG V = 0 then m_swP V else m_sw n (m_swP V)
theorem f_swT_w {t : Nat} (w : q_wr V) : q_wr (f_swT t V) := by unfold f_swT; split; exact m_goes_w _ _ _ w; exact w
theorem f_swX_w {t : Nat} (w : q_wr V) : q_wr (f_swX t V) := by unfold f_swX; split; exact w; exact m_gt_w w
theorem f_swT_less {t : Nat} : m_less V (f_swT t V) := by unfold f_swT; split; exact m_goes_less _ _ _; exact m_less_r
theorem f_swX_less {t : Nat} : m_less V (f_swX t V) := by unfold f_swX; split; exact m_less_r; exact m_gt_less
theorem m_swT_w (w : q_wr V) : q_wr (q_for f_swT 120 0 V) := q_for_inv (N := 120) (P := fun _ A => q_wr A) (fun t A _ h => f_swT_w h) 120 0 V rfl w
theorem m_swT_less : m_less V (q_for f_swT 120 0 V) := q_for_inv (N := 120) (P := fun _ A => m_less V A) (fun t A _ h => m_less_t h f_swT_less) 120 0 V rfl m_less_r
theorem m_swP_w (w : q_wr V) : q_wr (m_swP V) := q_for_inv (N := 40) (P := fun _ A => q_wr A) (fun t A _ h => f_swX_w h) 39 1 _ rfl (m_swT_w w)
theorem m_swP_less : m_less V (m_swP V) := q_for_inv (N := 40) (P := fun _ A => m_less V A) (fun t A _ h => m_less_t h f_swX_less) 39 1 _ rfl m_swT_less
theorem m_swF_01 : ∀ (n y : Nat) (V : mj_M) (c : Int), c = 0 ∨ c = 1 → m_swF n y V c = 0 ∨ m_swF n y V c = 1 := by
  intro n
  induction n with
  | zero => intro y V c h; exact h
  | succ n ih => intro y V c h; exact ih _ _ _ (by split <;> simp [h])
/-- how many things there are -/
def m_cx (V : mj_M) : Int := q_sum (fun y => if V 210 y = 0 then 0 else 1) 40 0
theorem q_sum_le {f g : Nat → Int} (h : ∀ k, f k ≤ g k) : ∀ (n t : Nat), q_sum f n t ≤ q_sum g n t := by
  intro n
  induction n with
  | zero => intro t; simp [q_sum]
  | succ n ih => intro t; have := ih (t + 1); have := h t; simp only [q_sum]; omega
theorem q_sum_lt {f g : Nat → Int} (h : ∀ k, f k ≤ g k) : ∀ (n t k : Nat), t ≤ k → k < t + n → f k < g k → q_sum f n t + 1 ≤ q_sum g n t := by
  intro n
  induction n with
  | zero => intro t k h1 h2 h3; omega
  | succ n ih =>
    intro t k h1 h2 h3
    simp only [q_sum]
    by_cases hk : k = t
    · subst hk
      have := q_sum_le h n (k + 1)
      omega
    · have := ih (t + 1) k (by omega) (by omega) h3
      have := h t
      omega
theorem m_cx_b : 0 ≤ m_cx V ∧ m_cx V ≤ 40 := q_sum_b (fun t => by split <;> omega) 40 0
theorem m_cx_gt {y : Nat} (hy : y < 40) (h : V 210 y ≠ 0) : m_cx (m_gt V (y : Int)) + 1 ≤ m_cx V := by
  unfold m_cx
  rw [m_gt_210]
  refine q_sum_lt (fun k => ?_) 40 0 y (by omega) (by omega) ?_
  · simp only [mj_up, if_true, Int.toNat_natCast]
    repeat' split
    all_goals omega
  · simp only [mj_up, if_true, Int.toNat_natCast]
    rw [if_neg h]
    omega
theorem m_swF_cx : ∀ (n y : Nat) (V : mj_M) (c : Int), y + n = 40 → c = 0 ∨ c = 1 → m_cx (q_for f_swX n y V) + (m_swF n y V c - c) ≤ m_cx V := by
  intro n
  induction n with
  | zero => intro y V c h hc; simp [q_for, m_swF]
  | succ n ih =>
    intro y V c h hc
    rw [q_for, m_swF]
    have i1 := ih (y + 1) (f_swX y V) (if V 210 y = 0 ∨ 0 < m_to V (y : Int) 120 0 0 then c else 1) (by omega) (by split <;> simp [hc])
    unfold f_swX at i1 ⊢
    split
    · rename_i hh
      simp only [hh, if_true] at i1
      exact i1
    · rename_i hh
      rw [if_neg hh, if_neg hh] at i1
      have := m_cx_gt (V := V) (y := y) (by omega) (by omega)
      omega
theorem m_swT_210 : q_for f_swT 120 0 V 210 = V 210 := by
  rw [q_for_o]
  intro t A; unfold f_swT; split
  · exact m_goes_210 _ _ _
  · rfl
theorem m_swP_cx : m_cx (m_swP V) + m_swG V ≤ m_cx V := by
  have h := m_swF_cx 39 1 (q_for f_swT 120 0 V) 0 rfl (Or.inl rfl)
  have e : m_cx (q_for f_swT 120 0 V) = m_cx V := by unfold m_cx; rw [m_swT_210]
  unfold m_swP m_swG
  omega
theorem l_197t {ρ : Nat → Nat} (hρ : ∀ k, ρ k < 120) : ∀ (n t : Nat) (V : mj_M), t + n = 120 → (q_wr V ∧ m_acy ρ V) → mj_Rn (d + 122) 197 10 [.inr (.inl 172), .inl 0, .inl (t : Int)] [] (SGx x) (v_st V M) Q = mj_Rn (d + 122) 197 48 [.inr (.inl 172), .inl 0, .inl 120] [] (SGx x) (v_st (q_for f_swT n t V) M) Q := by
  refine q_for_rule (N := 120) (F := f_swT) (P := fun t V => q_wr V ∧ m_acy ρ V) (H := fun t V => mj_Rn (d + 122) 197 10 [.inr (.inl 172), .inl 0, .inl (t : Int)] [] (SGx x) (v_st V M) Q) (E := fun V => mj_Rn (d + 122) 197 48 [.inr (.inl 172), .inl 0, .inl 120] [] (SGx x) (v_st V M) Q) ?_ ?_
  · intro t V ht hP
    obtain ⟨w, ha⟩ := hP
    refine ⟨⟨f_swT_w w, m_acy_less ha f_swT_less⟩, ?_⟩
    have h1t : ((t + 1 : Nat) : Int) = (t : Int) + 1 := by push_cast; rfl
    have ht2 : (0 : Int) ≤ t ∧ (t : Int) < 120 := by omega
    have hg : ∀ Q, mj_Rn (d + 121) 198 0 [.inr (.inl 172), .inl (t : Int), .inr (.inr 0), .inr (.inr 0)] [] (SGx x) (v_st V M) Q = Q none (SGx x) (v_st (m_goes 120 (t : Int) V) M) := fun Q => r_198 120 (t : Int) V d Q w ha ht2 (hρ _)
    simp only [h1t]
    rw [i_197_10]
    by_cases c1 : V 212 t = 1
    · by_cases c2 : V 131 t = 1
      · unfold f_swT
        simp (disch := omega) only [i_197_0, i_197_1, i_197_3, i_197_6, i_197_7, i_197_8, i_197_9, i_197_11, i_197_13, i_197_16, i_197_17, i_197_18, i_197_19, i_197_22, i_197_23, i_197_26, i_197_27, i_197_28, i_197_30, i_197_33, i_197_34, i_197_37, i_197_38, i_197_39, i_197_42, i_197_45, i_197_49, i_197_51, i_197_53, i_197_56, i_197_57, i_197_58, i_197_59, i_197_62, i_197_65, i_197_66, i_197_67, i_197_70, i_197_73, i_197_76, i_197_77, i_197_78, i_197_81, i_197_82, i_197_83, i_197_86, i_197_89, i_197_92, g_o172, g_r172_1, g_r172_2, g_r172_4, g_r172_5, g_r172_6, g_r172_7, g_r172_8, g_r172_16, g_r172_18, g_r172_19, g_r172_20, g_r172_21, g_a173, g_t173, exists_eq_left', Option.some.injEq, exists_eq_left, ne_eq, List.length_nil, List.length_cons, Option.toList_some, Option.toList_none, List.cons_append, List.nil_append, mj_wt_nil, mj_wt_i, mj_wt_r, mj_wt_l, true_and, and_true, false_and, and_false, true_implies, false_implies, implies_true, not_true_eq_false, not_false_eq_true, and_self, Int.reduceEq, Nat.reduceEqDiff, ↓reduceIte, mj_w_id2, Int.toNat_natCast, v_st_ne, v_rd, v_up, v_up_ne, v_rg, v_rg2, v_th0, v_th1, v_th2, v_th3, v_th4, v_th5, v_th6, v_th7, v_tk0, v_tk1, v_tk2, v_tk3, v_tk4, v_tk5, v_tk6, v_tk7, v_tk8, v_tk9, v_tk10, v_tk11, v_rn0, v_rn1, v_rn2, v_rn3, v_rn4, v_rn5, v_rn6, v_rn7, v_rn8, v_rn9, v_rn10, v_rn11, v_ws0, v_ws1, v_ws2, v_ws3, v_ws4, v_ws5, v_ws6, v_gl0, v_gl1, v_gl2, v_gl3, v_gl4, v_gl5, v_gl6, v_gl7, v_gl8, v_gl9, v_ow, v_ow2, v_iw, v_tb, v_pg, r_176, hg, c1, c2, and_self, if_true, if_false]
        try grind [mj_w]
      · unfold f_swT
        simp (disch := omega) only [i_197_0, i_197_1, i_197_3, i_197_6, i_197_7, i_197_8, i_197_9, i_197_11, i_197_13, i_197_16, i_197_17, i_197_18, i_197_19, i_197_22, i_197_23, i_197_26, i_197_27, i_197_28, i_197_30, i_197_33, i_197_34, i_197_37, i_197_38, i_197_39, i_197_42, i_197_45, i_197_49, i_197_51, i_197_53, i_197_56, i_197_57, i_197_58, i_197_59, i_197_62, i_197_65, i_197_66, i_197_67, i_197_70, i_197_73, i_197_76, i_197_77, i_197_78, i_197_81, i_197_82, i_197_83, i_197_86, i_197_89, i_197_92, g_o172, g_r172_1, g_r172_2, g_r172_4, g_r172_5, g_r172_6, g_r172_7, g_r172_8, g_r172_16, g_r172_18, g_r172_19, g_r172_20, g_r172_21, g_a173, g_t173, exists_eq_left', Option.some.injEq, exists_eq_left, ne_eq, List.length_nil, List.length_cons, Option.toList_some, Option.toList_none, List.cons_append, List.nil_append, mj_wt_nil, mj_wt_i, mj_wt_r, mj_wt_l, true_and, and_true, false_and, and_false, true_implies, false_implies, implies_true, not_true_eq_false, not_false_eq_true, and_self, Int.reduceEq, Nat.reduceEqDiff, ↓reduceIte, mj_w_id2, Int.toNat_natCast, v_st_ne, v_rd, v_up, v_up_ne, v_rg, v_rg2, v_th0, v_th1, v_th2, v_th3, v_th4, v_th5, v_th6, v_th7, v_tk0, v_tk1, v_tk2, v_tk3, v_tk4, v_tk5, v_tk6, v_tk7, v_tk8, v_tk9, v_tk10, v_tk11, v_rn0, v_rn1, v_rn2, v_rn3, v_rn4, v_rn5, v_rn6, v_rn7, v_rn8, v_rn9, v_rn10, v_rn11, v_ws0, v_ws1, v_ws2, v_ws3, v_ws4, v_ws5, v_ws6, v_gl0, v_gl1, v_gl2, v_gl3, v_gl4, v_gl5, v_gl6, v_gl7, v_gl8, v_gl9, v_ow, v_ow2, v_iw, v_tb, v_pg, r_176, hg, c1, c2, and_self, if_true, if_false]
        try grind [mj_w]
    · unfold f_swT
      simp (disch := omega) only [i_197_0, i_197_1, i_197_3, i_197_6, i_197_7, i_197_8, i_197_9, i_197_11, i_197_13, i_197_16, i_197_17, i_197_18, i_197_19, i_197_22, i_197_23, i_197_26, i_197_27, i_197_28, i_197_30, i_197_33, i_197_34, i_197_37, i_197_38, i_197_39, i_197_42, i_197_45, i_197_49, i_197_51, i_197_53, i_197_56, i_197_57, i_197_58, i_197_59, i_197_62, i_197_65, i_197_66, i_197_67, i_197_70, i_197_73, i_197_76, i_197_77, i_197_78, i_197_81, i_197_82, i_197_83, i_197_86, i_197_89, i_197_92, g_o172, g_r172_1, g_r172_2, g_r172_4, g_r172_5, g_r172_6, g_r172_7, g_r172_8, g_r172_16, g_r172_18, g_r172_19, g_r172_20, g_r172_21, g_a173, g_t173, exists_eq_left', Option.some.injEq, exists_eq_left, ne_eq, List.length_nil, List.length_cons, Option.toList_some, Option.toList_none, List.cons_append, List.nil_append, mj_wt_nil, mj_wt_i, mj_wt_r, mj_wt_l, true_and, and_true, false_and, and_false, true_implies, false_implies, implies_true, not_true_eq_false, not_false_eq_true, and_self, Int.reduceEq, Nat.reduceEqDiff, ↓reduceIte, mj_w_id2, Int.toNat_natCast, v_st_ne, v_rd, v_up, v_up_ne, v_rg, v_rg2, v_th0, v_th1, v_th2, v_th3, v_th4, v_th5, v_th6, v_th7, v_tk0, v_tk1, v_tk2, v_tk3, v_tk4, v_tk5, v_tk6, v_tk7, v_tk8, v_tk9, v_tk10, v_tk11, v_rn0, v_rn1, v_rn2, v_rn3, v_rn4, v_rn5, v_rn6, v_rn7, v_rn8, v_rn9, v_rn10, v_rn11, v_ws0, v_ws1, v_ws2, v_ws3, v_ws4, v_ws5, v_ws6, v_gl0, v_gl1, v_gl2, v_gl3, v_gl4, v_gl5, v_gl6, v_gl7, v_gl8, v_gl9, v_ow, v_ow2, v_iw, v_tb, v_pg, r_176, hg, c1, and_self, if_true, if_false]
      try grind [mj_w]
  · intro V hP
    rw [i_197_10]
    simp (disch := omega) only [i_197_0, i_197_1, i_197_3, i_197_6, i_197_7, i_197_8, i_197_9, i_197_11, i_197_13, i_197_16, i_197_17, i_197_18, i_197_19, i_197_22, i_197_23, i_197_26, i_197_27, i_197_28, i_197_30, i_197_33, i_197_34, i_197_37, i_197_38, i_197_39, i_197_42, i_197_45, i_197_49, i_197_51, i_197_53, i_197_56, i_197_57, i_197_58, i_197_59, i_197_62, i_197_65, i_197_66, i_197_67, i_197_70, i_197_73, i_197_76, i_197_77, i_197_78, i_197_81, i_197_82, i_197_83, i_197_86, i_197_89, i_197_92, g_o172, g_r172_1, g_r172_2, g_r172_4, g_r172_5, g_r172_6, g_r172_7, g_r172_8, g_r172_16, g_r172_18, g_r172_19, g_r172_20, g_r172_21, g_a173, g_t173, exists_eq_left', Option.some.injEq, exists_eq_left, ne_eq, List.length_nil, List.length_cons, Option.toList_some, Option.toList_none, List.cons_append, List.nil_append, mj_wt_nil, mj_wt_i, mj_wt_r, mj_wt_l, true_and, and_true, false_and, and_false, true_implies, false_implies, implies_true, not_true_eq_false, not_false_eq_true, and_self, Int.reduceEq, Nat.reduceEqDiff, ↓reduceIte, mj_w_id2, Int.toNat_natCast, v_st_ne, v_rd, v_up, v_up_ne, v_rg, v_rg2, v_th0, v_th1, v_th2, v_th3, v_th4, v_th5, v_th6, v_th7, v_tk0, v_tk1, v_tk2, v_tk3, v_tk4, v_tk5, v_tk6, v_tk7, v_tk8, v_tk9, v_tk10, v_tk11, v_rn0, v_rn1, v_rn2, v_rn3, v_rn4, v_rn5, v_rn6, v_rn7, v_rn8, v_rn9, v_rn10, v_rn11, v_ws0, v_ws1, v_ws2, v_ws3, v_ws4, v_ws5, v_ws6, v_gl0, v_gl1, v_gl2, v_gl3, v_gl4, v_gl5, v_gl6, v_gl7, v_gl8, v_gl9, v_ow, v_ow2, v_iw, v_tb, v_pg, r_176, and_self, if_true, if_false]
    try grind [mj_w]
theorem l_197x (n : Nat) : ∀ (y : Nat) (c : Int) (V : mj_M), y + n = 40 → c = 0 ∨ c = 1 → q_wr V → mj_Rn (d + 122) 197 50 [.inr (.inl 172), .inl c, .inl (y : Int)] [] (SGx x) (v_st V M) Q = mj_Rn (d + 122) 197 89 [.inr (.inl 172), .inl (m_swF n y V c), .inl 40] [] (SGx x) (v_st (q_for f_swX n y V) M) Q := by
  induction n with
  | zero =>
    intro y c V h hc w
    rw [i_197_50, q_for, m_swF]
    simp (disch := omega) only [i_197_0, i_197_1, i_197_3, i_197_6, i_197_7, i_197_8, i_197_9, i_197_11, i_197_13, i_197_16, i_197_17, i_197_18, i_197_19, i_197_22, i_197_23, i_197_26, i_197_27, i_197_28, i_197_30, i_197_33, i_197_34, i_197_37, i_197_38, i_197_39, i_197_42, i_197_45, i_197_48, i_197_49, i_197_51, i_197_53, i_197_56, i_197_57, i_197_58, i_197_59, i_197_62, i_197_65, i_197_66, i_197_67, i_197_70, i_197_73, i_197_76, i_197_77, i_197_78, i_197_81, i_197_82, i_197_83, i_197_86, i_197_92, g_o172, g_r172_1, g_r172_2, g_r172_4, g_r172_5, g_r172_6, g_r172_7, g_r172_8, g_r172_16, g_r172_18, g_r172_19, g_r172_20, g_r172_21, g_a173, g_t173, exists_eq_left', Option.some.injEq, exists_eq_left, ne_eq, List.length_nil, List.length_cons, Option.toList_some, Option.toList_none, List.cons_append, List.nil_append, mj_wt_nil, mj_wt_i, mj_wt_r, mj_wt_l, true_and, and_true, false_and, and_false, true_implies, false_implies, implies_true, not_true_eq_false, not_false_eq_true, and_self, Int.reduceEq, Nat.reduceEqDiff, ↓reduceIte, mj_w_id2, Int.toNat_natCast, v_st_ne, v_rd, v_up, v_up_ne, v_rg, v_rg2, v_th0, v_th1, v_th2, v_th3, v_th4, v_th5, v_th6, v_th7, v_tk0, v_tk1, v_tk2, v_tk3, v_tk4, v_tk5, v_tk6, v_tk7, v_tk8, v_tk9, v_tk10, v_tk11, v_rn0, v_rn1, v_rn2, v_rn3, v_rn4, v_rn5, v_rn6, v_rn7, v_rn8, v_rn9, v_rn10, v_rn11, v_ws0, v_ws1, v_ws2, v_ws3, v_ws4, v_ws5, v_ws6, v_gl0, v_gl1, v_gl2, v_gl3, v_gl4, v_gl5, v_gl6, v_gl7, v_gl8, v_gl9, v_ow, v_ow2, v_iw, v_tb, v_pg, r_173, r_199, Int.not_lt, gt_iff_lt]
    try grind
  | succ n ih =>
    intro y c V h hc w
    have hy2 : (0 : Int) ≤ y ∧ (y : Int) < 40 := by omega
    have i1 := ih (y + 1) (if V 210 y = 0 ∨ 0 < m_to V (y : Int) 120 0 0 then c else 1) (f_swX y V) (by omega) (by split <;> simp [hc]) (f_swX_w w)
    push_cast at i1
    clear ih
    rw [i_197_50, q_for, m_swF]
    unfold f_swX at i1 ⊢
    by_cases c1 : V 210 y = 0
    · simp only [c1, true_or, if_true] at i1 ⊢
      simp (disch := omega) only [i_197_0, i_197_1, i_197_3, i_197_6, i_197_7, i_197_8, i_197_9, i_197_11, i_197_13, i_197_16, i_197_17, i_197_18, i_197_19, i_197_22, i_197_23, i_197_26, i_197_27, i_197_28, i_197_30, i_197_33, i_197_34, i_197_37, i_197_38, i_197_39, i_197_42, i_197_45, i_197_48, i_197_49, i_197_51, i_197_53, i_197_56, i_197_57, i_197_58, i_197_59, i_197_62, i_197_65, i_197_66, i_197_67, i_197_70, i_197_73, i_197_76, i_197_77, i_197_78, i_197_81, i_197_82, i_197_83, i_197_86, i_197_92, g_o172, g_r172_1, g_r172_2, g_r172_4, g_r172_5, g_r172_6, g_r172_7, g_r172_8, g_r172_16, g_r172_18, g_r172_19, g_r172_20, g_r172_21, g_a173, g_t173, exists_eq_left', Option.some.injEq, exists_eq_left, ne_eq, List.length_nil, List.length_cons, Option.toList_some, Option.toList_none, List.cons_append, List.nil_append, mj_wt_nil, mj_wt_i, mj_wt_r, mj_wt_l, true_and, and_true, false_and, and_false, true_implies, false_implies, implies_true, not_true_eq_false, not_false_eq_true, and_self, Int.reduceEq, Nat.reduceEqDiff, ↓reduceIte, mj_w_id2, Int.toNat_natCast, v_st_ne, v_rd, v_up, v_up_ne, v_rg, v_rg2, v_th0, v_th1, v_th2, v_th3, v_th4, v_th5, v_th6, v_th7, v_tk0, v_tk1, v_tk2, v_tk3, v_tk4, v_tk5, v_tk6, v_tk7, v_tk8, v_tk9, v_tk10, v_tk11, v_rn0, v_rn1, v_rn2, v_rn3, v_rn4, v_rn5, v_rn6, v_rn7, v_rn8, v_rn9, v_rn10, v_rn11, v_ws0, v_ws1, v_ws2, v_ws3, v_ws4, v_ws5, v_ws6, v_gl0, v_gl1, v_gl2, v_gl3, v_gl4, v_gl5, v_gl6, v_gl7, v_gl8, v_gl9, v_ow, v_ow2, v_iw, v_tb, v_pg, r_173, r_199, r_200 w hy2, i1, c1, Int.not_lt, gt_iff_lt]
      try grind [mj_w]
    · by_cases c2 : 0 < m_to V (y : Int) 120 0 0
      · simp only [c1, c2, or_true, if_true] at i1 ⊢
        simp (disch := omega) only [i_197_0, i_197_1, i_197_3, i_197_6, i_197_7, i_197_8, i_197_9, i_197_11, i_197_13, i_197_16, i_197_17, i_197_18, i_197_19, i_197_22, i_197_23, i_197_26, i_197_27, i_197_28, i_197_30, i_197_33, i_197_34, i_197_37, i_197_38, i_197_39, i_197_42, i_197_45, i_197_48, i_197_49, i_197_51, i_197_53, i_197_56, i_197_57, i_197_58, i_197_59, i_197_62, i_197_65, i_197_66, i_197_67, i_197_70, i_197_73, i_197_76, i_197_77, i_197_78, i_197_81, i_197_82, i_197_83, i_197_86, i_197_92, g_o172, g_r172_1, g_r172_2, g_r172_4, g_r172_5, g_r172_6, g_r172_7, g_r172_8, g_r172_16, g_r172_18, g_r172_19, g_r172_20, g_r172_21, g_a173, g_t173, exists_eq_left', Option.some.injEq, exists_eq_left, ne_eq, List.length_nil, List.length_cons, Option.toList_some, Option.toList_none, List.cons_append, List.nil_append, mj_wt_nil, mj_wt_i, mj_wt_r, mj_wt_l, true_and, and_true, false_and, and_false, true_implies, false_implies, implies_true, not_true_eq_false, not_false_eq_true, and_self, Int.reduceEq, Nat.reduceEqDiff, ↓reduceIte, mj_w_id2, Int.toNat_natCast, v_st_ne, v_rd, v_up, v_up_ne, v_rg, v_rg2, v_th0, v_th1, v_th2, v_th3, v_th4, v_th5, v_th6, v_th7, v_tk0, v_tk1, v_tk2, v_tk3, v_tk4, v_tk5, v_tk6, v_tk7, v_tk8, v_tk9, v_tk10, v_tk11, v_rn0, v_rn1, v_rn2, v_rn3, v_rn4, v_rn5, v_rn6, v_rn7, v_rn8, v_rn9, v_rn10, v_rn11, v_ws0, v_ws1, v_ws2, v_ws3, v_ws4, v_ws5, v_ws6, v_gl0, v_gl1, v_gl2, v_gl3, v_gl4, v_gl5, v_gl6, v_gl7, v_gl8, v_gl9, v_ow, v_ow2, v_iw, v_tb, v_pg, r_173, r_199, r_200 w hy2, i1, c1, c2, Int.not_lt, gt_iff_lt]
        try grind [mj_w]
      · simp only [c1, c2, or_self, if_false] at i1 ⊢
        simp (disch := omega) only [i_197_0, i_197_1, i_197_3, i_197_6, i_197_7, i_197_8, i_197_9, i_197_11, i_197_13, i_197_16, i_197_17, i_197_18, i_197_19, i_197_22, i_197_23, i_197_26, i_197_27, i_197_28, i_197_30, i_197_33, i_197_34, i_197_37, i_197_38, i_197_39, i_197_42, i_197_45, i_197_48, i_197_49, i_197_51, i_197_53, i_197_56, i_197_57, i_197_58, i_197_59, i_197_62, i_197_65, i_197_66, i_197_67, i_197_70, i_197_73, i_197_76, i_197_77, i_197_78, i_197_81, i_197_82, i_197_83, i_197_86, i_197_92, g_o172, g_r172_1, g_r172_2, g_r172_4, g_r172_5, g_r172_6, g_r172_7, g_r172_8, g_r172_16, g_r172_18, g_r172_19, g_r172_20, g_r172_21, g_a173, g_t173, exists_eq_left', Option.some.injEq, exists_eq_left, ne_eq, List.length_nil, List.length_cons, Option.toList_some, Option.toList_none, List.cons_append, List.nil_append, mj_wt_nil, mj_wt_i, mj_wt_r, mj_wt_l, true_and, and_true, false_and, and_false, true_implies, false_implies, implies_true, not_true_eq_false, not_false_eq_true, and_self, Int.reduceEq, Nat.reduceEqDiff, ↓reduceIte, mj_w_id2, Int.toNat_natCast, v_st_ne, v_rd, v_up, v_up_ne, v_rg, v_rg2, v_th0, v_th1, v_th2, v_th3, v_th4, v_th5, v_th6, v_th7, v_tk0, v_tk1, v_tk2, v_tk3, v_tk4, v_tk5, v_tk6, v_tk7, v_tk8, v_tk9, v_tk10, v_tk11, v_rn0, v_rn1, v_rn2, v_rn3, v_rn4, v_rn5, v_rn6, v_rn7, v_rn8, v_rn9, v_rn10, v_rn11, v_ws0, v_ws1, v_ws2, v_ws3, v_ws4, v_ws5, v_ws6, v_gl0, v_gl1, v_gl2, v_gl3, v_gl4, v_gl5, v_gl6, v_gl7, v_gl8, v_gl9, v_ow, v_ow2, v_iw, v_tb, v_pg, r_173, r_199, r_200 w hy2, i1, c1, c2, Int.not_lt, gt_iff_lt]
        try grind [mj_w]
theorem r_197 {ρ : Nat → Nat} (hρ : ∀ k, ρ k < 120) (n : Nat) : ∀ (v : mj_V) (V : mj_M), q_wr V → m_acy ρ V → m_cx V < n → mj_Rn (d + 122) 197 2 [.inr (.inl 172), .inl 1, v] [] (SGx x) (v_st V M) Q = Q none (SGx x) (v_st (m_sw n V) M) := by
  induction n with
  | zero => intro v V w ha h; have := m_cx_b (V := V); omega
  | succ n ih =>
    intro v V w ha h
    have h1 := l_197t (d := d) (x := x) (M := M) (Q := Q) hρ 120 0 V rfl ⟨w, ha⟩
    have h2 := l_197x (d := d) (x := x) (M := M) (Q := Q) 39 1 0 (q_for f_swT 120 0 V) rfl (Or.inl rfl) (m_swT_w w)
    have e1 : q_for f_swX 39 1 (q_for f_swT 120 0 V) = m_swP V := rfl
    have e2 : m_swF 39 1 (q_for f_swT 120 0 V) 0 = m_swG V := rfl
    have hc := m_swP_cx (V := V)
    rw [e1, e2] at h2
    push_cast at h1 h2 h
    rw [m_sw, i_197_2]
    rcases m_swF_01 39 1 (q_for f_swT 120 0 V) 0 (Or.inl rfl) with g | g
    · rw [e2] at g
      rw [g] at h2
      rw [if_pos g]
      clear ih
      simp (disch := omega) only [i_197_0, i_197_1, i_197_3, i_197_6, i_197_7, i_197_8, i_197_9, i_197_11, i_197_13, i_197_16, i_197_17, i_197_18, i_197_19, i_197_22, i_197_23, i_197_26, i_197_27, i_197_28, i_197_30, i_197_33, i_197_34, i_197_37, i_197_38, i_197_39, i_197_42, i_197_45, i_197_48, i_197_49, i_197_51, i_197_53, i_197_56, i_197_57, i_197_58, i_197_59, i_197_62, i_197_65, i_197_66, i_197_67, i_197_70, i_197_73, i_197_76, i_197_77, i_197_78, i_197_81, i_197_82, i_197_83, i_197_86, i_197_89, i_197_92, g_o172, g_r172_1, g_r172_2, g_r172_4, g_r172_5, g_r172_6, g_r172_7, g_r172_8, g_r172_16, g_r172_18, g_r172_19, g_r172_20, g_r172_21, g_a173, g_t173, exists_eq_left', Option.some.injEq, exists_eq_left, ne_eq, List.length_nil, List.length_cons, Option.toList_some, Option.toList_none, List.cons_append, List.nil_append, mj_wt_nil, mj_wt_i, mj_wt_r, mj_wt_l, true_and, and_true, false_and, and_false, true_implies, false_implies, implies_true, not_true_eq_false, not_false_eq_true, and_self, Int.reduceEq, Nat.reduceEqDiff, ↓reduceIte, mj_w_id2, Int.toNat_natCast, v_st_ne, v_rd, v_up, v_up_ne, v_rg, v_rg2, v_th0, v_th1, v_th2, v_th3, v_th4, v_th5, v_th6, v_th7, v_tk0, v_tk1, v_tk2, v_tk3, v_tk4, v_tk5, v_tk6, v_tk7, v_tk8, v_tk9, v_tk10, v_tk11, v_rn0, v_rn1, v_rn2, v_rn3, v_rn4, v_rn5, v_rn6, v_rn7, v_rn8, v_rn9, v_rn10, v_rn11, v_ws0, v_ws1, v_ws2, v_ws3, v_ws4, v_ws5, v_ws6, v_gl0, v_gl1, v_gl2, v_gl3, v_gl4, v_gl5, v_gl6, v_gl7, v_gl8, v_gl9, v_ow, v_ow2, v_iw, v_tb, v_pg, h1, h2]
      rw [i_197_2]
      simp (disch := omega) only [i_197_0, i_197_1, i_197_3, i_197_6, i_197_7, i_197_8, i_197_9, i_197_11, i_197_13, i_197_16, i_197_17, i_197_18, i_197_19, i_197_22, i_197_23, i_197_26, i_197_27, i_197_28, i_197_30, i_197_33, i_197_34, i_197_37, i_197_38, i_197_39, i_197_42, i_197_45, i_197_48, i_197_49, i_197_51, i_197_53, i_197_56, i_197_57, i_197_58, i_197_59, i_197_62, i_197_65, i_197_66, i_197_67, i_197_70, i_197_73, i_197_76, i_197_77, i_197_78, i_197_81, i_197_82, i_197_83, i_197_86, i_197_89, i_197_92, g_o172, g_r172_1, g_r172_2, g_r172_4, g_r172_5, g_r172_6, g_r172_7, g_r172_8, g_r172_16, g_r172_18, g_r172_19, g_r172_20, g_r172_21, g_a173, g_t173, exists_eq_left', Option.some.injEq, exists_eq_left, ne_eq, List.length_nil, List.length_cons, Option.toList_some, Option.toList_none, List.cons_append, List.nil_append, mj_wt_nil, mj_wt_i, mj_wt_r, mj_wt_l, true_and, and_true, false_and, and_false, true_implies, false_implies, implies_true, not_true_eq_false, not_false_eq_true, and_self, Int.reduceEq, Nat.reduceEqDiff, ↓reduceIte, mj_w_id2, Int.toNat_natCast, v_st_ne, v_rd, v_up, v_up_ne, v_rg, v_rg2, v_th0, v_th1, v_th2, v_th3, v_th4, v_th5, v_th6, v_th7, v_tk0, v_tk1, v_tk2, v_tk3, v_tk4, v_tk5, v_tk6, v_tk7, v_tk8, v_tk9, v_tk10, v_tk11, v_rn0, v_rn1, v_rn2, v_rn3, v_rn4, v_rn5, v_rn6, v_rn7, v_rn8, v_rn9, v_rn10, v_rn11, v_ws0, v_ws1, v_ws2, v_ws3, v_ws4, v_ws5, v_ws6, v_gl0, v_gl1, v_gl2, v_gl3, v_gl4, v_gl5, v_gl6, v_gl7, v_gl8, v_gl9, v_ow, v_ow2, v_iw, v_tb, v_pg, h1, h2]
      try grind
    · rw [e2] at g
      rw [g] at h2
      rw [if_neg (by omega)]
      have i1 := ih (.inl 40) (m_swP V) (m_swP_w w) (m_acy_less ha m_swP_less) (by omega)
      clear ih
      simp (disch := omega) only [i_197_0, i_197_1, i_197_3, i_197_6, i_197_7, i_197_8, i_197_9, i_197_11, i_197_13, i_197_16, i_197_17, i_197_18, i_197_19, i_197_22, i_197_23, i_197_26, i_197_27, i_197_28, i_197_30, i_197_33, i_197_34, i_197_37, i_197_38, i_197_39, i_197_42, i_197_45, i_197_48, i_197_49, i_197_51, i_197_53, i_197_56, i_197_57, i_197_58, i_197_59, i_197_62, i_197_65, i_197_66, i_197_67, i_197_70, i_197_73, i_197_76, i_197_77, i_197_78, i_197_81, i_197_82, i_197_83, i_197_86, i_197_89, i_197_92, g_o172, g_r172_1, g_r172_2, g_r172_4, g_r172_5, g_r172_6, g_r172_7, g_r172_8, g_r172_16, g_r172_18, g_r172_19, g_r172_20, g_r172_21, g_a173, g_t173, exists_eq_left', Option.some.injEq, exists_eq_left, ne_eq, List.length_nil, List.length_cons, Option.toList_some, Option.toList_none, List.cons_append, List.nil_append, mj_wt_nil, mj_wt_i, mj_wt_r, mj_wt_l, true_and, and_true, false_and, and_false, true_implies, false_implies, implies_true, not_true_eq_false, not_false_eq_true, and_self, Int.reduceEq, Nat.reduceEqDiff, ↓reduceIte, mj_w_id2, Int.toNat_natCast, v_st_ne, v_rd, v_up, v_up_ne, v_rg, v_rg2, v_th0, v_th1, v_th2, v_th3, v_th4, v_th5, v_th6, v_th7, v_tk0, v_tk1, v_tk2, v_tk3, v_tk4, v_tk5, v_tk6, v_tk7, v_tk8, v_tk9, v_tk10, v_tk11, v_rn0, v_rn1, v_rn2, v_rn3, v_rn4, v_rn5, v_rn6, v_rn7, v_rn8, v_rn9, v_rn10, v_rn11, v_ws0, v_ws1, v_ws2, v_ws3, v_ws4, v_ws5, v_ws6, v_gl0, v_gl1, v_gl2, v_gl3, v_gl4, v_gl5, v_gl6, v_gl7, v_gl8, v_gl9, v_ow, v_ow2, v_iw, v_tb, v_pg, h1, h2, i1]
      try grind
theorem m_sw_w : ∀ (n : Nat) (V : mj_M), q_wr V → q_wr (m_sw n V) := by
  intro n
  induction n with
  | zero => intro V w; exact w
  | succ n ih =>
    intro V w
    unfold m_sw
    split
    · exact m_swP_w w
    · exact ih _ (m_swP_w w)
theorem m_sw_less : ∀ (n : Nat) (V : mj_M), m_less V (m_sw n V) := by
  intro n
  induction n with
  | zero => intro V; exact m_less_r
  | succ n ih =>
    intro V
    unfold m_sw
    split
    · exact m_swP_less
    · exact m_less_t m_swP_less (ih _)
def m_u01 (V : mj_M) : Prop := ∀ k : Nat, k < 120 → V 212 k = 0 ∨ V 212 k = 1
def m_lu (V : mj_M) : Prop := ∀ k : Nat, k < 120 → V 212 k ≠ 0 → V 7 k ≠ -1 → V 212 (V 7 k).toNat ≠ 0
theorem m_go2_212 {t : Int} : m_go2 V t 212 = mj_up V 212 t.toNat 0 212 := by
  unfold m_go2
  rw [q_for_o]
  · unfold m_go1; split
    · rw [mj_up_ne (by omega), mj_up_ne (by omega)]
    · rw [mj_up_ne (by omega), mj_up_ne (by omega)]
  · intro y A; unfold f_m198; split
    · rw [mj_up_ne (by omega)]
    · rfl
theorem m_go2_u01 {t : Int} (h : m_u01 V) : m_u01 (m_go2 V t) := by
  intro k hk
  rw [m_go2_212]
  simp only [mj_up, if_true]
  split
  · exact Or.inl rfl
  · exact h k hk
/-- what goes, goes leaf by leaf -/
theorem m_goes_leaf {P : mj_M → Prop} (hP : ∀ V t, P V → (0 ≤ t ∧ t < 120) → V 212 t.toNat = 1 → (∀ k : Nat, k < 120 → V 212 k = 1 → V 7 k ≠ t) → P (m_go2 V t)) {ρ : Nat → Nat} :
    ∀ (n : Nat) (t : Int) (V : mj_M), m_acy ρ V → m_u01 V → P V → (0 ≤ t ∧ t < 120) → V 212 t.toNat = 1 → ρ t.toNat < n →
      P (m_goes n t V) ∧ m_u01 (m_goes n t V) ∧ m_goes n t V 212 t.toNat = 0 ∧ (∀ j, j ≠ t.toNat → ρ t.toNat ≤ ρ j → m_goes n t V 212 j = V 212 j) := by
  intro n
  induction n with
  | zero => intro t V _ _ _ _ _ h; omega
  | succ n ih =>
    intro t V ha hu hp ht h1 hr
    have loop := q_for_inv (N := 120) (F := fun k A => if A 212 k = 1 ∧ A 7 k = t then m_goes n (k : Int) A else A)
      (P := fun i A => m_acy ρ A ∧ m_u01 A ∧ P A ∧ A 7 = V 7 ∧ (∀ j, ρ t.toNat ≤ ρ j → A 212 j = V 212 j) ∧ (∀ k, k < i → k < 120 → A 212 k = 1 → A 7 k ≠ t))
      (by
        intro i A hi hA
        obtain ⟨a1, a2, a3, a4, a5, a6⟩ := hA
        split
        · rename_i hc
          have hk := a1 i hi (by omega) (by omega)
          rw [hc.2] at hk
          obtain ⟨b1, b2, b3, b4⟩ := ih (i : Int) A a1 a2 a3 (by omega) (by simpa using hc.1) (by simp only [Int.toNat_natCast]; omega)
          simp only [Int.toNat_natCast] at b3 b4
          have hl := m_goes_less n (i : Int) A
          refine ⟨m_acy_less a1 hl, b2, b1, by rw [hl.1, a4], ?_, ?_⟩
          · intro j hj
            rw [b4 j (by intro e; subst e; omega) (by omega)]
            exact a5 j hj
          · intro k hk1 hk2 hk3
            rw [hl.1]
            by_cases e : k = i
            · subst e; rw [b3] at hk3; omega
            · have := hl.2 k (by omega)
              exact a6 k (by omega) hk2 (by have := a2 k hk2; omega)
        · rename_i hc
          refine ⟨a1, a2, a3, a4, a5, ?_⟩
          intro k hk1 hk2 hk3
          by_cases e : k = i
          · subst e
            intro e2
            exact hc ⟨hk3, e2⟩
          · exact a6 k (by omega) hk2 hk3)
      120 0 V rfl ⟨ha, hu, hp, rfl, fun _ _ => rfl, fun k hk => absurd hk (by omega)⟩
    obtain ⟨a1, a2, a3, a4, a5, a6⟩ := loop
    unfold m_goes
    have e1 := a5 t.toNat (Nat.le_refl _)
    refine ⟨hP _ t a3 ht (by rw [e1]; exact h1) (fun k hk hk2 => a6 k hk hk hk2), m_go2_u01 a2, ?_, ?_⟩
    · rw [m_go2_212]; simp [mj_up]
    · intro j hj hj2
      rw [m_go2_212]
      simp only [mj_up, if_true]
      rw [if_neg hj]
      exact a5 j hj2
theorem m_go2_7 {t : Int} : m_go2 V t 7 = V 7 := m_go2_less.1
theorem m_goes_lu {ρ : Nat → Nat} (n : Nat) (t : Int) (ha : m_acy ρ V) (hu : m_u01 V) (w : q_wr V) (hl : m_lu V) (ht : 0 ≤ t ∧ t < 120) (h1 : V 212 t.toNat = 1) (hr : ρ t.toNat < n) : m_u01 (m_goes n t V) ∧ m_lu (m_goes n t V) := by
  have h := m_goes_leaf (P := fun V => q_wr V ∧ m_u01 V ∧ m_lu V) (ρ := ρ) (by
    intro V t hV ht h1 hleaf
    obtain ⟨w, hu, hl⟩ := hV
    refine ⟨m_go2_w w, m_go2_u01 hu, ?_⟩
    intro k hk h2 h3
    rw [m_go2_7] at h3 ⊢
    rw [m_go2_212] at h2 ⊢
    simp only [mj_up, if_true] at h2 ⊢
    by_cases e : k = t.toNat
    · rw [if_pos e] at h2; omega
    · rw [if_neg e] at h2
      have h4 := hl k hk h2 h3
      have h5 := hleaf k hk (by have := hu k hk; omega)
      have h7 := q_w7 (i := k) w hk
      rw [if_neg (by omega)]
      exact h4) n t V ha hu ⟨w, hu, hl⟩ ht h1 hr
  exact ⟨h.2.1, h.1.2.2⟩
/-- lenders go up, are there, and there is a bound -/
def m_ok (V : mj_M) : Prop := q_wr V ∧ m_u01 V ∧ m_lu V ∧ ∃ ρ : Nat → Nat, (∀ k, ρ k < 120) ∧ m_acy ρ V
theorem m_ok_same {A : mj_M} (h : m_ok V) (w : q_wr A) (h7 : A 7 = V 7) (h2 : A 212 = V 212) : m_ok A := by
  obtain ⟨_, a1, a2, ρ, a3, a4⟩ := h
  refine ⟨w, ?_, ?_, ρ, a3, ?_⟩
  · intro k hk; rw [h2]; exact a1 k hk
  · intro k hk; rw [h2, h7]; exact a2 k hk
  · intro k hk; rw [h2, h7]; exact a4 k hk
theorem f_swT_ok {t : Nat} (ht : t < 120) (h : m_ok V) : m_ok (f_swT t V) := by
  have h0 := h
  obtain ⟨w, a1, a2, ρ, a3, a4⟩ := h
  unfold f_swT
  split
  · rename_i hc
    obtain ⟨b1, b2⟩ := m_goes_lu 120 (t : Int) a4 a1 w a2 (by omega) (by simpa using hc.1) (a3 _)
    exact ⟨m_goes_w _ _ _ w, b1, b2, ρ, a3, m_acy_less a4 (m_goes_less _ _ _)⟩
  · exact h0
theorem f_swX_ok {t : Nat} (h : m_ok V) : m_ok (f_swX t V) := by
  unfold f_swX
  split
  · exact h
  · exact m_ok_same h (m_gt_w h.1) (m_gt_o (by omega)) (m_gt_o (by omega))
theorem m_swT_ok (h : m_ok V) : m_ok (q_for f_swT 120 0 V) := q_for_inv (N := 120) (P := fun _ A => m_ok A) (fun t A ht h => f_swT_ok ht h) 120 0 V rfl h
theorem m_swP_ok (h : m_ok V) : m_ok (m_swP V) := q_for_inv (N := 40) (P := fun _ A => m_ok A) (fun t A _ h => f_swX_ok h) 39 1 _ rfl (m_swT_ok h)
theorem m_sw_ok : ∀ (n : Nat) (V : mj_M), m_ok V → m_ok (m_sw n V) := by
  intro n
  induction n with
  | zero => intro V w; exact w
  | succ n ih =>
    intro V w
    unfold m_sw
    split
    · exact m_swP_ok w
    · exact ih _ (m_swP_ok w)
def m_swp (V : mj_M) : mj_M := m_sw 41 V
theorem m_swp_ok (h : m_ok V) : m_ok (m_swp V) := m_sw_ok _ _ h
theorem r_sweep (h : m_ok V) : mj_Rn (d + 122) 197 0 [.inr (.inl 172), .inr (.inr 0), .inr (.inr 0)] [] (SGx x) (v_st V M) Q = Q none (SGx x) (v_st (m_swp V) M) := by
  obtain ⟨w, _, _, ρ, h1, h2⟩ := h
  have hc := m_cx_b (V := V)
  have h := r_197 (d := d) (x := x) (M := M) (Q := Q) h1 41 (.inr (.inr 0)) V w h2 (by omega)
  unfold m_swp
  rw [← h, i_197_0, i_197_1]
def m_drop (V : mj_M) (t : Int) : mj_M := m_swp (m_mk V t)
theorem m_mk_ok {t : Int} (h : m_ok V) : m_ok (m_mk V t) := m_ok_same h (m_mk_w h.1) (by unfold m_mk; rw [mj_up_ne (by omega)]) (by unfold m_mk; rw [mj_up_ne (by omega)])
theorem m_drop_ok {t : Int} (h : m_ok V) : m_ok (m_drop V t) := m_swp_ok (m_mk_ok h)
theorem r_195 {t : Int} (h : m_ok V) (ht : 0 ≤ t ∧ t < 120) : mj_Rn (d + 123) 195 0 [.inr (.inl 172), .inl t] [] (SGx x) (v_st V M) Q = Q none (SGx x) (v_st (m_drop V t) M) := by
  have h1 := m_mk_ok (t := t) h
  unfold m_drop
  simp (disch := omega) only [i_195_0, i_195_1, i_195_2, i_195_5, i_195_6, i_195_9, g_o172, g_r172_1, g_r172_2, g_r172_4, g_r172_5, g_r172_6, g_r172_7, g_r172_8, g_r172_16, g_r172_18, g_r172_19, g_r172_20, g_r172_21, g_a173, g_t173, exists_eq_left', Option.some.injEq, exists_eq_left, ne_eq, List.length_nil, List.length_cons, Option.toList_some, Option.toList_none, List.cons_append, List.nil_append, mj_wt_nil, mj_wt_i, mj_wt_r, mj_wt_l, true_and, and_true, false_and, and_false, true_implies, false_implies, implies_true, not_true_eq_false, not_false_eq_true, and_self, Int.reduceEq, Nat.reduceEqDiff, ↓reduceIte, mj_w_id2, Int.toNat_natCast, v_st_ne, v_rd, v_up, v_up_ne, v_rg, v_rg2, v_th0, v_th1, v_th2, v_th3, v_th4, v_th5, v_th6, v_th7, v_tk0, v_tk1, v_tk2, v_tk3, v_tk4, v_tk5, v_tk6, v_tk7, v_tk8, v_tk9, v_tk10, v_tk11, v_rn0, v_rn1, v_rn2, v_rn3, v_rn4, v_rn5, v_rn6, v_rn7, v_rn8, v_rn9, v_rn10, v_rn11, v_ws0, v_ws1, v_ws2, v_ws3, v_ws4, v_ws5, v_ws6, v_gl0, v_gl1, v_gl2, v_gl3, v_gl4, v_gl5, v_gl6, v_gl7, v_gl8, v_gl9, v_ow, v_ow2, v_iw, v_tb, v_pg, r_196 ht, r_sweep h1]
  try grind
def m_use (V : mj_M) (t : Int) : mj_M := if V 212 t.toNat = 1 ∧ V 3 t.toNat = 3 then m_drop V t else V
theorem m_use_ok {t : Int} (h : m_ok V) : m_ok (m_use V t) := by unfold m_use; split; exact m_drop_ok h; exact h
theorem r_194 {t : Int} (h : m_ok V) (ht : 0 ≤ t ∧ t < 120) : mj_Rn (d + 124) 194 0 [.inr (.inl 172), .inl t] [] (SGx x) (v_st V M) Q = Q none (SGx x) (v_st (m_use V t) M) := by
  by_cases c1 : V 212 t.toNat = 1
  · by_cases c2 : V 3 t.toNat = 3
    · unfold m_use
      simp (disch := omega) only [i_194_0, i_194_1, i_194_2, i_194_3, i_194_6, i_194_7, i_194_10, i_194_11, i_194_12, i_194_13, i_194_16, i_194_17, i_194_20, i_194_21, i_194_22, i_194_25, g_o172, g_r172_1, g_r172_2, g_r172_4, g_r172_5, g_r172_6, g_r172_7, g_r172_8, g_r172_16, g_r172_18, g_r172_19, g_r172_20, g_r172_21, g_a173, g_t173, exists_eq_left', Option.some.injEq, exists_eq_left, ne_eq, List.length_nil, List.length_cons, Option.toList_some, Option.toList_none, List.cons_append, List.nil_append, mj_wt_nil, mj_wt_i, mj_wt_r, mj_wt_l, true_and, and_true, false_and, and_false, true_implies, false_implies, implies_true, not_true_eq_false, not_false_eq_true, and_self, Int.reduceEq, Nat.reduceEqDiff, ↓reduceIte, mj_w_id2, Int.toNat_natCast, v_st_ne, v_rd, v_up, v_up_ne, v_rg, v_rg2, v_th0, v_th1, v_th2, v_th3, v_th4, v_th5, v_th6, v_th7, v_tk0, v_tk1, v_tk2, v_tk3, v_tk4, v_tk5, v_tk6, v_tk7, v_tk8, v_tk9, v_tk10, v_tk11, v_rn0, v_rn1, v_rn2, v_rn3, v_rn4, v_rn5, v_rn6, v_rn7, v_rn8, v_rn9, v_rn10, v_rn11, v_ws0, v_ws1, v_ws2, v_ws3, v_ws4, v_ws5, v_ws6, v_gl0, v_gl1, v_gl2, v_gl3, v_gl4, v_gl5, v_gl6, v_gl7, v_gl8, v_gl9, v_ow, v_ow2, v_iw, v_tb, v_pg, r_176, r_195 h ht, c1, c2]
      try grind
    · unfold m_use
      simp (disch := omega) only [i_194_0, i_194_1, i_194_2, i_194_3, i_194_6, i_194_7, i_194_10, i_194_11, i_194_12, i_194_13, i_194_16, i_194_17, i_194_20, i_194_21, i_194_22, i_194_25, g_o172, g_r172_1, g_r172_2, g_r172_4, g_r172_5, g_r172_6, g_r172_7, g_r172_8, g_r172_16, g_r172_18, g_r172_19, g_r172_20, g_r172_21, g_a173, g_t173, exists_eq_left', Option.some.injEq, exists_eq_left, ne_eq, List.length_nil, List.length_cons, Option.toList_some, Option.toList_none, List.cons_append, List.nil_append, mj_wt_nil, mj_wt_i, mj_wt_r, mj_wt_l, true_and, and_true, false_and, and_false, true_implies, false_implies, implies_true, not_true_eq_false, not_false_eq_true, and_self, Int.reduceEq, Nat.reduceEqDiff, ↓reduceIte, mj_w_id2, Int.toNat_natCast, v_st_ne, v_rd, v_up, v_up_ne, v_rg, v_rg2, v_th0, v_th1, v_th2, v_th3, v_th4, v_th5, v_th6, v_th7, v_tk0, v_tk1, v_tk2, v_tk3, v_tk4, v_tk5, v_tk6, v_tk7, v_tk8, v_tk9, v_tk10, v_tk11, v_rn0, v_rn1, v_rn2, v_rn3, v_rn4, v_rn5, v_rn6, v_rn7, v_rn8, v_rn9, v_rn10, v_rn11, v_ws0, v_ws1, v_ws2, v_ws3, v_ws4, v_ws5, v_ws6, v_gl0, v_gl1, v_gl2, v_gl3, v_gl4, v_gl5, v_gl6, v_gl7, v_gl8, v_gl9, v_ow, v_ow2, v_iw, v_tb, v_pg, r_176, r_195 h ht, c1, c2]
      try grind
  · unfold m_use
    simp (disch := omega) only [i_194_0, i_194_1, i_194_2, i_194_3, i_194_6, i_194_7, i_194_10, i_194_11, i_194_12, i_194_13, i_194_16, i_194_17, i_194_20, i_194_21, i_194_22, i_194_25, g_o172, g_r172_1, g_r172_2, g_r172_4, g_r172_5, g_r172_6, g_r172_7, g_r172_8, g_r172_16, g_r172_18, g_r172_19, g_r172_20, g_r172_21, g_a173, g_t173, exists_eq_left', Option.some.injEq, exists_eq_left, ne_eq, List.length_nil, List.length_cons, Option.toList_some, Option.toList_none, List.cons_append, List.nil_append, mj_wt_nil, mj_wt_i, mj_wt_r, mj_wt_l, true_and, and_true, false_and, and_false, true_implies, false_implies, implies_true, not_true_eq_false, not_false_eq_true, and_self, Int.reduceEq, Nat.reduceEqDiff, ↓reduceIte, mj_w_id2, Int.toNat_natCast, v_st_ne, v_rd, v_up, v_up_ne, v_rg, v_rg2, v_th0, v_th1, v_th2, v_th3, v_th4, v_th5, v_th6, v_th7, v_tk0, v_tk1, v_tk2, v_tk3, v_tk4, v_tk5, v_tk6, v_tk7, v_tk8, v_tk9, v_tk10, v_tk11, v_rn0, v_rn1, v_rn2, v_rn3, v_rn4, v_rn5, v_rn6, v_rn7, v_rn8, v_rn9, v_rn10, v_rn11, v_ws0, v_ws1, v_ws2, v_ws3, v_ws4, v_ws5, v_ws6, v_gl0, v_gl1, v_gl2, v_gl3, v_gl4, v_gl5, v_gl6, v_gl7, v_gl8, v_gl9, v_ow, v_ow2, v_iw, v_tb, v_pg, r_176, r_195 h ht, c1]
    try grind
end sp85
