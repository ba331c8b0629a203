section op01
variable {A B C M N V W M' V' : mj_M} {x : Nat} {n m : Int}
/-- the state that was kept, seen as the one at hand -/
def z_sh (M : mj_M) : mj_M := fun a i => if a < 44 then M (a + 43) i else M a i
def z_img (n : Int) (M : mj_M) : Prop := ∃ W : mj_M, (∀ k, W 217 k = 0) ∧ (∀ k : Nat, k < 6172 → M 180 k = v_enc W k) ∧ z_I n (z_sh M) W ∧ W 1 9 = M 44 9 ∧ (M 44 9 = 0 ∨ M 44 9 = 1)
/-- what lies around the state -/
def z_X (n : Int) (M V : mj_M) : Prop := (V 1 9 = M 1 9 ∧ (M 1 9 = 0 ∨ M 1 9 = 1) ∧ ∀ k, V 217 k = 0) ∧ (∀ j : Nat, j < 9 → M 174 j = M 171 j) ∧
  (∀ i : Nat, i < 4 → (-1 ≤ M 168 i ∧ M 168 i ≤ 160) ∧ M 181 i = (if M 168 i = -1 then 0 else 1) ∧ M 182 i = (if M 168 i = -1 then 0 else M 168 i) ∧ ∀ j : Nat, j < 160 → M 183 (160 * i + j) = M (164 + i) j) ∧
  ((-1 ≤ M 0 14 ∧ M 0 14 ≤ 60) ∧ M 172 23 = (if M 0 14 = -1 then 0 else 1) ∧ (M 0 14 ≠ -1 → M 172 22 = M 0 14) ∧ ∀ j : Nat, j < 60 → M 184 j = M 169 j) ∧
  ((0 ≤ M 0 15 ∧ M 0 15 ≤ 160) ∧ M 172 9 = M 0 15 ∧ ∀ j : Nat, j < 160 → M 179 j = M 170 j) ∧
  ((M 0 16 = 0 ∨ M 0 16 = 1) ∧ M 172 17 = M 0 16 ∧ (M 0 16 = 1 → z_img n M))
def z_JJ (n : Int) (M V : mj_M) : Prop := z_I n M V ∧ z_X n M V
theorem z_I_m (h : z_I n A V) (l : n ≤ m) : z_I m A V := ⟨h.1, h.2.1, m_B_m h.2.2.1 l, q_o_m h.2.2.2 l⟩
theorem z_sh_lo {a i : Nat} (h : a < 44) : z_sh M a i = M (a + 43) i := by unfold z_sh; rw [if_pos h]
theorem z_sh_hi {a i : Nat} (h : 44 ≤ a) : z_sh M a i = M a i := by unfold z_sh; rw [if_neg (by omega)]
theorem z_img_c (h : z_img n M) (l : n ≤ m) (hr : ∀ a, (43 < a ∧ a < 87) ∨ a = 9001 ∨ a = 180 → N a = M a) (h130 : N 130 2 = 0) (h131 : ∀ k : Nat, k < 120 → N 131 k = 0) : z_img m N := by
  obtain ⟨W, h1, h2, h3, h4, h5⟩ := h
  refine ⟨W, h1, fun k hk => by rw [hr 180 (by omega)]; exact h2 k hk, ?_, by rw [hr 44 (by omega)]; exact h4, by rw [hr 44 (by omega)]; exact h5⟩
  refine z_I_pt (z_I_m h3 l) (fun a i q => ?_) (by rw [z_sh_hi (by omega)]; exact h130) (fun k hk => by rw [z_sh_hi (by omega)]; exact h131 k hk)
  unfold q_in at q
  by_cases c : a < 44
  · rw [z_sh_lo c, z_sh_lo c, hr (a + 43) (by omega)]
  · rw [z_sh_hi (by omega), z_sh_hi (by omega), hr a (by omega)]
theorem z_X_c (h : z_X n M V) (l : n ≤ m) (hV9 : V' 1 9 = V 1 9) (hV : V' 217 = V 217) (h19 : N 1 9 = M 1 9) (hr : ∀ a, (a = 0 ∨ (43 < a ∧ a < 87) ∨ a = 9001 ∨ (163 < a ∧ a ≤ 170) ∨ (178 < a ∧ a ≤ 184)) → N a = M a)
    (h172 : ∀ j, j = 9 ∨ j = 17 ∨ j = 22 ∨ j = 23 → N 172 j = M 172 j) (h171 : ∀ j : Nat, j < 9 → N 174 j = N 171 j) (h130 : N 130 2 = 0) (h131 : ∀ k : Nat, k < 120 → N 131 k = 0) : z_X m N V' := by
  obtain ⟨⟨a1, a2, a3⟩, -, a5, a6, a7, a8, a9, a10⟩ := h
  refine ⟨⟨by rw [hV9, h19]; exact a1, by rw [h19]; exact a2, by rw [hV]; exact a3⟩, h171, ?_, ?_, ?_, ?_, ?_, ?_⟩
  · intro i hi
    rw [hr 168 (by omega), hr 181 (by omega), hr 182 (by omega), hr 183 (by omega), hr (164 + i) (by omega)]
    exact a5 i hi
  · rw [hr 0 (by omega), h172 23 (by omega), h172 22 (by omega), hr 184 (by omega), hr 169 (by omega)]; exact a6
  · rw [hr 0 (by omega), h172 9 (by omega), hr 179 (by omega), hr 170 (by omega)]; exact a7
  · rw [hr 0 (by omega)]; exact a8
  · rw [hr 0 (by omega), h172 17 (by omega)]; exact a9
  · rw [hr 0 (by omega)]
    exact fun q => z_img_c (a10 q) l (fun a ha => hr a (by omega)) h130 h131
theorem z_X_m (h : z_X n M V) (l : n ≤ m) (h0 : M 130 2 = 0) (h1 : ∀ k : Nat, k < 120 → M 131 k = 0) : z_X m M V :=
  z_X_c h l rfl rfl rfl (fun _ _ => rfl) (fun _ _ => rfl) h.2.1 h0 h1
theorem z_I_0 (h : z_I n M V) : M 130 2 = 0 ∧ ∀ k : Nat, k < 120 → M 131 k = 0 := ⟨h.1.2.2.2, h.1.2.1.2 h.1.2.2.2⟩
theorem z_JJ_m (h : z_JJ n M V) (l : n ≤ m) : z_JJ m M V := ⟨z_I_m h.1 l, z_X_m h.2 l (z_I_0 h.1).1 (z_I_0 h.1).2⟩
/-- the row of the other side is not looked at -/
theorem z_JJ_st (h : z_JJ n M V) : z_JJ n (v_st W M) V := by
  have n173 : ∀ a, a ≠ 173 → v_st W M a = M a := fun a q => v_st_ne q
  refine ⟨z_I_c h.1 (fun a q => n173 a (by omega)), z_X_c h.2 (Int.le_refl _) rfl rfl (by rw [n173 1 (by omega)]) (fun a q => n173 a (by omega)) (fun j _ => by rw [n173 172 (by omega)]) (fun j hj => by rw [n173 174 (by omega), n173 171 (by omega)]; exact h.2.2.1 j hj) ?_ ?_⟩
  · rw [n173 130 (by omega)]; exact (z_I_0 h.1).1
  · rw [n173 131 (by omega)]; exact (z_I_0 h.1).2
/-- what a call has to do -/
def z_op (n : Int) (x kc km : Nat) (la lm : List mj_V) (M V : mj_M) : Prop := ∃ (v : Int) (M' V' : mj_M) (F : mj_M → mj_M) (x' : Nat), (∀ d Q, mj_Rn (d + 200) kc 0 la [] (SGx x) M Q = Q (some (.inl v)) (SGx x') M') ∧
  (∀ d Q, mj_Rn (d + 200) km 0 lm [] (SGx x') (v_st V M') Q = Q (some (.inl v)) (SGx x') (v_st V' (F M'))) ∧ M' 173 = M 173 ∧ z_JJ (n + 1000) (F M') V'
theorem q_re_ne {a k : Nat} (h : a ≠ 171) : q_re M k a = M a := mj_up_ne h
theorem q_rm_ne {a k : Nat} (h : a ≠ 174) : q_rm M k a = M a := mj_up_ne h
/-- both refuse -/
theorem z_JJ_re {k : Nat} (h : z_JJ n M V) (hk : k < 9) : z_JJ (n + 1000) (q_rm (q_re M k) k) V := by
  have o : ∀ a, a ≠ 171 → a ≠ 174 → q_rm (q_re M k) k a = M a := fun a h1 h2 => by rw [q_rm_ne h2, q_re_ne h1]
  refine ⟨z_I_m (z_I_c h.1 (fun a q => o a (by omega) (by omega))) (by omega), z_X_c h.2 (by omega) rfl rfl (by rw [o 1 (by omega) (by omega)]) (fun a q => o a (by omega) (by omega)) (fun j _ => by rw [o 172 (by omega) (by omega)]) ?_ ?_ ?_⟩
  · intro j hj
    have e1 : q_rm (q_re M k) k 171 j = if j = k then mj_w (M 171 k + 1) else M 171 j := by rw [q_rm_ne (by omega)]; unfold q_re; rw [mj_up_at]
    have e2 : q_rm (q_re M k) k 174 j = if j = k then mj_w (M 174 k + 1) else M 174 j := by unfold q_rm; rw [mj_up_at, q_re_ne (by omega)]
    rw [e1, e2, h.2.2.1 k hk, h.2.2.1 j hj]
  · rw [o 130 (by omega) (by omega)]; exact (z_I_0 h.1).1
  · rw [o 131 (by omega) (by omega)]; exact (z_I_0 h.1).2
/-- a call that is refused on both sides -/
theorem z_op_re {kc km k : Nat} {la lm : List mj_V} {v : Int} (h : z_JJ n M V) (hk : k < 9) (hc : ∀ d Q, mj_Rn (d + 200) kc 0 la [] (SGx x) M Q = Q (some (.inl v)) (SGx x) (q_re M k))
    (hm : ∀ M d Q, mj_Rn (d + 200) km 0 lm [] (SGx x) (v_st V M) Q = Q (some (.inl v)) (SGx x) (v_st V (q_rm M k))) : z_op n x kc km la lm M V :=
  ⟨v, q_re M k, V, fun M => q_rm M k, x, hc, fun d Q => hm _ d Q, q_re_ne (by omega), z_JJ_re h hk⟩
/-- a call that only looks -/
theorem z_op_id {kc km : Nat} {la lm : List mj_V} {v : Int} (h : z_JJ n M V) (hc : ∀ d Q, mj_Rn (d + 200) kc 0 la [] (SGx x) M Q = Q (some (.inl v)) (SGx x) M)
    (hm : ∀ M d Q, mj_Rn (d + 200) km 0 lm [] (SGx x) (v_st V M) Q = Q (some (.inl v)) (SGx x) (v_st V M)) : z_op n x kc km la lm M V :=
  ⟨v, M, V, fun M => M, x, hc, fun d Q => hm _ d Q, rfl, z_JJ_m h (by omega)⟩
/-- a call that changes the state -/
theorem z_op_ch {kc km : Nat} {la lm : List mj_V} {v : Int} (h : z_JJ n M V) (F : mj_M → mj_M) (hF : ∀ M, ∀ a i, (a ≠ 172 ∨ i ≠ 3) → F M a i = M a i) (hch : ∀ a, (a = 0 ∨ (43 < a ∧ a < 87) ∨ (163 < a ∧ a ≤ 184) ∨ a = 9001) → M' a = M a) (h9 : M' 1 9 = M 1 9)
    (hV : m_cR V V') (hI : z_I (n + 1000) M' V')
    (hc : ∀ d Q, mj_Rn (d + 200) kc 0 la [] (SGx x) M Q = Q (some (.inl v)) (SGx x) M')
    (hm : ∀ d Q, mj_Rn (d + 200) km 0 lm [] (SGx x) (v_st V M') Q = Q (some (.inl v)) (SGx x) (v_st V' (F M'))) : z_op n x kc km la lm M V := by
  refine ⟨v, M', V', F, x, hc, hm, hch 173 (by omega), ?_⟩
  have e : ∀ a, a ≠ 172 → F M' a = M' a := fun a q => funext fun i => hF M' a i (Or.inl q)
  have hI2 : z_I (n + 1000) (F M') V' := z_I_c hI (fun a q => e a (by omega))
  refine ⟨hI2, z_X_c h.2 (by omega) hV.1 hV.2 (by rw [e 1 (by omega), h9]) (fun a q => by rw [e a (by omega), hch a (by omega)]) (fun j hj => by rw [hF M' 172 j (Or.inr (by omega)), hch 172 (by omega)]) ?_ (z_I_0 hI2).1 (z_I_0 hI2).2⟩
  intro j hj
  rw [e 174 (by omega), e 171 (by omega), hch 174 (by omega), hch 171 (by omega)]
  exact h.2.2.1 j hj
theorem q_ch_out {M A : mj_M} (h : q_ch M A) : (∀ a, (a = 0 ∨ (43 < a ∧ a < 87) ∨ (132 < a ∧ a ≤ 184) ∨ a = 9001) → A a = M a) ∧ A 1 9 = M 1 9 :=
  ⟨fun a q => funext fun i => h a i (by unfold q_mut; omega), h 1 9 (by unfold q_mut; omega)⟩
-- the same is there
theorem z_tht_e (h : z_Rl 8 M V) {y : Int} : m_th V y = q_tht M y := by
  unfold m_th q_tht
  by_cases c : 0 ≤ y ∧ y < 40
  · rcases h.1.2.2.2.2.2.2.2.1 y.toNat (by omega) with q | q
    · rw [if_neg (by omega), if_neg (by omega)]
    · rw [if_pos ⟨c.1, by omega, q.2.1⟩, if_pos ⟨c.1, c.2, q.1⟩]
  · rw [if_neg (fun q => c ⟨q.1, by omega⟩), if_neg (fun q => c ⟨q.1, q.2.1⟩)]
theorem z_bx_e (h : z_Rl 8 M V) {y : Int} : m_bx V y = q_of M y 1 := by
  by_cases c : q_of M y 1 = 1
  · have q := q_of_1.mp c
    have e1 : q_tht M y = 1 := by unfold q_tht; rw [if_pos ⟨q.1, q.2.1, by omega⟩]
    have e2 : V 14 y.toNat = 1 := by
      rcases h.1.2.2.2.2.2.2.2.1 y.toNat (by omega) with g | g
      · omega
      · rw [g.2.2.1]; exact q.2.2
    rw [c]
    unfold m_bx
    rw [if_pos ⟨(z_tht_e h).trans e1, e2⟩]
  · have c0 : q_of M y 1 = 0 := by have := q_of_01 (M := M) (t := y) (v := 1); omega
    rw [c0]
    unfold m_bx
    rw [if_neg ?_]
    intro q
    obtain ⟨q1, q2⟩ := q
    rw [z_tht_e h] at q1
    unfold q_tht at q1
    split at q1
    · rename_i g
      rcases h.1.2.2.2.2.2.2.2.1 y.toNat (by omega) with t | t
      · omega
      · exact c (q_of_1.mpr ⟨g.1, g.2.1, by rw [← t.2.2.1]; exact q2⟩)
    · omega
theorem z_tkt_e (h : z_Rl 8 M V) {t : Int} : m_tk V t = q_tkt M t := by
  unfold m_tk q_tkt
  by_cases c : 0 ≤ t ∧ t < 120
  · rcases h.1.2.1 t.toNat (by omega) with q | q
    · rw [if_neg (by omega), if_neg (by omega)]
    · rw [if_pos ⟨c.1, by omega, q.2.1⟩, if_pos ⟨c.1, c.2, q.1⟩]
  · rw [if_neg (fun q => c ⟨q.1, by omega⟩), if_neg (fun q => c ⟨q.1, q.2.1⟩)]
theorem z_rt_e (h : z_Rl 8 M V) {r : Int} : m_rt V r = q_rt M r := by
  unfold m_rt q_rt
  rw [h.1.2.2.2.2.2.2.2.2.2.2.1.1.1]
  by_cases c : 0 ≤ r ∧ r < M 22 13
  · rw [if_pos (by omega), if_pos c]
  · rw [if_neg (by omega), if_neg c]
theorem z_JJ_tt (h : z_JJ n M V) : m_tt V := by
  intro i hi q
  have hS := h.1.1.1
  rw [hS.2.2.2.2.1 i hi] at q ⊢
  have g := (hS.2.2.1.2 i hi q).1
  have h42 := q_w42 (i := i) hS.1.1 hi
  rcases hS.2.1 (M 42 i).toNat (by omega) with t | t
  · exact absurd t.1 g
  · omega
theorem z_pl_e {y s : Int} (hb : q_of M y 1 = 1) : q_pl M y s = if 0 ≤ s ∧ s ≤ 9 then 10 * y + s else -1 := by
  have := q_of_1.mp hb
  exact z_pl ⟨this.1, this.2.1⟩ this.2.2
theorem z_pl_n {y s : Int} (hb : q_of M y 1 = 0) : q_pl M y s = -1 := by
  unfold q_pl
  rw [if_neg ?_]
  intro q
  have : q_of M y 1 = 1 := q_of_1.mpr ⟨q.1, q.2.1, q.2.2.1⟩
  omega
end op01
