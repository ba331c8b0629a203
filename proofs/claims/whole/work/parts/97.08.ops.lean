section op08
variable {A B C M N V W M' V' A' : mj_M} {x : Nat} {n m : Int} {e e' : Nat}
/-- the rows of runners change, programs too -/
theorem z_SW_rp (h : z_SW e A V) (w : q_wr A') (wV : q_wr V') (oA : ∀ a, (a < 22 ∨ 35 < a) → A' a = A a) (oV : ∀ a, (a < 22 ∨ 35 < a) → a ≠ 213 → V' a = V a) (hRR : z_RR e' A' V') (hQH : z_QH A') : z_SW e' A' V' := by
  obtain ⟨s1, s2, s3, s4, s5, s6, s7, s8, s9, s10, s11, s12, s13, s14, s15, s16, s17, s18⟩ := h
  have a : ∀ k, ((k < 22 ∨ 34 < k) ∧ k ≠ 35) → k ≠ 1 → A' k = A k := fun k q _ => oA k (by omega)
  have v : ∀ k, ((k < 22 ∨ 34 < k) ∧ k ≠ 35 ∧ k ≠ 213) → k ≠ 1 → k ≠ 201 → V' k = V k := fun k q _ _ => oV k (by omega) (by omega)
  have h201 : V' 201 1 = V 201 1 := by rw [oV 201 (by omega) (by omega)]
  have h8 : A' 1 8 = A 1 8 := by rw [oA 1 (by omega)]
  refine ⟨z_pre_c s1 w (a 3 (by omega) (by omega)) (a 7 (by omega) (by omega)) (a 131 (by omega) (by omega)), ?_, z_tb_c s3 (a 3 (by omega) (by omega)) (a 8 (by omega) (by omega)) (a 9 (by omega) (by omega)) (a 42 (by omega) (by omega)), z_rm_c s4 (a 3 (by omega) (by omega)) (a 6 (by omega) (by omega)) h8, by rw [a 42 (by omega) (by omega), v 42 (by omega) (by omega) (by omega)]; exact s5,
    z_Mk_c s6 (a 3 (by omega) (by omega)) (a 131 (by omega) (by omega)) (v 131 (by omega) (by omega) (by omega)), m_ok_same s7 wV (v 7 (by omega) (by omega) (by omega)) (v 212 (by omega) (by omega) (by omega)), ?_, ?_, ?_, hRR, hQH, ?_, ?_, z_TH_c s15 (a 3 (by omega) (by omega)) (a 4 (by omega) (by omega)) (a 14 (by omega) (by omega)), z_TB_c s16 (a 3 (by omega) (by omega)) (a 14 (by omega) (by omega)) (a 8 (by omega) (by omega)) (a 131 (by omega) (by omega)), z_TR_c s17 (a 3 (by omega) (by omega)) (a 5 (by omega) (by omega)) (a 4 (by omega) (by omega)) (a 12 (by omega) (by omega)), z_PR_c s18 (a 9001 (by omega) (by omega))⟩
  · exact z_T_c s2 (a 3 (by omega) (by omega)) (a 4 (by omega) (by omega)) (a 5 (by omega) (by omega)) (a 6 (by omega) (by omega)) (a 7 (by omega) (by omega)) (a 8 (by omega) (by omega)) (a 9 (by omega) (by omega)) (a 10 (by omega) (by omega)) (a 11 (by omega) (by omega)) (a 12 (by omega) (by omega)) (v 212 (by omega) (by omega) (by omega)) (v 3 (by omega) (by omega) (by omega)) (v 4 (by omega) (by omega) (by omega)) (v 5 (by omega) (by omega) (by omega)) (v 6 (by omega) (by omega) (by omega)) (v 7 (by omega) (by omega) (by omega)) (v 8 (by omega) (by omega) (by omega)) (v 9 (by omega) (by omega) (by omega)) (v 10 (by omega) (by omega) (by omega)) (v 11 (by omega) (by omega) (by omega)) (v 12 (by omega) (by omega) (by omega))
  · exact z_H_c s8 (a 14 (by omega) (by omega)) (a 15 (by omega) (by omega)) (a 16 (by omega) (by omega)) (a 17 (by omega) (by omega)) (a 18 (by omega) (by omega)) (a 19 (by omega) (by omega)) (v 210 (by omega) (by omega) (by omega)) (v 14 (by omega) (by omega) (by omega)) (v 15 (by omega) (by omega) (by omega)) (v 16 (by omega) (by omega) (by omega)) (v 17 (by omega) (by omega) (by omega)) (v 18 (by omega) (by omega) (by omega)) (v 19 (by omega) (by omega) (by omega))
  · exact z_H2_c s9 (a 14 (by omega) (by omega)) (a 15 (by omega) (by omega)) (a 16 (by omega) (by omega)) (a 17 (by omega) (by omega)) (a 18 (by omega) (by omega)) (a 19 (by omega) (by omega)) (a 3 (by omega) (by omega))
  · exact z_H3_c s10 (a 14 (by omega) (by omega)) (a 17 (by omega) (by omega)) (a 18 (by omega) (by omega)) (a 20 (by omega) (by omega)) (a 21 (by omega) (by omega)) (v 20 (by omega) (by omega) (by omega)) (v 21 (by omega) (by omega) (by omega))
  · unfold z_W z_al at s13 ⊢
    rw [a 36 (by omega) (by omega), a 37 (by omega) (by omega), a 38 (by omega) (by omega), a 39 (by omega) (by omega), a 40 (by omega) (by omega), a 41 (by omega) (by omega), v 36 (by omega) (by omega) (by omega), v 37 (by omega) (by omega) (by omega), v 38 (by omega) (by omega) (by omega), v 39 (by omega) (by omega) (by omega), v 40 (by omega) (by omega) (by omega), v 210 (by omega) (by omega) (by omega), v 211 (by omega) (by omega) (by omega), v 214 (by omega) (by omega) (by omega), v 215 (by omega) (by omega) (by omega), h201]
    exact s13
  · exact z_G_c s14 (oA 1 (by omega)) (oA 43 (by omega)) (oV 1 (by omega) (by omega)) (oV 43 (by omega) (by omega))
theorem q_okv_z {a i : Nat} : q_okv a i 0 := by simp [q_okv]

theorem z_o_runner (h : z_JJ n M V) {y k : Int} : z_op n x 76 240 [.inr (.inl 0), .inl y, .inl k] [.inr (.inl 172), .inl y, .inl k, .inr (.inr 0), .inr (.inr 0), .inr (.inr 0)] M V := by
  have hRl := h.1.1
  have w := hRl.1.1.1
  have hok := hRl.1.2.2.2.2.2.2.1
  have hX := h.2
  obtain ⟨hs1, hs2⟩ := z_hs h
  have hs2r : ∀ N : mj_M, N 182 = M 182 → ∀ i : Nat, i < 4 → 0 ≤ N 182 i ∧ N 182 i ≤ 160 := fun N e => by rw [e]; exact hs2
  have eb := z_bx_e hRl (y := y)
  by_cases c1 : q_of M y 1 = 0
  · have c1V : m_bx V y = 0 := eb.trans c1
    exact ⟨-3, q_re M 3, V, fun M => q_rm M 3, x, fun d Q => (e_76 (d := d + 191) w hs1).trans (by rw [if_pos c1]), fun d Q => (r_240 (d := d + 191) hok.1 (hs2r _ (q_re_ne (by omega)))).trans (by rw [if_pos c1V]), q_re_ne (by omega), z_JJ_re h (by omega)⟩
  have hb := q_of_1.mp (show q_of M y 1 = 1 by have := q_of_01 (M := M) (t := y) (v := 1); omega)
  have c1V : ¬ m_bx V y = 0 := by rw [eb]; exact c1
  by_cases cs : ¬ (0 ≤ k ∧ k < 4)
  · exact ⟨-3, q_re M 3, V, fun M => q_rm M 3, x, fun d Q => (e_76 (d := d + 191) w hs1).trans (by rw [if_neg c1, if_pos cs]), fun d Q => (r_240 (d := d + 191) hok.1 (hs2r _ (q_re_ne (by omega)))).trans (by rw [if_neg c1V, if_pos (by omega)]), q_re_ne (by omega), z_JJ_re h (by omega)⟩
  have csV : ¬ ¬ (0 ≤ k ∧ k ≤ 3) := by omega
  obtain ⟨hk1, hk2, hk3, hk4⟩ := hX.2.2.1 k.toNat (by omega)
  by_cases c2 : M 168 k.toNat = -1
  · have c2V : M 181 k.toNat = 0 := by rw [hk2, if_pos c2]
    exact ⟨-2, q_re M 2, V, fun M => q_rm M 2, x, fun d Q => (e_76 (d := d + 191) w hs1).trans (by rw [if_neg c1, if_neg cs, if_pos c2]), fun d Q => (r_240 (d := d + 191) hok.1 (hs2r _ (q_re_ne (by omega)))).trans (by rw [q_re_ne (show (181 : Nat) ≠ 171 by decide), if_neg c1V, if_neg csV, if_pos c2V]), q_re_ne (by omega), z_JJ_re h (by omega)⟩
  have c2V : ¬ M 181 k.toNat = 0 := by rw [hk2, if_neg c2]; omega
  have e182 : M 182 k.toNat = M 168 k.toNat := by rw [hk3, if_neg c2]
  have hRR := hRl.1.2.2.2.2.2.2.2.2.2.2.1
  have h22 : V 22 13 = M 22 13 := hRR.1.1
  have hsz := q_w22_13 w
  by_cases c3 : 8 ≤ M 22 13
  · have c3V : V 22 13 = 8 := by omega
    exact ⟨-8, q_re M 8, V, fun M => q_rm M 8, x, fun d Q => (e_76 (d := d + 191) w hs1).trans (by rw [if_neg c1, if_neg cs, if_neg c2, if_pos c3]), fun d Q => (r_240 (d := d + 191) hok.1 (hs2r _ (q_re_ne (by omega)))).trans (by rw [q_re_ne (show (181 : Nat) ≠ 171 by decide), if_neg c1V, if_neg csV, if_neg c2V, if_pos c3V]), q_re_ne (by omega), z_JJ_re h (by omega)⟩
  have c3V : ¬ V 22 13 = 8 := by omega
  obtain ⟨r, hr⟩ : ∃ r : Nat, M 22 13 = r := ⟨(M 22 13).toNat, by omega⟩
  obtain ⟨s, hs⟩ : ∃ s : Int, M 168 k.toNat / 4 = s := ⟨_, rfl⟩
  have hsr : 0 ≤ s ∧ s ≤ 40 ∧ 4 * s ≤ M 168 k.toNat := by omega
  have hr8 : r < 8 := by omega
  have f1 := fun (X : mj_M) => mj_cpy_at (M := X) (a := 164 + k.toNat) (b := 35) (s := 0) (t := 160 * r) (N := (4 * s).toNat)
  have hcl : mj_cpy (q_rnA M y (M 168 k.toNat / 4)) (164 + k.toNat) 35 0 (160 * M 22 13).toNat (4 * (M 168 k.toNat / 4)).toNat = mj_cpy (q_rnA M y s) (164 + k.toNat) 35 0 (160 * r) (4 * s).toNat := by rw [hs, hr, show (160 * (r : Int)).toNat = 160 * r by omega]
  have w1 : q_wr (mj_cpy (q_rnA M y s) (164 + k.toNat) 35 0 (160 * r) (4 * s).toNat) := by
    apply q_okv_wr
    intro a i
    by_cases c : a = 35
    · subst c; exact q_okv_o (by decide)
    · rw [(f1 _).1 a c]
      have w2 : q_wr (q_rnA M y s) := by
        unfold q_rnA
        simp only [hr]
        refine q_wr_up (q_wr_up (q_wr_up (q_wr_up (q_wr_up (q_wr_up (q_wr_up (q_wr_up (q_wr_up (q_wr_up w ?_) ?_) ?_) ?_) ?_) ?_) ?_) ?_) ?_) ?_ <;> simp [q_okv] <;> omega
      exact q_wr_okv w2 a i
  have u : ∀ a j, q_rnA M y s a j = if a = 22 ∧ j = 13 then (r : Int) + 1 else if j = r then (if a = 23 then y else if a = 24 ∨ a = 25 ∨ a = 26 then 0 else if a = 27 ∨ a = 28 ∨ a = 29 ∨ a = 30 then -1 else if a = 31 then s else M a j) else M a j := by
    intro a j
    unfold q_rnA
    simp only [hr, Int.toNat_natCast]
    by_cases c31 : a = 31
    · subst c31; rw [mj_up_at]; by_cases c : j = r
      · simp [c]
      · simp [c, mj_up]
    by_cases c30 : a = 30
    · subst c30; rw [mj_up_ne (by omega), mj_up_at]; by_cases c : j = r
      · simp [c]
      · simp [c, mj_up]
    by_cases c29 : a = 29
    · subst c29; rw [mj_up_ne (by omega), mj_up_ne (by omega), mj_up_at]; by_cases c : j = r
      · simp [c]
      · simp [c, mj_up]
    by_cases c28 : a = 28
    · subst c28; rw [mj_up_ne (by omega), mj_up_ne (by omega), mj_up_ne (by omega), mj_up_at]; by_cases c : j = r
      · simp [c]
      · simp [c, mj_up]
    rw [mj_up_ne c31, mj_up_ne c30, mj_up_ne c29, mj_up_ne c28]
    by_cases c27 : a = 27
    · subst c27; rw [mj_up_at]; by_cases c : j = r
      · simp [c]
      · simp [c, mj_up]
    by_cases c26 : a = 26
    · subst c26; rw [mj_up_ne (by omega), mj_up_at]; by_cases c : j = r
      · simp [c]
      · simp [c, mj_up]
    by_cases c25 : a = 25
    · subst c25; rw [mj_up_ne (by omega), mj_up_ne (by omega), mj_up_at]; by_cases c : j = r
      · simp [c]
      · simp [c, mj_up]
    rw [mj_up_ne c27, mj_up_ne c26, mj_up_ne c25]
    by_cases c24 : a = 24
    · subst c24; rw [mj_up_at]; by_cases c : j = r
      · simp [c]
      · simp [c, mj_up]
    by_cases c23 : a = 23
    · subst c23; rw [mj_up_ne (by omega), mj_up_at]; by_cases c : j = r
      · simp [c]
      · simp [c, mj_up]
    rw [mj_up_ne c24, mj_up_ne c23]
    by_cases c22 : a = 22
    · subst c22; rw [mj_up_at]; by_cases c : j = 13
      · simp [c]
      · simp [c]
    · rw [mj_up_ne c22]; simp [c22, c23, c24, c25, c26, c27, c28, c29, c30, c31]
  generalize hM1 : mj_cpy (q_rnA M y s) (164 + k.toNat) 35 0 (160 * r) (4 * s).toNat = M1 at *
  have g : ∀ a, a ≠ 35 → ∀ j, M1 a j = if a = 22 ∧ j = 13 then (r : Int) + 1 else if j = r then (if a = 23 then y else if a = 24 ∨ a = 25 ∨ a = 26 then 0 else if a = 27 ∨ a = 28 ∨ a = 29 ∨ a = 30 then -1 else if a = 31 then s else M a j) else M a j := fun a h1 j => by rw [← hM1, (f1 _).1 a h1, u]
  have g0 : ∀ a, (a < 22 ∨ 31 < a) → a ≠ 35 → M1 a = M a := fun a h1 h2 => by
    funext j
    rw [g a h2 j, if_neg (by omega)]
    split
    · rw [if_neg (by omega), if_neg (by omega), if_neg (by omega), if_neg (by omega)]
    · rfl
  have g35 : ∀ j, M1 35 j = if 160 * r ≤ j ∧ j < 160 * r + (4 * s).toNat then M (164 + k.toNat) (j - 160 * r) else M 35 j := fun j => by
    have z : ∀ a j, (a < 22 ∨ 31 < a) → q_rnA M y s a j = M a j := fun a j h1 => by
      rw [u, if_neg (by omega)]
      split
      · rw [if_neg (by omega), if_neg (by omega), if_neg (by omega), if_neg (by omega)]
      · rfl
    rw [← hM1, (f1 _).2 j, z _ _ (by omega), z _ _ (by omega), Nat.zero_add]
  have g22 : M1 22 13 = r + 1 := by rw [g 22 (by omega), if_pos ⟨rfl, rfl⟩]
  -- the other side
  have hz := z_rz (V := V) hr8
  have vA : ∀ a j, m_rnA V (r : Int) y s a j = if j = r then (if a = 23 then y else if a = 27 ∨ a = 28 ∨ a = 29 ∨ a = 30 then -1 else if a = 31 then s else q_for (f_rz (r : Int)) 180 0 V a j) else q_for (f_rz (r : Int)) 180 0 V a j := by
    intro a j
    unfold m_rnA
    simp only [Int.toNat_natCast]
    by_cases c31 : a = 31
    · subst c31; rw [mj_up_at]; by_cases c : j = r
      · simp [c]
      · simp [c, mj_up]
    by_cases c30 : a = 30
    · subst c30; rw [mj_up_ne (by omega), mj_up_at]; by_cases c : j = r
      · simp [c]
      · simp [c, mj_up]
    by_cases c29 : a = 29
    · subst c29; rw [mj_up_ne (by omega), mj_up_ne (by omega), mj_up_at]; by_cases c : j = r
      · simp [c]
      · simp [c, mj_up]
    rw [mj_up_ne c31, mj_up_ne c30, mj_up_ne c29]
    by_cases c28 : a = 28
    · subst c28; rw [mj_up_at]; by_cases c : j = r
      · simp [c]
      · simp [c, mj_up]
    by_cases c27 : a = 27
    · subst c27; rw [mj_up_ne (by omega), mj_up_at]; by_cases c : j = r
      · simp [c]
      · simp [c, mj_up]
    by_cases c23 : a = 23
    · subst c23; rw [mj_up_ne (by omega), mj_up_ne (by omega), mj_up_at]; by_cases c : j = r
      · simp [c]
      · simp [c, mj_up]
    rw [mj_up_ne c28, mj_up_ne c27, mj_up_ne c23]
    simp [c23, c27, c28, c29, c30, c31]
  have f2 := q_for_row (N := (4 * s).toNat) (F := f_cp M1 (160 * k) (r : Int)) (a := 35) (o := 160 * r) (g := fun t _ => M1 183 (160 * k.toNat + t)) (fun t A _ => by unfold f_cp; rw [show (160 * (r : Int) + (t : Int)).toNat = 160 * r + t by omega, show (160 * k + (t : Int)).toNat = 160 * k.toNat + t by omega]) (fun _ _ _ _ => rfl) (4 * s).toNat 0 (m_rnA V (r : Int) y s) (by omega)
  have wz : q_wr (q_for (f_rz (r : Int)) 180 0 V) := q_for_inv (N := 180) (P := fun _ V => q_wr V) (fun k V _ h => q_wr_up h q_okv_z) 180 0 V rfl hok.1
  have wA : q_wr (m_rnA V (r : Int) y s) := by
    unfold m_rnA
    refine q_wr_up (q_wr_up (q_wr_up (q_wr_up (q_wr_up (q_wr_up wz ?_) ?_) ?_) ?_) ?_) ?_ <;> simp [q_okv] <;> omega
  have eB : m_rnB M1 V k (r : Int) y s = mj_up (q_for (f_cp M1 (160 * k) (r : Int)) (4 * s).toNat 0 (m_rnA V (r : Int) y s)) 22 13 ((r : Int) + 1) := by
    show mj_up (q_for (f_cp M1 (160 * k) (r : Int)) (4 * s).toNat 0 (m_rnA V (r : Int) y s)) 22 13 (mj_w (q_for (f_cp M1 (160 * k) (r : Int)) (4 * s).toNat 0 (m_rnA V (r : Int) y s) 22 13 + 1)) = _
    rw [f2.1 22 (by omega), vA, hz.1 22 (by omega) (by omega), h22, hr]
    have : mj_w ((r : Int) + 1) = r + 1 := mj_w_id2 (by omega) (by omega)
    split
    · rw [if_neg (show ¬ (22 : Nat) = 23 by decide), if_neg (show ¬ ((22 : Nat) = 27 ∨ (22 : Nat) = 28 ∨ (22 : Nat) = 29 ∨ (22 : Nat) = 30) by decide), if_neg (show ¬ (22 : Nat) = 31 by decide), this]
    · rw [this]
  have hwv : q_wr (m_rnB M1 V k (r : Int) y s) := by
    rw [eB]
    refine q_wr_up ?_ (by simp [q_okv]; omega)
    apply q_okv_wr
    intro a i
    by_cases c : a = 35
    · subst c; exact q_okv_o (by decide)
    · rw [f2.1 a c]; exact q_wr_okv wA a i
  have v : ∀ a j, a ≠ 35 → m_rnB M1 V k (r : Int) y s a j = if a = 22 ∧ j = 13 then (r : Int) + 1 else m_rnA V (r : Int) y s a j := fun a j h1 => by
    rw [eB]
    by_cases c : a = 22
    · subst c; rw [mj_up_at, f2.1 22 (by omega)]
      by_cases c2 : j = 13
      · simp [c2]
      · simp [c2]
    · rw [mj_up_ne c, f2.1 a h1, if_neg (fun q => c q.1)]
  have v35 : ∀ j, m_rnB M1 V k (r : Int) y s 35 j = if 160 * r ≤ j ∧ j < 160 * r + (4 * s).toNat then M 183 (160 * k.toNat + (j - 160 * r)) else m_rnA V (r : Int) y s 35 j := fun j => by
    rw [eB, mj_up_ne (by omega), f2.2 j, Nat.add_zero, g0 183 (by omega) (by omega)]
  have hmm : ∀ d Q, mj_Rn (d + 200) 240 0 [.inr (.inl 172), .inl y, .inl k, .inr (.inr 0), .inr (.inr 0), .inr (.inr 0)] [] (SGx x) (v_st V M1) Q = Q (some (.inl (M 22 13))) (SGx x) (v_st (m_rnB M1 V k (r : Int) y s) M1) := by
    intro d Q
    refine (r_240 (d := d + 191) (x := x) (Q := Q) hok.1 (hs2r M1 (g0 182 (by omega) (by omega)))).trans ?_
    rw [if_neg c1V, if_neg csV, g0 181 (by omega) (by omega), if_neg c2V, if_neg c3V, g0 182 (by omega) (by omega), e182, hs, h22, hr]
  have hcc : ∀ d Q, mj_Rn (d + 200) 76 0 [.inr (.inl 0), .inl y, .inl k] [] (SGx x) M Q = Q (some (.inl (M 22 13))) (SGx x) M1 := fun d Q => (e_76 (d := d + 191) w hs1).trans (by rw [if_neg c1, if_neg cs, if_neg c2, if_neg c3, hcl])
  generalize m_rnB M1 V k (r : Int) y s = V1 at *
  have v0 : ∀ a, (a < 22 ∨ 35 < a) → a ≠ 213 → V1 a = V a := fun a h1 h2 => by
    funext j
    rw [v a j (by omega), if_neg (by omega), vA, hz.1 a (by omega) h2]
    split
    · rw [if_neg (by omega), if_neg (by omega), if_neg (by omega)]
    · rfl
  have v213 : True := trivial
  have vr : ∀ a j, 23 ≤ a → a ≤ 34 → V1 a j = if j = r then (if a = 23 then y else if a = 27 ∨ a = 28 ∨ a = 29 ∨ a = 30 then -1 else if a = 31 then s else 0) else V a j := fun a j h1 h2 => by
    rw [v a j (by omega), if_neg (by omega), vA, hz.2.1 a j h1 h2]
    by_cases c : j = r
    · rw [if_pos c, if_pos c, if_pos c]
    · rw [if_neg c, if_neg c, if_neg c]
  refine z_op_ch (v := M 22 13) (M' := M1) (V' := V1) h (fun M => M) (fun _ _ _ _ => rfl) (fun a q => g0 a (by omega) (by omega)) (by rw [g0 1 (by omega) (by omega)]) ⟨by rw [v0 1 (by omega) (by omega)], v0 217 (by omega) (by omega)⟩ ?_ hcc hmm
  obtain ⟨hR, hR2, hQ, hO, -⟩ := hRR
  have hQH := hRl.1.2.2.2.2.2.2.2.2.2.2.2.1
  have gr : ∀ a j, 23 ≤ a → a ≤ 34 → M1 a j = if j = r then (if a = 23 then y else if a = 24 ∨ a = 25 ∨ a = 26 then 0 else if a = 27 ∨ a = 28 ∨ a = 29 ∨ a = 30 then -1 else if a = 31 then s else M a j) else M a j := fun a j h1 h2 => by rw [g a (by omega) j, if_neg (by omega)]
  have gn : ∀ a j, 23 ≤ a → a ≤ 34 → j ≠ r → M1 a j = M a j := fun a j h1 h2 h3 => by rw [gr a j h1 h2, if_neg h3]
  have vn : ∀ a j, 23 ≤ a → a ≤ 34 → j ≠ r → V1 a j = V a j := fun a j h1 h2 h3 => by rw [vr a j h1 h2, if_neg h3]
  have G23 : M1 23 r = y := by rw [gr 23 r (by omega) (by omega)]; simp
  have G24 : M1 24 r = 0 := by rw [gr 24 r (by omega) (by omega)]; simp
  have G25 : M1 25 r = 0 := by rw [gr 25 r (by omega) (by omega)]; simp
  have G26 : M1 26 r = 0 := by rw [gr 26 r (by omega) (by omega)]; simp
  have G27 : M1 27 r = -1 := by rw [gr 27 r (by omega) (by omega)]; simp
  have G28 : M1 28 r = -1 := by rw [gr 28 r (by omega) (by omega)]; simp
  have G29 : M1 29 r = -1 := by rw [gr 29 r (by omega) (by omega)]; simp
  have G30 : M1 30 r = -1 := by rw [gr 30 r (by omega) (by omega)]; simp
  have G31 : M1 31 r = s := by rw [gr 31 r (by omega) (by omega)]; simp
  have W23 : V1 23 r = y := by rw [vr 23 r (by omega) (by omega)]; simp
  have W24 : V1 24 r = 0 := by rw [vr 24 r (by omega) (by omega)]; simp
  have W25 : V1 25 r = 0 := by rw [vr 25 r (by omega) (by omega)]; simp
  have W26 : V1 26 r = 0 := by rw [vr 26 r (by omega) (by omega)]; simp
  have W27 : V1 27 r = -1 := by rw [vr 27 r (by omega) (by omega)]; simp
  have W28 : V1 28 r = -1 := by rw [vr 28 r (by omega) (by omega)]; simp
  have W29 : V1 29 r = -1 := by rw [vr 29 r (by omega) (by omega)]; simp
  have W30 : V1 30 r = -1 := by rw [vr 30 r (by omega) (by omega)]; simp
  have W31 : V1 31 r = s := by rw [vr 31 r (by omega) (by omega)]; simp
  have RR : z_RR 8 M1 V1 := by
    refine ⟨⟨?_, ?_⟩, ?_, ?_, ⟨?_, ?_⟩, w1⟩
    · rw [g22, v 22 13 (by omega), if_pos ⟨rfl, rfl⟩]
    · intro j hj
      by_cases c : j = r
      · subst c
        rw [G23, G24, G25, G26, G27, G28, G29, G30, G31, W23, W24, W25, W26, W27, W28, W29, W30, W31]
        exact ⟨rfl, rfl, fun _ => ⟨rfl, rfl⟩, rfl, rfl, rfl, rfl, rfl⟩
      · rw [gn 23 j (by omega) (by omega) c, gn 24 j (by omega) (by omega) c, gn 25 j (by omega) (by omega) c, gn 26 j (by omega) (by omega) c, gn 27 j (by omega) (by omega) c, gn 28 j (by omega) (by omega) c, gn 29 j (by omega) (by omega) c, gn 30 j (by omega) (by omega) c, gn 31 j (by omega) (by omega) c,
          vn 23 j (by omega) (by omega) c, vn 24 j (by omega) (by omega) c, vn 25 j (by omega) (by omega) c, vn 26 j (by omega) (by omega) c, vn 27 j (by omega) (by omega) c, vn 28 j (by omega) (by omega) c, vn 29 j (by omega) (by omega) c, vn 30 j (by omega) (by omega) c, vn 31 j (by omega) (by omega) c]
        exact hR.2 j hj
    · intro j hj
      by_cases c : j = r
      · subst c
        rw [G24, G31]
        refine ⟨fun q => by omega, fun q => by omega, fun i hi q => ?_⟩
        rw [g35, v35, if_pos (by omega), if_pos (by omega), show 160 * j + i - 160 * j = i by omega]
        exact hk4 i (by omega)
      · obtain ⟨q1, q2, q3⟩ := hR2 j hj
        rw [gn 24 j (by omega) (by omega) c, gn 32 j (by omega) (by omega) c, gn 33 j (by omega) (by omega) c, gn 31 j (by omega) (by omega) c, vn 32 j (by omega) (by omega) c, vn 33 j (by omega) (by omega) c]
        refine ⟨q1, q2, fun i hi q => ?_⟩
        have o1 : 160 * j + i < 160 * r ∨ 160 * r + 160 ≤ 160 * j + i := by omega
        rw [g35, v35, if_neg (by omega), if_neg (by omega), vA, hz.2.2 _ o1]
        have : V 35 (160 * j + i) = M 35 (160 * j + i) := q3 i hi q
        split
        · rw [if_neg (by omega), if_neg (by omega), if_neg (by omega)]; exact this
        · exact this
    · intro j hj
      rw [g22] at hj
      by_cases c : j = r
      · subst c
        rw [G24, G28, G29, G30]
        exact ⟨by omega, ⟨fun q => absurd rfl q, fun q => by omega⟩, fun q => absurd rfl q, fun q => absurd rfl q, fun q => absurd rfl q⟩
      · have hj2 : (j : Int) < M 22 13 := by omega
        obtain ⟨q1, q2, q3, q4, q5⟩ := hQ j hj2
        have h29 := q_w29 (i := j) w (by omega)
        have h30 := q_w30 (i := j) w (by omega)
        rw [g22, gn 24 j (by omega) (by omega) c, gn 28 j (by omega) (by omega) c, gn 29 j (by omega) (by omega) c, gn 30 j (by omega) (by omega) c, gn 34 j (by omega) (by omega) c]
        refine ⟨q1, q2, fun q => ?_, fun q => ?_, fun q g3 => ?_⟩
        · obtain ⟨t1, t2, t3⟩ := q3 q
          rw [gn 30 _ (by omega) (by omega) (by omega)]
          exact ⟨t1, by omega, t3⟩
        · obtain ⟨t1, t2, t3⟩ := q4 q
          rw [gn 24 _ (by omega) (by omega) (by omega), gn 29 _ (by omega) (by omega) (by omega)]
          exact ⟨by omega, t2, t3⟩
        · obtain ⟨t1, t2, t3⟩ := q3 q
          rw [gn 24 _ (by omega) (by omega) (by omega)] at g3
          rw [gn 34 _ (by omega) (by omega) (by omega)]
          exact q5 q g3
    · intro i j hi hj
      rw [g22] at hi hj
      by_cases ci : i = r
      · subst ci; rw [G24]; intro q; omega
      by_cases cj : j = r
      · subst cj; rw [G24]; intro _ q; omega
      rw [gn 24 i (by omega) (by omega) ci, gn 24 j (by omega) (by omega) cj, gn 34 i (by omega) (by omega) ci, gn 34 j (by omega) (by omega) cj, vn 34 i (by omega) (by omega) ci, vn 34 j (by omega) (by omega) cj]
      exact hO.1 i j (by omega) (by omega)
    · intro i hi
      rw [g22] at hi
      by_cases ci : i = r
      · subst ci; rw [G24]; intro q; omega
      rw [gn 24 i (by omega) (by omega) ci, vn 34 i (by omega) (by omega) ci, v0 201 (by omega) (by omega)]
      exact hO.2 i (by omega)
  have QH : z_QH M1 := by
    intro j hj
    rw [g22] at hj
    rw [g0 14 (by omega) (by omega)]
    by_cases c : j = r
    · subst c
      rw [G23, G27, G28]
      exact ⟨fun _ => hb.2.2, fun q => absurd rfl q, fun q => absurd rfl q⟩
    · rw [gn 24 j (by omega) (by omega) c, gn 23 j (by omega) (by omega) c, gn 27 j (by omega) (by omega) c, gn 28 j (by omega) (by omega) c]
      exact hQH j (by omega)
  refine ⟨⟨?_, z_F_c hRl.2.1 (g0 130 (by omega) (by omega)) (g0 131 (by omega) (by omega)), z_HT_c hRl.2.2.1 (g0 14 (by omega) (by omega)) (g0 3 (by omega) (by omega)) (g0 4 (by omega) (by omega)), by rw [g0 130 (by omega) (by omega)]; exact hRl.2.2.2⟩, ?_, m_B_m (m_B_c h.1.2.2.1 ⟨v0 17 (by omega) (by omega), v0 201 (by omega) (by omega)⟩) (by omega), q_o_m (q_o_z h.1.2.2.2 (g0 17 (by omega) (by omega))) (by omega)⟩
  · exact z_SW_rp hRl.1 w1 hwv (fun a q => g0 a (by omega) (by omega)) (fun a q q2 => v0 a (by omega) q2) RR QH
  · rw [g0 1 (by omega) (by omega)]
    intro j hj
    by_cases c : j = r
    · subst c
      rw [G24, g22]
      exact ⟨fun q => by omega, fun q => by omega, fun q => by omega⟩
    · obtain ⟨q1, q2, q3⟩ := h.1.2.1 j hj
      rw [gn 24 j (by omega) (by omega) c, gn 34 j (by omega) (by omega) c, gn 30 j (by omega) (by omega) c, g22]
      exact ⟨q1, q2, fun q => q3 (by omega)⟩

end op08
