section op07
variable {A B C M N V W M' V' A' : mj_M} {x : Nat} {n m : Int} {e : Nat}
/-- the row of time changes on both sides -/
theorem z_SW_43 (h : z_SW e A V) (w : q_wr A') (wV : q_wr V') (oA : ∀ a, a ≠ 1 → a ≠ 43 → A' a = A a) (oV : ∀ a, a ≠ 1 → a ≠ 43 → V' a = V a) (h8 : A' 1 8 = A 1 8) (hG : z_G A' V') : z_SW e A' V' := by
  have hRR := z_RR_o h.2.2.2.2.2.2.2.2.2.2.1 w (fun a h1 _ => oA a (by omega) (by omega)) (fun a h1 _ => oV a (by omega) (by omega)) (by rw [oV 201 (by omega) (by omega)])
  have hQH := z_QH_c h.2.2.2.2.2.2.2.2.2.2.2.1 (oA 22 (by omega) (by omega)) (oA 24 (by omega) (by omega)) (oA 14 (by omega) (by omega)) (oA 23 (by omega) (by omega)) (oA 28 (by omega) (by omega)) (oA 27 (by omega) (by omega))
  obtain ⟨s1, s2, s3, s4, s5, s6, s7, s8, s9, s10, s11, s12, s13, s14, s15, s16, s17, s18⟩ := h
  have a : ∀ k, ((k < 22 ∨ 34 < k) ∧ k ≠ 43) → k ≠ 1 → A' k = A k := fun k q h => oA k h q.2
  have v : ∀ k, ((k < 22 ∨ 34 < k) ∧ k ≠ 43) → k ≠ 1 → k ≠ 201 → V' k = V k := fun k q h _ => oV k h q.2
  have h201 : V' 201 1 = V 201 1 := by rw [oV 201 (by omega) (by omega)]
  refine ⟨z_pre_c s1 w (a 3 (by omega) (by omega)) (a 7 (by omega) (by omega)) (a 131 (by omega) (by omega)), ?_, z_tb_c s3 (a 3 (by omega) (by omega)) (a 8 (by omega) (by omega)) (a 9 (by omega) (by omega)) (a 42 (by omega) (by omega)), z_rm_c s4 (a 3 (by omega) (by omega)) (a 6 (by omega) (by omega)) h8, by rw [a 42 (by omega) (by omega), v 42 (by omega) (by omega) (by omega)]; exact s5,
    z_Mk_c s6 (a 3 (by omega) (by omega)) (a 131 (by omega) (by omega)) (v 131 (by omega) (by omega) (by omega)), m_ok_same s7 wV (v 7 (by omega) (by omega) (by omega)) (v 212 (by omega) (by omega) (by omega)), ?_, ?_, ?_, hRR, hQH, ?_, ?_, z_TH_c s15 (a 3 (by omega) (by omega)) (a 4 (by omega) (by omega)) (a 14 (by omega) (by omega)), z_TB_c s16 (a 3 (by omega) (by omega)) (a 14 (by omega) (by omega)) (a 8 (by omega) (by omega)) (a 131 (by omega) (by omega)), z_TR_c s17 (a 3 (by omega) (by omega)) (a 5 (by omega) (by omega)) (a 4 (by omega) (by omega)) (a 12 (by omega) (by omega)), z_PR_c s18 (a 9001 (by omega) (by omega))⟩
  · exact z_T_c s2 (a 3 (by omega) (by omega)) (a 4 (by omega) (by omega)) (a 5 (by omega) (by omega)) (a 6 (by omega) (by omega)) (a 7 (by omega) (by omega)) (a 8 (by omega) (by omega)) (a 9 (by omega) (by omega)) (a 10 (by omega) (by omega)) (a 11 (by omega) (by omega)) (a 12 (by omega) (by omega)) (v 212 (by omega) (by omega) (by omega)) (v 3 (by omega) (by omega) (by omega)) (v 4 (by omega) (by omega) (by omega)) (v 5 (by omega) (by omega) (by omega)) (v 6 (by omega) (by omega) (by omega)) (v 7 (by omega) (by omega) (by omega)) (v 8 (by omega) (by omega) (by omega)) (v 9 (by omega) (by omega) (by omega)) (v 10 (by omega) (by omega) (by omega)) (v 11 (by omega) (by omega) (by omega)) (v 12 (by omega) (by omega) (by omega))
  · exact z_H_c s8 (a 14 (by omega) (by omega)) (a 15 (by omega) (by omega)) (a 16 (by omega) (by omega)) (a 17 (by omega) (by omega)) (a 18 (by omega) (by omega)) (a 19 (by omega) (by omega)) (v 210 (by omega) (by omega) (by omega)) (v 14 (by omega) (by omega) (by omega)) (v 15 (by omega) (by omega) (by omega)) (v 16 (by omega) (by omega) (by omega)) (v 17 (by omega) (by omega) (by omega)) (v 18 (by omega) (by omega) (by omega)) (v 19 (by omega) (by omega) (by omega))
  · exact z_H2_c s9 (a 14 (by omega) (by omega)) (a 15 (by omega) (by omega)) (a 16 (by omega) (by omega)) (a 17 (by omega) (by omega)) (a 18 (by omega) (by omega)) (a 19 (by omega) (by omega)) (a 3 (by omega) (by omega))
  · exact z_H3_c s10 (a 14 (by omega) (by omega)) (a 17 (by omega) (by omega)) (a 18 (by omega) (by omega)) (a 20 (by omega) (by omega)) (a 21 (by omega) (by omega)) (v 20 (by omega) (by omega) (by omega)) (v 21 (by omega) (by omega) (by omega))
  · unfold z_W z_al at s13 ⊢
    rw [a 36 (by omega) (by omega), a 37 (by omega) (by omega), a 38 (by omega) (by omega), a 39 (by omega) (by omega), a 40 (by omega) (by omega), a 41 (by omega) (by omega), v 36 (by omega) (by omega) (by omega), v 37 (by omega) (by omega) (by omega), v 38 (by omega) (by omega) (by omega), v 39 (by omega) (by omega) (by omega), v 40 (by omega) (by omega) (by omega), v 210 (by omega) (by omega) (by omega), v 211 (by omega) (by omega) (by omega), v 214 (by omega) (by omega) (by omega), v 215 (by omega) (by omega) (by omega), h201]
    exact s13
  · exact hG
/-- the rows of a thing change on both sides -/
theorem z_SW_tg (h : z_SW e A V) (w : q_wr A') (wV : q_wr V') (oA : ∀ a, (a < 16 ∨ 21 < a) → A' a = A a) (oV : ∀ a, (a < 16 ∨ 21 < a) → V' a = V a)
    (hH : z_H A' V') (hH2 : z_H2 A') (hH3 : z_H3 A' V') : z_SW e A' V' := by
  obtain ⟨s1, s2, s3, s4, s5, s6, s7, s8, s9, s10, s11, s12, s13, s14, s15, s16, s17, s18⟩ := h
  have a : ∀ k, (k < 16 ∨ 22 ≤ k) → k ≠ 132 → A' k = A k := fun k hk h2 => oA k (by omega)
  have v : ∀ k, (k < 16 ∨ 22 ≤ k) → V' k = V k := fun k hk => oV k (by omega)
  refine ⟨z_pre_c s1 w (a 3 (by omega) (by omega)) (a 7 (by omega) (by omega)) (a 131 (by omega) (by omega)), ?_, z_tb_c s3 (a 3 (by omega) (by omega)) (a 8 (by omega) (by omega)) (a 9 (by omega) (by omega)) (a 42 (by omega) (by omega)), z_rm_c s4 (a 3 (by omega) (by omega)) (a 6 (by omega) (by omega)) (by rw [a 1 (by omega) (by omega)]), by rw [a 42 (by omega) (by omega), v 42 (by omega)]; exact s5,
    z_Mk_c s6 (a 3 (by omega) (by omega)) (a 131 (by omega) (by omega)) (v 131 (by omega)), m_ok_same s7 wV (v 7 (by omega)) (v 212 (by omega)), hH, hH2, hH3, ?_, z_QH_c s12 (a 22 (by omega) (by omega)) (a 24 (by omega) (by omega)) (a 14 (by omega) (by omega)) (a 23 (by omega) (by omega)) (a 28 (by omega) (by omega)) (a 27 (by omega) (by omega)), ?_,
    z_G_c s14 (a 1 (by omega) (by omega)) (a 43 (by omega) (by omega)) (v 1 (by omega)) (v 43 (by omega)), z_TH_c s15 (a 3 (by omega) (by omega)) (a 4 (by omega) (by omega)) (a 14 (by omega) (by omega)), z_TB_c s16 (a 3 (by omega) (by omega)) (a 14 (by omega) (by omega)) (a 8 (by omega) (by omega)) (a 131 (by omega) (by omega)), z_TR_c s17 (a 3 (by omega) (by omega)) (a 5 (by omega) (by omega)) (a 4 (by omega) (by omega)) (a 12 (by omega) (by omega)), z_PR_c s18 (a 9001 (by omega) (by omega))⟩
  · exact z_T_c s2 (a 3 (by omega) (by omega)) (a 4 (by omega) (by omega)) (a 5 (by omega) (by omega)) (a 6 (by omega) (by omega)) (a 7 (by omega) (by omega)) (a 8 (by omega) (by omega)) (a 9 (by omega) (by omega)) (a 10 (by omega) (by omega)) (a 11 (by omega) (by omega)) (a 12 (by omega) (by omega)) (v 212 (by omega)) (v 3 (by omega)) (v 4 (by omega)) (v 5 (by omega)) (v 6 (by omega)) (v 7 (by omega)) (v 8 (by omega)) (v 9 (by omega)) (v 10 (by omega)) (v 11 (by omega)) (v 12 (by omega))
  · exact z_RR_o s11 w (fun k h1 h2 => a k (by omega) (by omega)) (fun k h1 h2 => v k (by omega)) (by rw [v 201 (by omega)])
  · exact z_W_c s13 (a 36 (by omega) (by omega)) (a 37 (by omega) (by omega)) (a 38 (by omega) (by omega)) (a 39 (by omega) (by omega)) (a 40 (by omega) (by omega)) (a 41 (by omega) (by omega)) (v 36 (by omega)) (v 37 (by omega)) (v 38 (by omega)) (v 39 (by omega)) (v 40 (by omega)) (v 210 (by omega)) (v 211 (by omega)) (v 214 (by omega)) (v 215 (by omega)) (v 201 (by omega))
theorem z_dr {r k : Nat} (hr : r < 8) (hk : k < 180) : v_dec (4592 + 180 * (r : Int) + (k : Int)).toNat = if k < 12 then (23 + k, r) else if k < 20 then (213, 20 * r + k) else (35, 160 * r + (k - 20)) := by
  have e1 : ((4592 + 180 * (r : Int) + (k : Int)).toNat - 4592) % 180 = k := by omega
  have e2 : ((4592 + 180 * (r : Int) + (k : Int)).toNat - 4592) / 180 = r := by omega
  unfold v_dec
  rw [e1, e2, if_neg (by omega), if_neg (by omega), if_neg (by omega), if_neg (by omega), if_pos (by omega)]
theorem z_rz {r : Nat} (hr : r < 8) : (∀ a, (a < 23 ∨ 35 < a) → a ≠ 213 → q_for (f_rz (r : Int)) 180 0 V a = V a) ∧ (∀ a j, 23 ≤ a → a ≤ 34 → q_for (f_rz (r : Int)) 180 0 V a j = if j = r then 0 else V a j) ∧
    (∀ j, (j < 160 * r ∨ 160 * r + 160 ≤ j) → q_for (f_rz (r : Int)) 180 0 V 35 j = V 35 j) := by
  have H := q_for_set (F := f_rz (r : Int)) (N := 180) (p := fun k => if k < 12 then (23 + k, r) else if k < 20 then (213, 20 * r + k) else (35, 160 * r + (k - 20))) (v := 0) (fun k A hk => by unfold f_rz; rw [z_dr hr hk]) 180 0 V rfl
  have no : ∀ a j k, (if k < 12 then (23 + k, r) else if k < 20 then (213, 20 * r + k) else (35, 160 * r + (k - 20))) = (a, j) → (k < 12 ∧ a = 23 + k ∧ j = r) ∨ a = 213 ∨ (20 ≤ k ∧ a = 35 ∧ j = 160 * r + (k - 20)) := by
    intro a j k q
    split at q
    · injection q with q1 q2; omega
    · split at q
      · injection q with q1 q2; omega
      · injection q with q1 q2; omega
  refine ⟨fun a h1 h2 => ?_, fun a j h1 h2 => ?_, fun j h1 => ?_⟩
  · funext j
    refine (H a j).2 (fun k _ hk q => ?_)
    have := no a j k q
    omega
  · by_cases c : j = r
    · rw [if_pos c]
      refine (H a j).1 ⟨a - 23, by omega, by omega, ?_⟩
      show (if a - 23 < 12 then (23 + (a - 23), r) else _) = (a, j)
      rw [if_pos (by omega), c, show 23 + (a - 23) = a by omega]
    · rw [if_neg c]
      refine (H a j).2 (fun k _ hk q => ?_)
      have := no a j k q
      omega
  · refine (H 35 j).2 (fun k _ hk q => ?_)
    have := no 35 j k q
    omega

theorem z_o_time (h : z_JJ n M V) {k : Int} : z_op n x 90 248 [.inr (.inl 0), .inl k] [.inr (.inl 172), .inl k, .inr (.inr 0), .inr (.inr 0)] M V := by
  have hRl := h.1.1
  have w := hRl.1.1.1
  have hok := hRl.1.2.2.2.2.2.2.1
  have hX := h.2
  obtain ⟨hs1, hs2⟩ := z_hs h
  have hs2r : ∀ N : mj_M, N 182 = M 182 → ∀ i : Nat, i < 4 → 0 ≤ N 182 i ∧ N 182 i ≤ 160 := fun N e => by rw [e]; exact hs2
  by_cases cs : ¬ (0 ≤ k ∧ k < 4)
  · exact ⟨-3, q_re M 3, V, fun M => q_rm M 3, x, fun d Q => (e_90 (d := d + 191) hs1).trans (by rw [if_pos cs]), fun d Q => (r_248 (d := d + 191) (hs2r _ (q_re_ne (by omega)))).trans (by rw [if_pos (by omega)]), q_re_ne (by omega), z_JJ_re h (by omega)⟩
  have csV : ¬ ¬ (0 ≤ k ∧ k ≤ 3) := by omega
  obtain ⟨hk1, hk2, hk3, hk4⟩ := hX.2.2.1 k.toNat (by omega)
  by_cases c2 : M 168 k.toNat = -1
  · have c2V : M 181 k.toNat = 0 := by rw [hk2, if_pos c2]
    exact ⟨-2, q_re M 2, V, fun M => q_rm M 2, x, fun d Q => (e_90 (d := d + 191) hs1).trans (by rw [if_neg cs, if_pos c2]), fun d Q => (r_248 (d := d + 191) (hs2r _ (q_re_ne (by omega)))).trans (by rw [q_re_ne (show (181 : Nat) ≠ 171 by decide), if_neg csV, if_pos c2V]), q_re_ne (by omega), z_JJ_re h (by omega)⟩
  have c2V : ¬ M 181 k.toNat = 0 := by rw [hk2, if_neg c2]; omega
  have e182 : M 182 k.toNat = M 168 k.toNat := by rw [hk3, if_neg c2]
  obtain ⟨m, hm⟩ : ∃ m : Int, (if 16 ≤ M 168 k.toNat then 16 else M 168 k.toNat) = m := ⟨_, rfl⟩
  have hmr : 0 ≤ m ∧ m ≤ 16 := by rw [← hm]; split <;> omega
  have f1 := fun (X : mj_M) => mj_cpy_at (M := X) (a := 164 + k.toNat) (b := 43) (s := 0) (t := 0) (N := m.toNat)
  generalize hM1 : mj_cpy (mj_up M 1 6 m) (164 + k.toNat) 43 0 0 m.toNat = M1
  have g1 : ∀ a, a ≠ 43 → a ≠ 1 → M1 a = M a := fun a h1 h2 => by rw [← hM1, (f1 _).1 a h1, mj_up_ne h2]
  have g2 : ∀ j, M1 1 j = if j = 6 then m else M 1 j := fun j => by rw [← hM1, (f1 _).1 1 (by omega), mj_up_at]
  have g3 : ∀ j, M1 43 j = if j < m.toNat then M (164 + k.toNat) j else M 43 j := fun j => by
    rw [← hM1, (f1 _).2 j, mj_up_ne (by omega), mj_up_ne (by omega)]
    by_cases c : j < m.toNat
    · rw [if_pos (by omega), if_pos c, show 0 + (j - 0) = j by omega]
    · rw [if_neg (by omega), if_neg c]
  have f2 := q_for_row (N := m.toNat) (F := f_ct M1 (160 * k)) (a := 43) (o := 0) (g := fun t _ => M1 183 (160 * k.toNat + t)) (fun t A _ => by unfold f_ct; rw [Nat.zero_add, show (160 * k + (t : Int)).toNat = 160 * k.toNat + t by omega]) (fun _ _ _ _ => rfl) m.toNat 0 V (by omega)
  have hc : ∀ d Q, mj_Rn (d + 200) 90 0 [.inr (.inl 0), .inl k] [] (SGx x) M Q = Q (some (.inl m)) (SGx x) M1 := fun d Q => (e_90 (d := d + 191) hs1).trans (by rw [if_neg cs, if_neg c2, hm, hM1])
  have hmm : ∀ d Q, mj_Rn (d + 200) 248 0 [.inr (.inl 172), .inl k, .inr (.inr 0), .inr (.inr 0)] [] (SGx x) (v_st V M1) Q = Q (some (.inl m)) (SGx x) (v_st (mj_up (q_for (f_ct M1 (160 * k)) m.toNat 0 V) 1 6 m) M1) := by
    intro d Q
    have t1 := r_248 (d := d + 191) (x := x) (Q := Q) (V := V) (k := k) (hs2r M1 (g1 182 (by omega) (by omega)))
    refine t1.trans ?_
    rw [if_neg csV, g1 181 (by omega) (by omega), if_neg c2V, g1 182 (by omega) (by omega), e182]
    by_cases c : M 168 k.toNat < 16
    · have : m = M 168 k.toNat := by rw [← hm, if_neg (by omega)]
      rw [if_pos c, this]
    · have : m = 16 := by rw [← hm, if_pos (by omega)]
      rw [if_neg c, this]
  have v1 : ∀ a, a ≠ 43 → a ≠ 1 → mj_up (q_for (f_ct M1 (160 * k)) m.toNat 0 V) 1 6 m a = V a := fun a h1 h2 => by rw [mj_up_ne h2, f2.1 a h1]
  have v2 : ∀ j, mj_up (q_for (f_ct M1 (160 * k)) m.toNat 0 V) 1 6 m 1 j = if j = 6 then m else V 1 j := fun j => by rw [mj_up_at, f2.1 1 (by omega)]
  have v3 : ∀ j, mj_up (q_for (f_ct M1 (160 * k)) m.toNat 0 V) 1 6 m 43 j = if j < m.toNat then M 183 (160 * k.toNat + j) else V 43 j := fun j => by
    rw [mj_up_ne (by omega), f2.2 j]
    by_cases c : j < m.toNat
    · rw [if_pos (by omega), if_pos c, Nat.sub_zero, g1 183 (by omega) (by omega)]
    · rw [if_neg (by omega), if_neg c]
  generalize mj_up (q_for (f_ct M1 (160 * k)) m.toNat 0 V) 1 6 m = V1 at *
  refine z_op_ch (v := m) (M' := M1) (V' := V1) h (fun M => M) (fun _ _ _ _ => rfl) (fun a q => g1 a (by omega) (by omega)) (by rw [g2, if_neg (by omega)]) ⟨by rw [v2, if_neg (by omega)], v1 217 (by omega) (by omega)⟩ ?_ hc hmm
  have hG := hRl.1.2.2.2.2.2.2.2.2.2.2.2.2.2.1
  have wM1 : q_wr M1 := by
    rw [← hM1]
    apply q_okv_wr
    intro a i
    by_cases c : a = 43
    · subst c; exact q_okv_o (by decide)
    · rw [(f1 _).1 a c]
      have w2 : q_wr (mj_up M 1 6 m) := q_wr_up w (by simp [q_okv]; omega)
      exact q_wr_okv w2 a i
  have wV1 : q_wr V1 := by
    apply q_okv_wr
    intro a i
    by_cases c : a = 43
    · subst c; exact q_okv_o (by decide)
    · by_cases c1 : a = 1
      · subst c1
        rw [v2]
        split
        · rename_i q; subst q; simp [q_okv]; omega
        · exact q_wr_okv hok.1 1 i
      · rw [v1 a c c1]; exact q_wr_okv hok.1 a i
  have hS1 : z_SW 8 M1 V1 := by
    refine z_SW_43 hRl.1 wM1 wV1 (fun a h1 h2 => g1 a h2 h1) (fun a h1 h2 => v1 a h2 h1) (by rw [g2, if_neg (by omega)]) ?_
    obtain ⟨q6, q7, q8, q9, q10, q11, qm⟩ := hG
    refine ⟨by rw [v2, g2, if_pos rfl, if_pos rfl], by rw [v2, g2, if_neg (by omega), if_neg (by omega)]; exact q7, by rw [v2, g2, if_neg (by omega), if_neg (by omega)]; exact q8, rfl, by rw [v2, g2, if_neg (by omega), if_neg (by omega)]; exact q10, by rw [v2, g2, if_neg (by omega), if_neg (by omega)]; exact q11, fun j hj => ?_⟩
    rw [v3, g3]
    by_cases c : j < m.toNat
    · rw [if_pos c, if_pos c]; exact hk4 j (by omega)
    · rw [if_neg c, if_neg c]; exact qm j hj
  refine ⟨⟨hS1, z_F_c hRl.2.1 (g1 130 (by omega) (by omega)) (g1 131 (by omega) (by omega)), z_HT_c hRl.2.2.1 (g1 14 (by omega) (by omega)) (g1 3 (by omega) (by omega)) (g1 4 (by omega) (by omega)), by rw [g1 130 (by omega) (by omega)]; exact hRl.2.2.2⟩, ?_, m_B_m (m_B_c h.1.2.2.1 ⟨v1 17 (by omega) (by omega), v1 201 (by omega) (by omega)⟩) (by omega), q_o_m (q_o_z h.1.2.2.2 (g1 17 (by omega) (by omega))) (by omega)⟩
  rw [g2, if_neg (by omega)]
  exact z_K_c h.1.2.1 (g1 22 (by omega) (by omega)) (g1 24 (by omega) (by omega)) (g1 30 (by omega) (by omega)) (g1 34 (by omega) (by omega))

theorem z_o_in (h : z_JJ n M V) {y k : Int} : z_op n x 91 249 [.inr (.inl 0), .inl y, .inl k, .inr (.inr 0)] [.inr (.inl 172), .inl y, .inl k, .inr (.inr 0), .inr (.inr 0)] M V := by
  have hRl := h.1.1
  have w := hRl.1.1.1
  have hok := hRl.1.2.2.2.2.2.2.1
  have hX := h.2
  obtain ⟨hs1, hs2⟩ := z_hs h
  have hs2r : ∀ N : mj_M, N 182 = M 182 → ∀ i : Nat, i < 4 → 0 ≤ N 182 i ∧ N 182 i ≤ 160 := fun N e => by rw [e]; exact hs2
  have et := z_tht_e hRl (y := y)
  by_cases c1 : q_tht M y = 0
  · have c1V : m_th V y = 0 := et.trans c1
    exact ⟨-3, q_re M 3, V, fun M => q_rm M 3, x, fun d Q => (e_91 (d := d + 191) hs1).trans (by rw [if_pos c1]), fun d Q => (r_249 (d := d + 191) (hs2r _ (q_re_ne (by omega)))).trans (by rw [if_pos c1V]), q_re_ne (by omega), z_JJ_re h (by omega)⟩
  have c1V : ¬ m_th V y = 0 := by rw [et]; exact c1
  have hy : 0 ≤ y ∧ y < 40 ∧ M 14 y.toNat ≠ -1 := by
    unfold q_tht at c1
    split at c1
    · assumption
    · exact absurd rfl c1
  have hH : M 14 y.toNat ≠ -1 ∧ V 210 y.toNat = 1 ∧ V 14 y.toNat = M 14 y.toNat ∧ V 15 y.toNat = M 15 y.toNat ∧ V 16 y.toNat = M 16 y.toNat ∧ V 17 y.toNat = M 17 y.toNat ∧ V 18 y.toNat = M 18 y.toNat ∧ V 19 y.toNat = M 19 y.toNat := by
    rcases hRl.1.2.2.2.2.2.2.2.1 y.toNat (by omega) with q | q
    · exact absurd q.1 hy.2.2
    · exact q
  obtain ⟨-, -, v14, v15, v16, v17, v18, v19⟩ := hH
  have hH2 := hRl.1.2.2.2.2.2.2.2.2.1 y.toNat (by omega) hy.2.2
  by_cases cs : ¬ (0 ≤ k ∧ k < 4)
  · exact ⟨-3, q_re M 3, V, fun M => q_rm M 3, x, fun d Q => (e_91 (d := d + 191) hs1).trans (by rw [if_neg c1, if_pos cs]), fun d Q => (r_249 (d := d + 191) (hs2r _ (q_re_ne (by omega)))).trans (by rw [if_neg c1V, if_pos (by omega)]), q_re_ne (by omega), z_JJ_re h (by omega)⟩
  have csV : ¬ ¬ (0 ≤ k ∧ k ≤ 3) := by omega
  obtain ⟨hk1, hk2, hk3, hk4⟩ := hX.2.2.1 k.toNat (by omega)
  by_cases c2 : M 168 k.toNat = -1
  · have c2V : M 181 k.toNat = 0 := by rw [hk2, if_pos c2]
    exact ⟨-2, q_re M 2, V, fun M => q_rm M 2, x, fun d Q => (e_91 (d := d + 191) hs1).trans (by rw [if_neg c1, if_neg cs, if_pos c2]), fun d Q => (r_249 (d := d + 191) (hs2r _ (q_re_ne (by omega)))).trans (by rw [q_re_ne (show (181 : Nat) ≠ 171 by decide), if_neg c1V, if_neg csV, if_pos c2V]), q_re_ne (by omega), z_JJ_re h (by omega)⟩
  have c2V : ¬ M 181 k.toNat = 0 := by rw [hk2, if_neg c2]; omega
  have e182 : M 182 k.toNat = M 168 k.toNat := by rw [hk3, if_neg c2]
  by_cases c3 : M 14 y.toNat ≠ 4
  · have c3V : V 14 y.toNat ≠ 4 := by rw [v14]; exact c3
    exact ⟨-5, q_re M 5, V, fun M => q_rm M 5, x, fun d Q => (e_91 (d := d + 191) hs1).trans (by rw [if_neg c1, if_neg cs, if_neg c2, if_pos c3]), fun d Q => (r_249 (d := d + 191) (hs2r _ (q_re_ne (by omega)))).trans (by rw [q_re_ne (show (181 : Nat) ≠ 171 by decide), if_neg c1V, if_neg csV, if_neg c2V, if_pos c3V]), q_re_ne (by omega), z_JJ_re h (by omega)⟩
  have c3V : ¬ V 14 y.toNat ≠ 4 := by rw [v14]; exact c3
  have c4 : M 14 y.toNat = 4 := by omega
  obtain ⟨m, hm⟩ : ∃ m : Int, (if 30 ≤ M 168 k.toNat then 30 else M 168 k.toNat) = m := ⟨_, rfl⟩
  have hmr : 0 ≤ m ∧ m ≤ 30 := by rw [← hm]; split <;> omega
  have f1 := fun (X : mj_M) => mj_cpy_at (M := X) (a := 164 + k.toNat) (b := 21) (s := 0) (t := (30 * y).toNat) (N := m.toNat)
  generalize hM1 : mj_cpy (mj_up (mj_up M 18 y.toNat m) 19 y.toNat 0) (164 + k.toNat) 21 0 (30 * y).toNat m.toNat = M1
  have g1 : ∀ a, a ≠ 18 → a ≠ 19 → a ≠ 21 → M1 a = M a := fun a h1 h2 h3 => by rw [← hM1, (f1 _).1 a h3, mj_up_ne h2, mj_up_ne h1]
  have g18 : ∀ j, M1 18 j = if j = y.toNat then m else M 18 j := fun j => by rw [← hM1, (f1 _).1 18 (by omega), mj_up_ne (by omega), mj_up_at]
  have g19 : ∀ j, M1 19 j = if j = y.toNat then 0 else M 19 j := fun j => by rw [← hM1, (f1 _).1 19 (by omega), mj_up_at, mj_up_ne (by omega)]
  have g21 : ∀ j, M1 21 j = if 30 * y.toNat ≤ j ∧ j < 30 * y.toNat + m.toNat then M (164 + k.toNat) (j - 30 * y.toNat) else M 21 j := fun j => by
    rw [← hM1, (f1 _).2 j, mj_up_ne (by omega), mj_up_ne (by omega), mj_up_ne (by omega), mj_up_ne (by omega), show (30 * y).toNat = 30 * y.toNat by omega, Nat.zero_add]
  have f2 := q_for_row (N := m.toNat) (F := f_ci M1 (160 * k) y) (a := 21) (o := 30 * y.toNat) (g := fun t _ => M1 183 (160 * k.toNat + t)) (fun t A _ => by unfold f_ci; rw [show (30 * y + (t : Int)).toNat = 30 * y.toNat + t by omega, show (160 * k + (t : Int)).toNat = 160 * k.toNat + t by omega]) (fun _ _ _ _ => rfl) m.toNat 0 V (by omega)
  have hc : ∀ d Q, mj_Rn (d + 200) 91 0 [.inr (.inl 0), .inl y, .inl k, .inr (.inr 0)] [] (SGx x) M Q = Q (some (.inl m)) (SGx x) M1 := fun d Q => (e_91 (d := d + 191) hs1).trans (by rw [if_neg c1, if_neg cs, if_neg c2, if_neg c3, hm, hM1])
  have hmm : ∀ d Q, mj_Rn (d + 200) 249 0 [.inr (.inl 172), .inl y, .inl k, .inr (.inr 0), .inr (.inr 0)] [] (SGx x) (v_st V M1) Q = Q (some (.inl m)) (SGx x) (v_st (mj_up (mj_up (q_for (f_ci M1 (160 * k) y) m.toNat 0 V) 19 y.toNat 0) 18 y.toNat m) M1) := by
    intro d Q
    have t1 := r_249 (d := d + 191) (x := x) (Q := Q) (V := V) (y := y) (k := k) (hs2r M1 (g1 182 (by omega) (by omega) (by omega)))
    refine t1.trans ?_
    rw [if_neg c1V, if_neg csV, g1 181 (by omega) (by omega) (by omega), if_neg c2V, if_neg c3V, g1 182 (by omega) (by omega) (by omega), e182]
    by_cases c : M 168 k.toNat < 30
    · have : m = M 168 k.toNat := by rw [← hm, if_neg (by omega)]
      rw [if_pos c, this]
    · have : m = 30 := by rw [← hm, if_pos (by omega)]
      rw [if_neg c, this]
  have u1 : ∀ a, a ≠ 18 → a ≠ 19 → a ≠ 21 → mj_up (mj_up (q_for (f_ci M1 (160 * k) y) m.toNat 0 V) 19 y.toNat 0) 18 y.toNat m a = V a := fun a h1 h2 h3 => by rw [mj_up_ne h1, mj_up_ne h2, f2.1 a h3]
  have u18 : ∀ j, mj_up (mj_up (q_for (f_ci M1 (160 * k) y) m.toNat 0 V) 19 y.toNat 0) 18 y.toNat m 18 j = if j = y.toNat then m else V 18 j := fun j => by rw [mj_up_at, mj_up_ne (by omega), f2.1 18 (by omega)]
  have u19 : ∀ j, mj_up (mj_up (q_for (f_ci M1 (160 * k) y) m.toNat 0 V) 19 y.toNat 0) 18 y.toNat m 19 j = if j = y.toNat then 0 else V 19 j := fun j => by rw [mj_up_ne (by omega), mj_up_at, f2.1 19 (by omega)]
  have u21 : ∀ j, mj_up (mj_up (q_for (f_ci M1 (160 * k) y) m.toNat 0 V) 19 y.toNat 0) 18 y.toNat m 21 j = if 30 * y.toNat ≤ j ∧ j < 30 * y.toNat + m.toNat then M 183 (160 * k.toNat + (j - 30 * y.toNat)) else V 21 j := fun j => by
    rw [mj_up_ne (by omega), mj_up_ne (by omega), f2.2 j, Nat.add_zero, g1 183 (by omega) (by omega) (by omega)]
  generalize mj_up (mj_up (q_for (f_ci M1 (160 * k) y) m.toNat 0 V) 19 y.toNat 0) 18 y.toNat m = V1 at *
  refine z_op_ch (v := m) (M' := M1) (V' := V1) h (fun M => M) (fun _ _ _ _ => rfl) (fun a q => g1 a (by omega) (by omega) (by omega)) (by rw [g1 1 (by omega) (by omega) (by omega)]) ⟨by rw [u1 1 (by omega) (by omega) (by omega)], u1 217 (by omega) (by omega) (by omega)⟩ ?_ hc hmm
  have wM1 : q_wr M1 := by
    rw [← hM1]
    apply q_okv_wr
    intro a i
    by_cases c : a = 21
    · subst c; exact q_okv_o (by decide)
    · rw [(f1 _).1 a c]
      have w2 : q_wr (mj_up (mj_up M 18 y.toNat m) 19 y.toNat 0) := q_wr_up (q_wr_up w (by simp [q_okv]; omega)) (by simp [q_okv])
      exact q_wr_okv w2 a i
  have wV1 : q_wr V1 := by
    apply q_okv_wr
    intro a i
    by_cases c : a = 21
    · subst c; exact q_okv_o (by decide)
    · by_cases c1 : a = 18
      · subst c1
        rw [u18]
        split
        · simp [q_okv]; omega
        · exact q_wr_okv hok.1 18 i
      · by_cases c5 : a = 19
        · subst c5
          rw [u19]
          split
          · simp [q_okv]
          · exact q_wr_okv hok.1 19 i
        · rw [u1 a c1 c5 c]; exact q_wr_okv hok.1 a i
  have hS := hRl.1
  have hH3 := hS.2.2.2.2.2.2.2.2.2.1
  have hS1 : z_SW 8 M1 V1 := by
    refine z_SW_tg hS wM1 wV1 (fun a h1 => g1 a (by omega) (by omega) (by omega)) (fun a h1 => u1 a (by omega) (by omega) (by omega)) ?_ ?_ ?_
    · intro j hj
      rw [g1 14 (by omega) (by omega) (by omega), g1 15 (by omega) (by omega) (by omega), g1 16 (by omega) (by omega) (by omega), g1 17 (by omega) (by omega) (by omega), u1 210 (by omega) (by omega) (by omega), u1 14 (by omega) (by omega) (by omega), u1 15 (by omega) (by omega) (by omega), u1 16 (by omega) (by omega) (by omega), u1 17 (by omega) (by omega) (by omega), g18, g19, u18, u19]
      rcases hS.2.2.2.2.2.2.2.1 j hj with q | ⟨q1, q2, q3, q4, q5, q6, q7, q8⟩
      · exact Or.inl q
      · right
        refine ⟨q1, q2, q3, q4, q5, q6, ?_, ?_⟩
        · by_cases c : j = y.toNat
          · rw [if_pos c, if_pos c]
          · rw [if_neg c, if_neg c]; exact q7
        · by_cases c : j = y.toNat
          · rw [if_pos c, if_pos c]
          · rw [if_neg c, if_neg c]; exact q8
    · intro j hj q
      rw [g1 14 (by omega) (by omega) (by omega)] at q
      obtain ⟨q1, q2, q3⟩ := hS.2.2.2.2.2.2.2.2.1 j hj q
      rw [g1 14 (by omega) (by omega) (by omega), g1 15 (by omega) (by omega) (by omega), g1 16 (by omega) (by omega) (by omega), g1 17 (by omega) (by omega) (by omega), g18, g19, g1 3 (by omega) (by omega) (by omega)]
      refine ⟨q1, fun g => ?_, q3⟩
      rw [if_neg (show ¬ j = y.toNat from fun c => g (by rw [c]; exact c4)), if_neg (show ¬ j = y.toNat from fun c => g (by rw [c]; exact c4))]
      exact q2 g
    · intro j hj q
      rw [g1 14 (by omega) (by omega) (by omega)] at q
      obtain ⟨q1, q2⟩ := hH3 j hj q
      rw [g1 17 (by omega) (by omega) (by omega), g1 20 (by omega) (by omega) (by omega), u1 20 (by omega) (by omega) (by omega), g18]
      refine ⟨q1, fun i hi g => ?_⟩
      rw [g21, u21]
      by_cases c : j = y.toNat
      · rw [if_pos c] at g
        rw [if_pos (by omega), if_pos (by omega), c, show 30 * y.toNat + i - 30 * y.toNat = i by omega]
        exact hk4 i (by omega)
      · rw [if_neg c] at g
        rw [if_neg (by omega), if_neg (by omega)]
        exact q2 i hi g
  refine ⟨⟨hS1, z_F_c hRl.2.1 (g1 130 (by omega) (by omega) (by omega)) (g1 131 (by omega) (by omega) (by omega)), z_HT_c hRl.2.2.1 (g1 14 (by omega) (by omega) (by omega)) (g1 3 (by omega) (by omega) (by omega)) (g1 4 (by omega) (by omega) (by omega)), by rw [g1 130 (by omega) (by omega) (by omega)]; exact hRl.2.2.2⟩, ?_, m_B_m (m_B_c h.1.2.2.1 ⟨u1 17 (by omega) (by omega) (by omega), u1 201 (by omega) (by omega) (by omega)⟩) (by omega), q_o_m (q_o_z h.1.2.2.2 (g1 17 (by omega) (by omega) (by omega))) (by omega)⟩
  rw [g1 1 (by omega) (by omega) (by omega)]
  exact z_K_c h.1.2.1 (g1 22 (by omega) (by omega) (by omega)) (g1 24 (by omega) (by omega) (by omega)) (g1 30 (by omega) (by omega) (by omega)) (g1 34 (by omega) (by omega) (by omega))

end op07
