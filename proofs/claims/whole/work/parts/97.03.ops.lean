section op03
variable {A B C M N V W M' V' : mj_M} {x : Nat} {n m : Int}
/-- a row of the runners that tells who keeps -/
theorem z_keepS {r : Nat} {g : Int} (hS : z_SW 8 A V) (hr : (r : Int) < A 22 13) (hg : -1 ≤ g ∧ g < 40) (hg2 : g = -1 ∨ A 14 g.toNat = 2 ∨ A 14 g.toNat = 3) : z_SW 8 (mj_up A 27 r g) (mj_up V 27 r g) := by
  obtain ⟨hR, hR2, hQ, hO, w⟩ := hS.2.2.2.2.2.2.2.2.2.2.1
  have hQH := hS.2.2.2.2.2.2.2.2.2.2.2.1
  have hG := hS.2.2.2.2.2.2.2.2.2.2.2.2.2.1
  have oA : ∀ o, o ≠ 27 → mj_up A 27 r g o = A o := fun o h => mj_up_ne h
  have oV : ∀ o, o ≠ 27 → mj_up V 27 r g o = V o := fun o h => mj_up_ne h
  have wA : q_wr (mj_up A 27 r g) := q_wr_up w (by simp [q_okv]; omega)
  have wV : q_wr (mj_up V 27 r g) := q_wr_up hS.2.2.2.2.2.2.1.1 (by simp [q_okv]; omega)
  have RR : z_RR 8 (mj_up A 27 r g) (mj_up V 27 r g) := by
    refine ⟨⟨by rw [oA 22 (by omega), oV 22 (by omega)]; exact hR.1, ?_⟩, ?_, ?_, ?_, wA⟩
    · intro k hk
      obtain ⟨r1, r2, r3, r4, r5, r6, r7, r8⟩ := hR.2 k hk
      rw [oA 23 (by omega), oV 23 (by omega), oA 24 (by omega), oV 24 (by omega), oA 25 (by omega), oV 25 (by omega), oA 26 (by omega), oV 26 (by omega), oA 28 (by omega), oV 28 (by omega), oA 29 (by omega), oV 29 (by omega), oA 30 (by omega), oV 30 (by omega), oA 31 (by omega), oV 31 (by omega)]
      exact ⟨r1, r2, r3, by rw [mj_up_at, mj_up_at, r4], r5, r6, r7, r8⟩
    · unfold z_R2 at hR2 ⊢
      rw [oA 24 (by omega), oA 31 (by omega), oA 32 (by omega), oV 32 (by omega), oA 33 (by omega), oV 33 (by omega), oA 35 (by omega), oV 35 (by omega)]
      exact hR2
    · unfold z_Q at hQ ⊢
      rw [oA 22 (by omega), oA 24 (by omega), oA 28 (by omega), oA 29 (by omega), oA 30 (by omega), oA 34 (by omega)]
      exact hQ
    · unfold z_O at hO ⊢
      rw [oA 22 (by omega), oA 24 (by omega), oA 34 (by omega), oV 34 (by omega), oV 201 (by omega)]
      exact hO
  have QH : z_QH (mj_up A 27 r g) := by
    intro k hk
    rw [oA 22 (by omega)] at hk
    obtain ⟨q1, q2, q3⟩ := hQH k hk
    rw [oA 24 (by omega), oA 14 (by omega), oA 23 (by omega), oA 28 (by omega)]
    refine ⟨q1, q2, ?_⟩
    rw [mj_up_at]
    split
    · intro q; omega
    · exact q3
  refine z_SW_rn hS wA wV (fun a h1 h2 => oA a (by omega)) (fun a h1 h2 _ => oV a (by omega)) (fun j _ _ => by rw [oA 1 (by omega), oV 1 (by omega)]; exact ⟨rfl, rfl⟩) ?_ (by rw [oV 201 (by omega)]) RR QH
  rw [oA 1 (by omega), oV 1 (by omega)]
  exact ⟨hG.2.2.2.2.1, hG.2.2.2.2.2.1⟩
theorem z_I_K (h : z_I n M V) (hR : z_Rl 8 M' V') (h17 : M' 1 7 = M 1 7) (hK : q_cK M M') (hB : m_cB V V') (hO : q_ck M M') (l : n ≤ m) : z_I m M' V' :=
  ⟨hR, by rw [h17]; exact hK.1 _ h.2.1, m_B_m (m_B_c h.2.2.1 hB) l, q_o_m (q_o_z h.2.2.2 hO) l⟩
theorem z_co (h : z_Rl 8 M V) {o : Int} : ∀ (k : Nat) (u : Int), u = -1 ∨ (0 ≤ u ∧ u < 120 ∧ M 3 u.toNat ≠ -1) → q_co V o k u = q_co M o k u := by
  intro k
  induction k with
  | zero => intro u _; rfl
  | succ k ih =>
    intro u hu
    rw [q_co, q_co]
    by_cases c : u = -1
    · rw [if_pos c, if_pos c]
    · have hu : 0 ≤ u ∧ u < 120 ∧ M 3 u.toNat ≠ -1 := by
        rcases hu with q | q
        · exact absurd q c
        · exact q
      rw [if_neg c, if_neg c]
      have h7 := q_w7 (i := u.toNat) h.1.1.1 (by omega)
      have e7 : V 7 u.toNat = M 7 u.toNat := by
        rcases h.1.2.1 u.toNat (by omega) with q | q
        · exact absurd q.1 hu.2.2
        · exact q.2.2.2.2.2.2.1
      rw [e7, ih (M 7 u.toNat) ?_]
      by_cases c2 : M 7 u.toNat = -1
      · exact Or.inl c2
      · exact Or.inr ⟨by omega, by omega, h.1.1.2.1 u.toNat (by omega) hu.2.2 c2⟩
theorem z_co7 (h : z_Rl 8 M V) {o : Int} {t : Nat} (ht : t < 120) (h3 : M 3 t ≠ -1) : q_co V o 120 (V 7 t) = q_co M o 120 (M 7 t) := by
  have h7 := q_w7 (i := t) h.1.1.1 ht
  have e7 : V 7 t = M 7 t := by
    rcases h.1.2.1 t ht with q | q
    · exact absurd q.1 h3
    · exact q.2.2.2.2.2.2.1
  rw [e7]
  refine z_co h 120 _ ?_
  by_cases c2 : M 7 t = -1
  · exact Or.inl c2
  · exact Or.inr ⟨by omega, by omega, h.1.1.2.1 t ht h3 c2⟩

theorem z_o_below (h : z_JJ n M V) {t : Int} : z_op n x 73 237 [.inr (.inl 0), .inl t] [.inr (.inl 172), .inl t, .inr (.inr 0), .inr (.inr 0)] M V := by
  have hRl := h.1.1
  have w := hRl.1.1.1
  have hok := hRl.1.2.2.2.2.2.2.1
  have et := z_tkt_e hRl (t := t)
  by_cases c1 : q_tkt M t = 0
  · have c1V : m_tk V t = 0 := et.trans c1
    exact z_op_re (k := 3) (v := -3) h (by omega) (fun d Q => (e_73 (d := d + 191) w).trans (by rw [if_pos c1])) (fun M d Q => (r_237 (d := d + 191) hok).trans (by rw [if_pos c1V]))
  have c1V : ¬ m_tk V t = 0 := by rw [et]; exact c1
  have ht : 0 ≤ t ∧ t < 120 ∧ M 3 t.toNat ≠ -1 := by
    unfold q_tkt at c1
    split at c1
    · assumption
    · exact absurd rfl c1
  have hT : V 3 t.toNat = M 3 t.toNat ∧ V 4 t.toNat = M 4 t.toNat ∧ V 5 t.toNat = M 5 t.toNat ∧ V 6 t.toNat = M 6 t.toNat ∧ V 7 t.toNat = M 7 t.toNat ∧ V 8 t.toNat = M 8 t.toNat ∧ V 9 t.toNat = M 9 t.toNat ∧ V 10 t.toNat = M 10 t.toNat ∧ V 11 t.toNat = M 11 t.toNat ∧ V 12 t.toNat = M 12 t.toNat := by
    rcases hRl.1.2.1 t.toNat (by omega) with q | q
    · exact absurd q.1 ht.2.2
    · exact q.2.2
  obtain ⟨v3, v4, v5, v6, v7, v8, v9, v10, v11, v12⟩ := hT
  have ev : q_sum (fun k => if V 212 k = 1 ∧ q_co V t 120 (V 7 k) = 1 then 1 else 0) 120 0 = q_sum (fun k => if M 3 k ≠ -1 ∧ q_co M t 120 (M 7 k) = 1 then 1 else 0) 120 0 := by
    refine q_sum_ext 120 0 (fun k _ hk => ?_)
    show (if V 212 k = 1 ∧ q_co V t 120 (V 7 k) = 1 then (1 : Int) else 0) = (if M 3 k ≠ -1 ∧ q_co M t 120 (M 7 k) = 1 then 1 else 0)
    by_cases c : M 3 k = -1
    · rcases hRl.1.2.1 k (by omega) with q | q
      · rw [if_neg (fun g => by omega), if_neg (fun g => g.1 c)]
      · exact absurd c q.1
    · rcases hRl.1.2.1 k (by omega) with q | q
      · exact absurd q.1 c
      · rw [z_co7 hRl (by omega) c]
        by_cases c2 : q_co M t 120 (M 7 k) = 1
        · rw [if_pos ⟨q.2.1, c2⟩, if_pos ⟨c, c2⟩]
        · rw [if_neg (fun g => c2 g.2), if_neg (fun g => c2 g.2)]
  exact z_op_id (v := q_sum (fun k => if M 3 k ≠ -1 ∧ q_co M t 120 (M 7 k) = 1 then 1 else 0) 120 0) h (fun d Q => (e_73 (d := d + 191) w).trans (by rw [if_neg c1])) (fun M d Q => (r_237 (d := d + 191) hok).trans (by rw [if_neg c1V, ev]))

theorem z_o_isBelow (h : z_JJ n M V) {t o : Int} : z_op n x 75 239 [.inr (.inl 0), .inl t, .inl o] [.inr (.inl 172), .inl t, .inl o] M V := by
  have hRl := h.1.1
  have w := hRl.1.1.1
  have hok := hRl.1.2.2.2.2.2.2.1
  have et := z_tkt_e hRl (t := t)
  by_cases c1 : q_tkt M t = 0
  · have c1V : m_tk V t = 0 := et.trans c1
    exact z_op_re (k := 3) (v := -3) h (by omega) (fun d Q => (e_75 (d := d + 191) w).trans (by rw [if_pos c1])) (fun M d Q => (r_239 (d := d + 191) hok).trans (by rw [if_pos c1V]))
  have c1V : ¬ m_tk V t = 0 := by rw [et]; exact c1
  have ht : 0 ≤ t ∧ t < 120 ∧ M 3 t.toNat ≠ -1 := by
    unfold q_tkt at c1
    split at c1
    · assumption
    · exact absurd rfl c1
  have hT : V 3 t.toNat = M 3 t.toNat ∧ V 4 t.toNat = M 4 t.toNat ∧ V 5 t.toNat = M 5 t.toNat ∧ V 6 t.toNat = M 6 t.toNat ∧ V 7 t.toNat = M 7 t.toNat ∧ V 8 t.toNat = M 8 t.toNat ∧ V 9 t.toNat = M 9 t.toNat ∧ V 10 t.toNat = M 10 t.toNat ∧ V 11 t.toNat = M 11 t.toNat ∧ V 12 t.toNat = M 12 t.toNat := by
    rcases hRl.1.2.1 t.toNat (by omega) with q | q
    · exact absurd q.1 ht.2.2
    · exact q.2.2
  obtain ⟨v3, v4, v5, v6, v7, v8, v9, v10, v11, v12⟩ := hT
  have et2 := z_tkt_e hRl (t := o)
  by_cases c2 : q_tkt M o = 0
  · have c2V : m_tk V o = 0 := et2.trans c2
    exact z_op_re (k := 3) (v := -3) h (by omega) (fun d Q => (e_75 (d := d + 191) w).trans (by rw [if_neg c1, if_pos c2])) (fun M d Q => (r_239 (d := d + 191) hok).trans (by rw [if_neg c1V, if_pos c2V]))
  have c2V : ¬ m_tk V o = 0 := by rw [et2]; exact c2
  have ev := z_co7 hRl (o := o) (t := t.toNat) (by omega) ht.2.2
  by_cases c3 : q_co M o 120 (M 7 t.toNat) = 0
  · have c3V := ev.trans c3
    exact z_op_id (v := 0) h (fun d Q => (e_75 (d := d + 191) w).trans (by rw [if_neg c1, if_neg c2, if_pos c3])) (fun M d Q => (r_239 (d := d + 191) hok).trans (by rw [if_neg c1V, if_neg c2V, if_pos c3V]))
  · have c3V : ¬ q_co V o 120 (V 7 t.toNat) = 0 := by rw [ev]; exact c3
    exact z_op_id (v := 1) h (fun d Q => (e_75 (d := d + 191) w).trans (by rw [if_neg c1, if_neg c2, if_neg c3])) (fun M d Q => (r_239 (d := d + 191) hok).trans (by rw [if_neg c1V, if_neg c2V, if_neg c3V]))

theorem z_o_tell (h : z_JJ n M V) {r v : Int} : z_op n x 86 245 [.inr (.inl 0), .inl r, .inl v] [.inr (.inl 172), .inl r, .inl v] M V := by
  have hRl := h.1.1
  have w := hRl.1.1.1
  have hok := hRl.1.2.2.2.2.2.2.1
  have et := z_rt_e hRl (r := r)
  by_cases c1 : q_rt M r = 0
  · have c1V : m_rt V r = 0 := et.trans c1
    exact z_op_re (k := 3) (v := -3) h (by omega) (fun d Q => (e_86 (d := d + 191) w).trans (by rw [if_pos c1])) (fun M d Q => (r_245 (d := d + 191) hok.1).trans (by rw [if_pos c1V]))
  have c1V : ¬ m_rt V r = 0 := by rw [et]; exact c1
  have hr : 0 ≤ r ∧ r < M 22 13 := by
    unfold q_rt at c1
    split at c1
    · assumption
    · exact absurd rfl c1
  have hsz := q_w22_13 w
  have hRR := hRl.1.2.2.2.2.2.2.2.2.2.2.1
  obtain ⟨v23, v24, v2526, v27, v28, v29, v30, v31⟩ := hRR.1.2 r.toNat (by omega)
  obtain ⟨v25, v26⟩ := v2526 (by omega)
  by_cases c2 : M 24 r.toNat ≠ 0
  · have c2V : V 24 r.toNat ≠ 0 := by rw [v24]; exact c2
    exact z_op_re (k := 7) (v := -7) h (by omega) (fun d Q => (e_86 (d := d + 191) w).trans (by rw [if_neg c1, if_pos c2])) (fun M d Q => (r_245 (d := d + 191) hok.1).trans (by rw [if_neg c1V, if_pos c2V]))
  have c2V : ¬ V 24 r.toNat ≠ 0 := by rw [v24]; exact c2
  have n26 : ∀ (X : mj_M) a, a ≠ 26 → mj_up X 26 r.toNat v a = X a := fun X a q => mj_up_ne q
  refine z_op_ch (v := 1) (M' := mj_up M 26 r.toNat v) (V' := mj_up V 26 r.toNat v) h (fun M => M) (fun _ _ _ _ => rfl) (fun a q => n26 M a (by omega)) (by rw [n26 M 1 (by omega)]) (m_cR_up m_cR_r (by omega)) ?_ (fun d Q => (e_86 (d := d + 191) w).trans (by rw [if_neg c1, if_neg c2])) (fun d Q => (r_245 (d := d + 191) hok.1).trans (by rw [if_neg c1V, if_neg c2V]))
  refine z_I_K h.1 ⟨?_, z_F_c hRl.2.1 (n26 M 130 (by omega)) (n26 M 131 (by omega)), z_HT_c hRl.2.2.1 (n26 M 14 (by omega)) (n26 M 3 (by omega)) (n26 M 4 (by omega)), by rw [n26 M 130 (by omega)]; exact hRl.2.2.2⟩ (by rw [n26 M 1 (by omega)]) (q_cK_up q_cK_r (by omega)) (m_cB_up m_cB_r (by omega)) (q_ck_up q_ck_r (by omega)) (by omega)
  refine z_SW_pa hRl.1 (q_wr_up w (q_okv_o (by decide))) (q_wr_up hok.1 (q_okv_o (by decide))) (fun o _ h2 => n26 M o h2) (fun o _ h2 => n26 V o h2) ?_
  intro k hk _
  obtain ⟨-, -, g, -⟩ := hRR.1.2 k hk
  obtain ⟨g1, g2⟩ := g (by omega)
  rw [n26 V 25 (by omega), n26 M 25 (by omega), mj_up_at, mj_up_at, g2]
  exact ⟨g1, rfl⟩

theorem z_o_resume (h : z_JJ n M V) {r k : Int} : z_op n x 87 246 [.inr (.inl 0), .inl r, .inl k] [.inr (.inl 172), .inl r, .inl k] M V := by
  have hRl := h.1.1
  have w := hRl.1.1.1
  have hok := hRl.1.2.2.2.2.2.2.1
  have et := z_rt_e hRl (r := r)
  by_cases c1 : q_rt M r = 0
  · have c1V : m_rt V r = 0 := et.trans c1
    exact z_op_re (k := 3) (v := -3) h (by omega) (fun d Q => (e_87 (d := d + 191) w).trans (by rw [if_pos c1])) (fun M d Q => (r_246 (d := d + 191) hok.1).trans (by rw [if_pos c1V]))
  have c1V : ¬ m_rt V r = 0 := by rw [et]; exact c1
  have hr : 0 ≤ r ∧ r < M 22 13 := by
    unfold q_rt at c1
    split at c1
    · assumption
    · exact absurd rfl c1
  have hsz := q_w22_13 w
  have hRR := hRl.1.2.2.2.2.2.2.2.2.2.2.1
  obtain ⟨v23, v24, v2526, v27, v28, v29, v30, v31⟩ := hRR.1.2 r.toNat (by omega)
  obtain ⟨v25, v26⟩ := v2526 (by omega)
  by_cases c2 : k < 0
  · exact z_op_re (k := 7) (v := -7) h (by omega) (fun d Q => (e_87 (d := d + 191) w).trans (by rw [if_neg c1, if_pos c2])) (fun M d Q => (r_246 (d := d + 191) hok.1).trans (by rw [if_neg c1V, if_pos (by omega)]))
  by_cases c3 : 40 < k
  · exact z_op_re (k := 7) (v := -7) h (by omega) (fun d Q => (e_87 (d := d + 191) w).trans (by rw [if_neg c1, if_neg c2, if_pos c3])) (fun M d Q => (r_246 (d := d + 191) hok.1).trans (by rw [if_neg c1V, if_pos (by omega)]))
  have c3V : ¬ ¬ (0 ≤ k ∧ k ≤ 40) := by omega
  by_cases c4 : M 24 r.toNat ≠ 3
  · have c4V : V 24 r.toNat ≠ 3 := by rw [v24]; exact c4
    exact z_op_re (k := 7) (v := -7) h (by omega) (fun d Q => (e_87 (d := d + 191) w).trans (by rw [if_neg c1, if_neg c2, if_neg c3, if_pos c4])) (fun M d Q => (r_246 (d := d + 191) hok.1).trans (by rw [if_neg c1V, if_neg c3V, if_pos c4V]))
  have c4V : ¬ V 24 r.toNat ≠ 3 := by rw [v24]; exact c4
  have nn : ∀ (X : mj_M) a, a ≠ 24 → a ≠ 25 → mj_up (mj_up X 24 r.toNat 0) 25 r.toNat k a = X a := fun X a q1 q2 => by rw [mj_up_ne q2, mj_up_ne q1]
  refine z_op_ch (v := 1) (M' := mj_up (mj_up M 24 r.toNat 0) 25 r.toNat k) (V' := mj_up (mj_up V 24 r.toNat 0) 25 r.toNat k) h (fun M => M) (fun _ _ _ _ => rfl) (fun a q => nn M a (by omega) (by omega)) (by rw [nn M 1 (by omega) (by omega)]) (m_cR_up (m_cR_up m_cR_r (by omega)) (by omega)) ?_ (fun d Q => (e_87 (d := d + 191) w).trans (by rw [if_neg c1, if_neg c2, if_neg c3, if_neg c4])) (fun d Q => (r_246 (d := d + 191) hok.1).trans (by rw [if_neg c1V, if_neg c3V, if_neg c4V]))
  refine z_I_K h.1 ⟨?_, z_F_c hRl.2.1 (nn M 130 (by omega) (by omega)) (nn M 131 (by omega) (by omega)), z_HT_c hRl.2.2.1 (nn M 14 (by omega) (by omega)) (nn M 3 (by omega) (by omega)) (nn M 4 (by omega) (by omega)), by rw [nn M 130 (by omega) (by omega)]; exact hRl.2.2.2⟩ (by rw [nn M 1 (by omega) (by omega)]) (q_cK_up (q_cK_up q_cK_r (by omega)) (by omega)) (m_cB_up (m_cB_up m_cB_r (by omega)) (by omega)) (q_ck_up (q_ck_up q_ck_r (by omega)) (by omega)) (by omega)
  obtain ⟨r, rfl⟩ : ∃ u : Nat, r = (u : Int) := ⟨r.toNat, by omega⟩
  simp only [Int.toNat_natCast] at *
  have hQ := hRR.2.2.1 r hr.2
  have h28 : M 28 r = -1 := by
    by_cases q : M 28 r = -1
    · exact q
    · have := hQ.2.1.mp q; omega
  have h29 : M 29 r = -1 := by
    by_cases q : M 29 r = -1
    · exact q
    · have := (hQ.2.2.1 q).1; omega
  obtain ⟨d0, d1, d2, d3, d4, d5⟩ := z_wk (A := M) (u := (r : Int)) (a := M 26 r)
  obtain ⟨f0, f1, f2, f3, f4, f5⟩ := z_wk (A := V) (u := (r : Int)) (a := M 26 r)
  simp only [Int.toNat_natCast] at d1 d2 d3 d4 d5 f1 f2 f3 f4 f5
  have wA : q_wr (q_wake M r (M 26 r)) := q_wake_w w
  have wV : q_wr (q_wake V r (M 26 r)) := q_wake_w hok.1
  have RR := z_wake_rel hRR hr.2 h29 ⟨d0, d1, d2, d3, d4, d5⟩ ⟨f0, f1, f2, f3, f4, f5⟩ wA
  have QH : z_QH (q_wake M r (M 26 r)) := by
    refine z_QH_s hRl.1.2.2.2.2.2.2.2.2.2.2.2.1 (fun a ha => d0 a (by omega)) ?_ ?_
    · intro j hj
      rw [d1]
      by_cases c : j = r
      · intro _; rw [c]; omega
      · rw [if_neg c]; exact id
    · intro j hj
      rw [d4]
      by_cases c : j = r
      · rw [if_pos c]; exact fun q => absurd rfl q
      · rw [if_neg c]; exact fun _ => Or.inl rfl
  have hG := hRl.1.2.2.2.2.2.2.2.2.2.2.2.2.2.1
  have S1 : z_SW 8 (q_wake M r (M 26 r)) (q_wake V r (M 26 r)) := by
    refine z_SW_rn hRl.1 wA wV (fun a h1 h2 => d0 a (by omega)) (fun a h1 h2 _ => f0 a (by omega)) (fun j _ _ => by rw [d0 1 (by omega), f0 1 (by omega)]; exact ⟨rfl, rfl⟩) ?_ (by rw [f0 201 (by omega)]) RR QH
    rw [d0 1 (by omega), f0 1 (by omega)]
    exact ⟨hG.2.2.2.2.1, hG.2.2.2.2.2.1⟩
  have same : ∀ X : mj_M, X 28 r = -1 → X 29 r = -1 → (∀ o, o < 24 ∨ o = 27 ∨ 29 < o → q_wake X r (M 26 r) o = X o) → (∀ k, q_wake X r (M 26 r) 24 k = if k = r then 0 else X 24 k) → (∀ k, q_wake X r (M 26 r) 28 k = if k = r then -1 else X 28 k) → (∀ k, q_wake X r (M 26 r) 29 k = if k = r then -1 else X 29 k) →
      ∀ o, o ≠ 25 → o ≠ 26 → mj_up (mj_up X 24 r 0) 25 r k o = q_wake X r (M 26 r) o := by
    intro X x8 x9 g0 g1 g4 g5 o o1 o2
    funext j
    rw [mj_up_ne o1]
    by_cases q : o = 24
    · subst q; rw [mj_up_at, g1]
    · rw [mj_up_ne q]
      by_cases q2 : o = 28
      · subst q2; rw [g4]; split
        · rename_i e; rw [e]; exact x8
        · rfl
      · by_cases q3 : o = 29
        · subst q3; rw [g5]; split
          · rename_i e; rw [e]; exact x9
          · rfl
        · rw [g0 o (by omega)]
  refine z_SW_pa S1 (q_wr_up (q_wr_up w (q_okv_o (by decide))) (q_okv_o (by decide))) (q_wr_up (q_wr_up hok.1 (q_okv_o (by decide))) (q_okv_o (by decide))) (same M h28 h29 d0 d1 d4 d5) (same V (by rw [v28]; exact h28) (by rw [v29]; exact h29) f0 f1 f4 f5) ?_
  intro j hj _
  obtain ⟨-, -, g, -⟩ := hRR.1.2 j hj
  obtain ⟨g1, g2⟩ := g (by omega)
  rw [mj_up_at, mj_up_at, mj_up_ne (show (25 : Nat) ≠ 24 by decide), mj_up_ne (show (25 : Nat) ≠ 24 by decide), g1, nn V 26 (by omega) (by omega), nn M 26 (by omega) (by omega)]
  exact ⟨rfl, g2⟩

theorem z_o_keeper (h : z_JJ n M V) {r s : Int} : z_op n x 79 242 [.inr (.inl 0), .inl r, .inl s] [.inr (.inl 172), .inl r, .inl s, .inr (.inr 0), .inr (.inr 0)] M V := by
  have hRl := h.1.1
  have w := hRl.1.1.1
  have hok := hRl.1.2.2.2.2.2.2.1
  have et := z_rt_e hRl (r := r)
  by_cases c1 : q_rt M r = 0
  · have c1V : m_rt V r = 0 := et.trans c1
    exact z_op_re (k := 3) (v := -3) h (by omega) (fun d Q => (e_79 (d := d + 191) w).trans (by rw [if_pos c1])) (fun M d Q => (r_242 (d := d + 70) hok).trans (by rw [if_pos c1V]))
  have c1V : ¬ m_rt V r = 0 := by rw [et]; exact c1
  have hr : 0 ≤ r ∧ r < M 22 13 := by
    unfold q_rt at c1
    split at c1
    · assumption
    · exact absurd rfl c1
  have hsz := q_w22_13 w
  have hRR := hRl.1.2.2.2.2.2.2.2.2.2.2.1
  obtain ⟨v23, v24, v2526, v27, v28, v29, v30, v31⟩ := hRR.1.2 r.toNat (by omega)
  obtain ⟨v25, v26⟩ := v2526 (by omega)
  have n27 : ∀ (X : mj_M) (g : Int) a, a ≠ 27 → mj_up X 27 r.toNat g a = X a := fun X g a q => mj_up_ne q
  have hF2 : ∀ g : Int, z_F (mj_up M 27 r.toNat g) := fun g => z_F_c hRl.2.1 (n27 M g 130 (by omega)) (n27 M g 131 (by omega))
  have hH2 : ∀ g : Int, z_HT (mj_up M 27 r.toNat g) 40 := fun g => z_HT_c hRl.2.2.1 (n27 M g 14 (by omega)) (n27 M g 3 (by omega)) (n27 M g 4 (by omega))
  by_cases c2 : s = -1
  · refine z_op_ch (v := 1) (M' := mj_up M 27 r.toNat (-1)) (V' := mj_up V 27 r.toNat (-1)) h (fun M => M) (fun _ _ _ _ => rfl) (fun a q => n27 M _ a (by omega)) (by rw [n27 M _ 1 (by omega)]) (m_cR_up m_cR_r (by omega)) ?_ (fun d Q => (e_79 (d := d + 191) w).trans (by rw [if_neg c1, if_pos c2])) (fun d Q => (r_242 (d := d + 70) hok).trans (by rw [if_neg c1V, if_pos c2]))
    exact z_I_K h.1 ⟨z_keepS hRl.1 (by omega) (by omega) (Or.inl rfl), hF2 _, hH2 _, by rw [n27 M _ 130 (by omega)]; exact hRl.2.2.2⟩ (by rw [n27 M _ 1 (by omega)]) (q_cK_up q_cK_r (by omega)) (m_cB_up m_cB_r (by omega)) (q_ck_up q_ck_r (by omega)) (by omega)
  by_cases c3 : M 24 r.toNat = 4
  · have c3V : V 24 r.toNat = 4 := v24.trans c3
    exact z_op_re (k := 7) (v := -7) h (by omega) (fun d Q => (e_79 (d := d + 191) w).trans (by rw [if_neg c1, if_neg c2, if_pos c3])) (fun M d Q => (r_242 (d := d + 70) hok).trans (by rw [if_neg c1V, if_neg c2, if_pos c3V]))
  have c3V : ¬ V 24 r.toNat = 4 := by rw [v24]; exact c3
  have hy := q_w23 (i := r.toNat) w (by omega)
  have hy14 := (hRl.1.2.2.2.2.2.2.2.2.2.2.2.1 r.toNat (by omega)).1 c3
  have hfg := z_fg hRl.1 (s := s) (r := 1) hy hy14
  by_cases c4 : q_kp M r s = 0
  · have c4V : m_fg V (V 23 r.toNat) s 1 = -1 := by
      rw [v23, hfg]
      unfold q_kp at c4
      rw [if_neg (by omega)]
    exact z_op_re (k := 7) (v := -7) h (by omega) (fun d Q => (e_79 (d := d + 191) w).trans (by rw [if_neg c1, if_neg c2, if_neg c3, if_pos c4])) (fun M d Q => (r_242 (d := d + 70) hok).trans (by rw [if_neg c1V, if_neg c2, if_neg c3V, if_pos c4V]))
  have g1 : q_kp M r s = 1 := by have := q_kp_01 (M := M) (r := r) (s := s); omega
  have g2 : q_og M (q_ta M (M 23 r.toNat) s) 1 = 1 := g1
  have gog := q_og_1.mp g2
  have nT := q_fits_ne gog.1
  have tha := z_ta_th w hRl.1.2.2.1 (b := M 23 r.toNat) (s := s)
  have eT : m_fg V (V 23 r.toNat) s 1 = q_ta M (M 23 r.toNat) s := by rw [v23, hfg, if_pos g2]
  have c4V : ¬ m_fg V (V 23 r.toNat) s 1 = -1 := by rw [eT]; exact nT
  have hT : 0 ≤ q_ta M (M 23 r.toNat) s ∧ q_ta M (M 23 r.toNat) s < 120 ∧ M 3 (q_ta M (M 23 r.toNat) s).toNat ≠ -1 := by
    rcases tha with q | q
    · exact absurd q nT
    · exact q
  have t4 : V 4 (q_ta M (M 23 r.toNat) s).toNat = M 4 (q_ta M (M 23 r.toNat) s).toNat := (z_thf hRl.1 hT (by omega)).1
  have eM : q_kpM M r s = q_use (mj_up M 27 r.toNat (M 4 (q_ta M (M 23 r.toNat) s).toNat)) (q_ta M (M 23 r.toNat) s) := by unfold q_kpM; rw [if_pos g1]
  have eV : m_use (mj_up V 27 r.toNat (V 4 (m_fg V (V 23 r.toNat) s 1).toNat)) (m_fg V (V 23 r.toNat) s 1) = m_use (mj_up V 27 r.toNat (M 4 (q_ta M (M 23 r.toNat) s).toNat)) (q_ta M (M 23 r.toNat) s) := by rw [eT, t4]
  obtain ⟨o1, o2⟩ := q_ch_out (q_ch_t (q_kpM_c (M := M) (r := r) (s := s)) q_sweep_c)
  refine z_op_ch (v := 1) (M' := q_sweep (q_kpM M r s)) (V' := m_use (mj_up V 27 r.toNat (M 4 (q_ta M (M 23 r.toNat) s).toNat)) (q_ta M (M 23 r.toNat) s)) h (fun M => M) (fun _ _ _ _ => rfl) (fun a q => o1 a (by omega)) o2 (m_cR_t (m_cR_up m_cR_r (by omega)) m_use_R) ?_ (fun d Q => (e_79 (d := d + 191) w).trans (by rw [if_neg c1, if_neg c2, if_neg c3, if_neg c4])) (fun d Q => (r_242 (d := d + 70) hok).trans (by rw [if_neg c1V, if_neg c2, if_neg c3V, if_neg c4V, eV]))
  have hch := q_ch_t (q_kpM_c (M := M) (r := r) (s := s)) q_sweep_c
  rw [eM] at hch ⊢
  refine z_I_K h.1 ?_ (q_ch_1 hch (by omega)) (q_cK_t (q_cK_t (q_cK_up q_cK_r (by omega)) q_use_K) q_sweep_K) (m_cB_t (m_cB_up m_cB_r (by omega)) m_use_B) (q_ck_t (q_ck_t (q_ck_up q_ck_r (by omega)) q_use_z) q_sweep_z) (by omega)
  generalize q_ta M (M 23 r.toNat) s = T at *
  exact z_use8 (z_keepS hRl.1 (by omega) ⟨by omega, by omega⟩ (Or.inr gog.2.2.2)) (hF2 _) (hH2 _) (by rw [n27 M _ 130 (by omega)]; exact hRl.2.2.2) ⟨hT.1, hT.2.1⟩ (by rw [n27 M _ 3 (by omega)]; exact hT.2.2)

theorem z_o_rule (h : z_JJ n M V) {k : Int} : z_op n x 88 247 [.inr (.inl 0), .inl k, .inr (.inr 0)] [.inr (.inl 172), .inl k, .inr (.inr 0)] M V := by
  have hRl := h.1.1
  have w := hRl.1.1.1
  have hok := hRl.1.2.2.2.2.2.2.1
  by_cases c1 : ¬ (k = 0 ∨ k = 1)
  · exact z_op_re (k := 7) (v := -7) h (by omega) (fun d Q => (e_88 (d := d + 191)).trans (by rw [if_pos c1])) (fun M d Q => (r_247 (d := d + 191)).trans (by rw [if_pos (by omega)]))
  have c1V : ¬ ¬ (0 ≤ k ∧ k ≤ 1) := by omega
  have hx := h.2.1
  have n9 : ∀ (X : mj_M) a, a ≠ 1 → mj_up X 1 9 k a = X a := fun X a q => mj_up_ne q
  have e9 : mj_up M 1 9 k 1 9 = k := by rw [mj_up_at, if_pos rfl]
  have hR := z_Rl_1u (i := 9) (v := k) hRl (by omega) (by simp [q_okv])
  have hI : z_I (n + 1000) (mj_up M 1 9 k) (mj_up V 1 9 k) := by
    refine ⟨hR, ?_, m_B_m (m_B_c h.1.2.2.1 (m_cB_up m_cB_r (by omega))) (by omega), q_o_m (q_o_z h.1.2.2.2 (q_ck_up q_ck_r (by omega))) (by omega)⟩
    rw [mj_up_at, if_neg (by omega)]
    exact z_K_c h.1.2.1 (n9 _ _ (by omega)) (n9 _ _ (by omega)) (n9 _ _ (by omega)) (n9 _ _ (by omega))
  refine ⟨M 1 9, mj_up M 1 9 k, mj_up V 1 9 k, fun M => M, x, fun d Q => (e_88 (d := d + 191)).trans (by rw [if_neg c1]), fun d Q => (r_247 (d := d + 191)).trans (by rw [if_neg c1V, hx.1]), n9 _ _ (by omega), hI, ?_⟩
  have hX := h.2
  show z_X (n + 1000) (mj_up M 1 9 k) (mj_up V 1 9 k)
  refine ⟨⟨by rw [e9, mj_up_at, if_pos rfl], by rw [e9]; omega, by rw [n9 V 217 (by omega)]; exact hx.2.2⟩, ?_, ?_, ?_, ?_, ?_, ?_, ?_⟩
  · rw [n9 M 174 (by omega), n9 M 171 (by omega)]; exact hX.2.1
  · intro i hi
    rw [n9 M 168 (by omega), n9 M 181 (by omega), n9 M 182 (by omega), n9 M 183 (by omega), n9 M (164 + i) (by omega)]
    exact hX.2.2.1 i hi
  · rw [n9 M 0 (by omega), n9 M 172 (by omega), n9 M 184 (by omega), n9 M 169 (by omega)]; exact hX.2.2.2.1
  · rw [n9 M 0 (by omega), n9 M 172 (by omega), n9 M 179 (by omega), n9 M 170 (by omega)]; exact hX.2.2.2.2.1
  · rw [n9 M 0 (by omega)]; exact hX.2.2.2.2.2.1
  · rw [n9 M 0 (by omega), n9 M 172 (by omega)]; exact hX.2.2.2.2.2.2.1
  · rw [n9 M 0 (by omega)]
    exact fun q => z_img_c (hX.2.2.2.2.2.2.2 q) (by omega) (fun a ha => n9 M a (by omega)) (z_I_0 hI).1 (z_I_0 hI).2

end op03
