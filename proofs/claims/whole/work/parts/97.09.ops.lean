section op09
variable {A B C M N T V W M' V' A' : mj_M} {x : Nat} {n m : Int} {e e' : Nat}
/-- a call that changes the state, and rows that nobody keeps -/
theorem z_op_ch2 {kc km : Nat} {la lm : List mj_V} {v : Int} (h : z_JJ n M V) (F : mj_M → mj_M) (hF : ∀ a i, (a ≠ 172 ∨ i ≠ 3) → (a < 175 ∨ 178 < a) → F M' a i = M' a i) (hch : ∀ a, (a = 0 ∨ (43 < a ∧ a < 87) ∨ (163 < a ∧ a ≤ 184) ∨ a = 9001) → M' a = M a) (h9 : M' 1 9 = M 1 9)
    (hV : m_cR V V') (hI : z_I (n + 1000) M' V')
    (hc : ∀ d Q, mj_Rn (d + 200) kc 0 la [] (SGx x) M Q = Q (some (.inl v)) (SGx x) M')
    (hm : ∀ d Q, mj_Rn (d + 200) km 0 lm [] (SGx x) (v_st V M') Q = Q (some (.inl v)) (SGx x) (v_st V' (F M'))) : z_op n x kc km la lm M V := by
  refine ⟨v, M', V', F, x, hc, hm, hch 173 (by omega), ?_⟩
  have e : ∀ a, a ≠ 172 → (a < 175 ∨ 178 < a) → F M' a = M' a := fun a q q2 => funext fun i => hF a i (Or.inl q) q2
  have hI2 : z_I (n + 1000) (F M') V' := z_I_c hI (fun a q => e a (by omega) (by omega))
  refine ⟨hI2, z_X_c h.2 (by omega) hV.1 hV.2 (by rw [e 1 (by omega) (by omega), h9]) (fun a q => by rw [e a (by omega) (by omega), hch a (by omega)]) (fun j hj => by rw [hF 172 j (Or.inr (by omega)) (by omega), hch 172 (by omega)]) ?_ (z_I_0 hI2).1 (z_I_0 hI2).2⟩
  intro j hj
  rw [e 174 (by omega) (by omega), e 171 (by omega) (by omega), hch 174 (by omega), hch 171 (by omega)]
  exact h.2.2.1 j hj
/-- the state before a trial, in the trial's place -/
theorem z_tr0 (h : z_I n M V) : z_I n (q_tfS 0 86 M) V ∧ q_tfS 0 86 M 1 9 = M 1 9 ∧ (∀ a, (a < 87 ∨ 129 < a) → q_tfS 0 86 M a = M a) := by
  have r : ∀ a, (a < 87 ∨ 129 < a) → q_tfS 0 86 M a = M a := fun a ha => q_tfS_row (by omega) (by omega)
  refine ⟨z_I_pt h (fun a i q => by rw [r a (by unfold q_in at q; omega)]) (by rw [r 130 (by omega)]; exact (z_I_0 h).1) (by rw [r 131 (by omega)]; exact (z_I_0 h).2), by rw [r 1 (by omega)], r⟩
/-- behind a trial all is as it was -/
theorem z_tr1 (h : z_I n M V) (hT : ∀ a, 86 < a → a < 130 → T a = q_tfS 0 86 M a) (h9 : T 9001 = M 9001) (h0 : T 130 2 = 0) (h1 : ∀ k : Nat, k < 120 → T 131 k = 0) :
    z_I n (q_tfS 86 0 T) V ∧ (∀ a i, q_in a i → a < 44 → q_tfS 86 0 T a i = M a i) ∧ (∀ a, (a < 1 ∨ 43 < a) → q_tfS 86 0 T a = T a) := by
  have r : ∀ a, (a < 1 ∨ 43 < a) → q_tfS 86 0 T a = T a := fun a ha => q_tfS_row (by omega) (by omega)
  have i : ∀ a i, q_in a i → a < 44 → q_tfS 86 0 T a i = M a i := fun a i q ha => by
    have h1 : 1 ≤ a := by unfold q_in at q; omega
    have e1 := q_tfS_in (M := T) (s := 86) (t := 0) (by omega) q ha
    rw [Nat.zero_add] at e1
    rw [e1, hT (86 + a) (by omega) (by omega), q_tfS_in (by omega) q ha, Nat.zero_add]
  refine ⟨z_I_pt h (fun a j q => ?_) (by rw [r 130 (by omega)]; exact h0) (by rw [r 131 (by omega)]; exact h1), i, r⟩
  by_cases c : a < 44
  · exact i a j q c
  · have : a = 9001 := by unfold q_in at q; omega
    rw [this, r 9001 (by omega), h9]
theorem v_enc_rs {N : Nat} : ∀ (n t : Nat) (V : mj_M), t + n = N → ∀ k, v_enc (q_for (f_rs M) n t V) k = if t ≤ k ∧ k < N then M 175 k else v_enc V k := by
  intro n
  induction n with
  | zero => intro t V h k; rw [if_neg (by omega)]; rfl
  | succ n ih =>
    intro t V h k
    rw [q_for, ih (t + 1) _ (by omega) k]
    unfold f_rs
    rw [v_enc_up]
    by_cases c : k = t
    · rw [if_neg (by omega), if_pos c, if_pos (by omega), c]
    · rw [if_neg c]
      by_cases c2 : t + 1 ≤ k ∧ k < N
      · rw [if_pos c2, if_pos (by omega)]
      · rw [if_neg c2, if_neg (by omega)]
theorem m_kp_at {k : Nat} (h : k < 6172) : m_kp V M 175 k = v_enc V k := by
  have := (q_for_row (N := 6172) (F := f_kp V) (a := 175) (o := 0) (g := fun t _ => v_enc V t) (fun t A _ => by unfold f_kp; rw [Nat.zero_add]) (fun _ _ _ _ => rfl) 6172 0 M rfl).2 k
  rw [if_pos (by omega), Nat.sub_zero] at this
  exact this
theorem m_rs_e (h : ∀ k, k < 6172 → N 175 k = v_enc V k) (hW : W 217 = V 217) : v_st (m_rs N W) M = v_st V M := by
  apply v_st_enc
  funext k
  unfold m_rs
  rw [v_enc_rs 6172 0 W rfl k]
  by_cases c : k < 6172
  · rw [if_pos (by omega)]; exact h k c
  · rw [if_neg (by omega), v_enc_hi (by omega), v_enc_hi (by omega), hW]
theorem q_tick_sp {a : Nat} (h1 : 86 < a) (h2 : a < 130) : q_tick M a = M a := funext fun i => q_tick_fr (by omega) (by unfold q_mut; omega)
/-- late on both sides -/
theorem z_ltr {r : Nat} (hr8 : r < 8) : ∀ (k : Nat) (n : Int) (t : Nat) (A V : mj_M), z_I n A V → V 1 9 = A 1 9 → (r : Int) < A 22 13 → 0 ≤ n → n + k < 99999999 →
    q_trN r k A t = t + m_ltC r k V ∧ z_I (n + k) (q_trM r k A) (m_ltV r k V) ∧ m_cR V (m_ltV r k V) ∧ (∀ a, (a = 0 ∨ (43 < a ∧ a < 130) ∨ (163 < a ∧ a ≤ 184) ∨ a = 9001) → q_trM r k A a = A a) ∧ q_trM r k A 22 13 = A 22 13 := by
  intro k
  induction k with
  | zero => intro n t A V h _ _ _ _; exact ⟨by rw [q_trN, m_ltC]; omega, by rw [Int.natCast_zero, Int.add_zero]; exact h, m_cR_r, fun _ _ => rfl, rfl⟩
  | succ k ih =>
    intro n t A V h h9 hr hn hl
    have hRR := h.1.1.2.2.2.2.2.2.2.2.2.2.1
    have v24 : V 24 r = A 24 r := (hRR.1.2 r hr8).2.1
    have v17 : V 1 7 = A 1 7 := (z_Rl_1 h.1).2.1
    have rd : q_rdy A r = 0 ↔ A 24 r ≠ 0 := by
      unfold q_rdy
      simp only [Int.toNat_natCast]
      by_cases c : A 24 r = 0
      · rw [if_pos ⟨by omega, hr, c⟩]; omega
      · rw [if_neg (fun q => c q.2.2)]; exact ⟨fun _ => c, fun _ => rfl⟩
    rw [q_trN, q_trM, m_ltC, m_ltV, v24, v17]
    by_cases c : A 24 r = 0
    · have np : ¬ (A 1 7 < 9999 ∧ q_rdy A r = 0) := fun q => rd.mp q.2 c
      simp only [if_neg np, if_pos c]
      exact ⟨by omega, z_I_m h (by omega), m_cR_r, by simp⟩
    · by_cases c2 : A 1 7 < 9999
      · have p : A 1 7 < 9999 ∧ q_rdy A r = 0 := ⟨c2, rd.mpr c⟩
        obtain ⟨-, -, t3, t4⟩ := z_tick h ⟨hn, by omega⟩ c2
        rw [← h9] at t3 t4
        obtain ⟨o1, o2⟩ := q_tick_out (M := A)
        have e22 : q_tick A 22 13 = A 22 13 := q_tick_fr (by omega) (by unfold q_mut; omega)
        obtain ⟨i1, i2, i3, i4, i5⟩ := ih (n + 1) (t + 1) (q_tick A) (m_tkM V (V 1 9)) t4 (by rw [m_tkM_R.1, o2]; exact h9) (by rw [e22]; exact hr) (by omega) (by omega)
        have p9 : ¬ 9999 ≤ A 1 7 := by omega
        simp only [if_pos p, if_neg c, if_neg p9]
        refine ⟨by rw [i1]; push_cast; omega, by rw [show n + ((k + 1 : Nat) : Int) = n + 1 + (k : Int) by omega]; exact i2, m_cR_t m_tkM_R i3, fun a q => ?_, by rw [i5, e22]⟩
        rw [i4 a q]
        by_cases q2 : 86 < a ∧ a < 130
        · exact q_tick_sp q2.1 q2.2
        · exact o1 a (by omega)
      · have np : ¬ (A 1 7 < 9999 ∧ q_rdy A r = 0) := fun q => c2 q.1
        have p9 : 9999 ≤ A 1 7 := by omega
        simp only [if_neg np, if_neg c, if_pos p9]
        exact ⟨by omega, z_I_m h (by omega), m_cR_r, by simp⟩
theorem m_ltN_o {r : Nat} {a i : Nat} (h : a ≠ 172 ∨ i ≠ 3) : ∀ (k : Nat) (M V : mj_M), m_ltN r k M V a i = M a i := by
  intro k
  induction k with
  | zero => intro M V; rfl
  | succ k ih =>
    intro M V
    rw [m_ltN]
    split
    · rfl
    · split
      · rfl
      · rw [ih, m_tkN_o h]

theorem z_o_late (h : z_JJ n M V) (hn : 0 ≤ n ∧ n < 80000000) {r : Int} : z_op n x 123 255 [.inr (.inl 0), .inl r] [.inr (.inl 172), .inl r, .inr (.inr 0), .inr (.inr 0)] M V := by
  have hRl := h.1.1
  have w := hRl.1.1.1
  have hok := hRl.1.2.2.2.2.2.2.1
  have et := z_rt_e hRl (r := r)
  have hP : 0 ≤ r ∧ r < 8 → ∀ (i : Nat) (V : mj_M), i < 60 → (∃ A, z_I (n + i) A V ∧ V 1 9 = A 1 9) → V 24 r.toNat ≠ 0 → V 1 7 < 9999 → m_ok V ∧ m_hy (m_pc V) ∧ ∃ A, z_I (n + (i + 1 : Nat)) A (m_tkM V (V 1 9)) ∧ m_tkM V (V 1 9) 1 9 = A 1 9 := by
    intro _ i V hi hA _ h17
    obtain ⟨A, g1, g2⟩ := hA
    have v17 : V 1 7 = A 1 7 := (z_Rl_1 g1.1).2.1
    obtain ⟨t1, -, t3, t4⟩ := z_tick g1 ⟨by omega, by omega⟩ (by omega)
    rw [← g2] at t4
    refine ⟨g1.1.1.2.2.2.2.2.2.1, t1, q_tick A, ?_, by rw [m_tkM_R.1, (q_tick_out (M := A)).2]; exact g2⟩
    rw [show n + ((i + 1 : Nat) : Int) = n + i + 1 by omega]
    exact t4
  have hP0 : ∃ A, z_I (n + (0 : Nat)) A V ∧ V 1 9 = A 1 9 := ⟨M, by rw [Int.natCast_zero, Int.add_zero]; exact h.1, h.2.1.1⟩
  by_cases c1 : q_rt M r = 0
  · have c1V : m_rt V r = 0 := et.trans c1
    refine z_op_re (k := 3) (v := -3) h (by omega) (fun d Q => (e_123 (d := d + 191) w h.1.2.2.2 ⟨hn.1, by omega⟩).trans (by rw [if_pos c1])) (fun M d Q => (r_255 (d := d + 70) hok.1 (P := fun i V => ∃ A, z_I (n + i) A V ∧ V 1 9 = A 1 9) hP0 hP).trans (by rw [if_pos c1V]))
  have c1V : ¬ m_rt V r = 0 := by rw [et]; exact c1
  have hr : 0 ≤ r ∧ r < M 22 13 := by
    unfold q_rt at c1
    split at c1
    · assumption
    · exact absurd rfl c1
  have hsz := q_w22_13 w
  obtain ⟨r, rfl⟩ : ∃ u : Nat, r = (u : Int) := ⟨r.toNat, by omega⟩
  obtain ⟨b1, b2, b3⟩ := z_tr0 h.1
  have e22 : q_tfS 0 86 M 22 13 = M 22 13 := by rw [b3 22 (by omega)]
  obtain ⟨l1, l2, l3, l4, l5⟩ := z_ltr (r := r) (by omega) 60 n 0 (q_tfS 0 86 M) V b1 (by rw [b2]; exact h.2.1.1) (by rw [e22]; exact hr.2) hn.1 (by omega)
  have z0 := z_I_0 l2
  obtain ⟨t1, t2, t3⟩ := z_tr1 (T := q_trM r 60 (q_tfS 0 86 M)) h.1 (fun a q1 q2 => l4 a (by omega)) (by rw [l4 9001 (by omega), b3 9001 (by omega)]) z0.1 z0.2
  have l24 : m_ltV r 60 V 24 r = q_trM r 60 (q_tfS 0 86 M) 24 r := (l2.1.1.2.2.2.2.2.2.2.2.2.2.1.1.2 r (by omega)).2.1
  have ev : q_late M r = if m_ltV r 60 V 24 r = 0 then m_ltC r 60 V else -1 := by
    unfold q_late
    simp only []
    have rdE : q_rdy (q_trM r 60 (q_tfS 0 86 M)) r = if q_trM r 60 (q_tfS 0 86 M) 24 r = 0 then 1 else 0 := by
      unfold q_rdy
      rw [l5, e22]
      simp only [Int.toNat_natCast]
      by_cases c : q_trM r 60 (q_tfS 0 86 M) 24 r = 0
      · rw [if_pos c, if_pos ⟨by omega, hr.2, c⟩]
      · rw [if_neg c, if_neg (fun q => c q.2.2)]
    rw [l1, l24, rdE]
    by_cases c : q_trM r 60 (q_tfS 0 86 M) 24 r = 0
    · simp only [if_pos c, if_true]; omega
    · simp only [if_neg c]; rfl
  refine z_op_ch2 (v := q_late M r) (M' := q_lateM M r) (V' := V) h (fun X => m_ltN r 60 (m_kp V X) V) (fun a i q q2 => by rw [m_ltN_o q, m_kp_o (by omega)]) (fun a q => ?_) ?_ m_cR_r (z_I_m t1 (by omega)) (fun d Q => (e_123 (d := d + 191) w h.1.2.2.2 ⟨hn.1, by omega⟩).trans (by rw [if_neg c1])) (fun d Q => (r_255 (d := d + 70) hok.1 (P := fun i V => ∃ A, z_I (n + i) A V ∧ V 1 9 = A 1 9) hP0 hP).trans ?_)
  · show q_tfS 86 0 (q_trM r 60 (q_tfS 0 86 M)) a = M a
    rw [t3 a (by omega), l4 a (by omega), b3 a (by omega)]
  · show q_tfS 86 0 (q_trM r 60 (q_tfS 0 86 M)) 1 9 = M 1 9
    exact t2 1 9 (by unfold q_in; omega) (by omega)
  · rw [if_neg c1V, ev]
    simp only [Int.toNat_natCast]
    rw [m_rs_e (fun k hk => by rw [m_ltN_o (Or.inl (by omega)), m_kp_at hk]) l3.2]

/-- a record on both sides -/
theorem z_jud {ρ : Nat → Int} : ∀ (k i : Nat) (n : Int) (A V : mj_M), z_I n A V → V 1 9 = A 1 9 → (∀ j : Nat, i ≤ j → j < i + k → ρ j = A 169 j) → 0 ≤ n → n + k < 99999999 → A 1 7 + k ≤ 9999 →
    q_fuR k i A = m_juR ρ k i V ∧ z_I (n + k) (q_fuM k i A) (m_juV ρ k i V) ∧ m_cR V (m_juV ρ k i V) ∧ (∀ a, (a = 0 ∨ (43 < a ∧ a < 130) ∨ (163 < a ∧ a ≤ 184) ∨ a = 9001) → q_fuM k i A a = A a) := by
  intro k
  induction k with
  | zero => intro i n A V h _ _ _ _ _; exact ⟨rfl, by rw [Int.natCast_zero, Int.add_zero]; exact h, m_cR_r, fun _ _ => rfl⟩
  | succ k ih =>
    intro i n A V h h9 hρ hn hl h7
    have w := h.1.1.1.1
    obtain ⟨-, -, t3, t4⟩ := z_tick h ⟨hn, by omega⟩ (by omega)
    rw [← h9] at t3 t4
    obtain ⟨o1, o2⟩ := q_tick_out (M := A)
    have o3 : ∀ a, (a = 0 ∨ (43 < a ∧ a < 130) ∨ (163 < a ∧ a ≤ 184) ∨ a = 9001) → q_tick A a = A a := fun a q => by
      by_cases q2 : 86 < a ∧ a < 130
      · exact q_tick_sp q2.1 q2.2
      · exact o1 a (by omega)
    rw [q_fuR, q_fuM, m_juR, m_juV, t3, o3 169 (by omega), hρ i (by omega) (by omega)]
    by_cases c : m_tkR V (V 1 9) = A 169 i
    · obtain ⟨i1, i2, i3, i4⟩ := ih (i + 1) (n + 1) (q_tick A) (m_tkM V (V 1 9)) t4 (by rw [m_tkM_R.1, o2]; exact h9) (fun j q1 q2 => by rw [o3 169 (by omega)]; exact hρ j (by omega) (by omega)) (by omega) (by omega) (by rw [q_tick_nowE w]; omega)
      simp only [if_pos c]
      refine ⟨i1, by rw [show n + ((k + 1 : Nat) : Int) = n + 1 + (k : Int) by omega]; exact i2, m_cR_t m_tkM_R i3, fun a q => by rw [i4 a q, o3 a q]⟩
    · simp only [if_neg c]
      exact ⟨trivial, z_I_m t4 (by omega), m_tkM_R, o3⟩
theorem m_juN_o {ρ : Nat → Int} {a i : Nat} (h : a ≠ 172 ∨ i ≠ 3) : ∀ (k j : Nat) (M V : mj_M), m_juN ρ k j M V a i = M a i := by
  intro k
  induction k with
  | zero => intro j M V; rfl
  | succ k ih =>
    intro j M V
    rw [m_juN]
    split
    · rw [ih, m_tkN_o h]
    · rw [m_tkN_o h]
theorem m_juV_c {ρ σ : Nat → Int} : ∀ (k i : Nat) (V : mj_M), (∀ j, i ≤ j → j < i + k → ρ j = σ j) → m_juV ρ k i V = m_juV σ k i V ∧ m_juR ρ k i V = m_juR σ k i V := by
  intro k
  induction k with
  | zero => intro i V _; exact ⟨rfl, rfl⟩
  | succ k ih =>
    intro i V hr
    obtain ⟨i1, i2⟩ := ih (i + 1) (m_tkM V (V 1 9)) (fun j q1 q2 => hr j (by omega) (by omega))
    rw [m_juV, m_juV, m_juR, m_juR, hr i (by omega) (by omega), i1, i2]
    exact ⟨rfl, rfl⟩

theorem z_o_judge (h : z_JJ n M V) (hn : 0 ≤ n ∧ n < 80000000) {zz : Int} : z_op n x 125 256 [.inr (.inl 0)] [.inr (.inl 172), .inr (.inr 0), .inr (.inr 0)] M V := by
  have hRl := h.1.1
  have w := hRl.1.1.1
  have hok := hRl.1.2.2.2.2.2.2.1
  have hX := h.2
  have hrec := hX.2.2.2.1
  have g17 := (z_Rl_1 hRl).2.1
  have h7 := q_w1_7 w
  have h7V : 0 ≤ V 1 7 ∧ V 1 7 ≤ 9999 := by rw [g17]; exact h7
  have hs0 : ∀ N : mj_M, N 172 = M 172 → N 172 23 ≠ 0 → 0 ≤ N 172 22 ∧ N 172 22 ≤ 60 := by
    intro N e q
    rw [e] at q ⊢
    rw [hrec.2.1] at q
    have c : M 0 14 ≠ -1 := fun g => q (by rw [if_pos g])
    rw [hrec.2.2.1 c]; omega
  have hm : ∀ (N : mj_M) d Q, N 172 = M 172 → mj_Rn (d + 200) 256 0 [.inr (.inl 172), .inr (.inr 0), .inr (.inr 0)] [] (SGx x) (v_st V N) Q = (if N 172 23 = 0 then Q (some (.inl (-2))) (SGx x) (v_st V (q_rm N 2)) else if N 172 22 = 0 then Q (some (.inl (-5))) (SGx x) (v_st V (q_rm N 5)) else if 9999 < V 1 7 + N 172 22 then Q (some (.inl (-8))) (SGx x) (v_st V (q_rm N 8)) else
      Q (some (.inl (m_juR (N 184) (N 172 22).toNat 0 V))) (SGx x) (v_st (m_rs (m_juN (N 184) (N 172 22).toNat 0 (m_kp V N) V) (m_juV (N 184) (N 172 22).toNat 0 V)) (m_juN (N 184) (N 172 22).toNat 0 (m_kp V N) V))) := by
    intro N d Q e
    refine r_256 (d := d + 70) (hs0 N e) h7V (P := fun i V => ∃ A, z_I (n + i) A V ∧ V 1 9 = A 1 9 ∧ A 1 7 + (N 172 22 - i) ≤ 9999) ?_ ?_
    · intro q
      exact ⟨M, by rw [Int.natCast_zero, Int.add_zero]; exact h.1, hX.1.1, by rw [← g17]; omega⟩
    · intro q0 i V hi hA
      obtain ⟨A, g1, g2, g3⟩ := hA
      have hi2 := hs0 N e q0
      obtain ⟨t1, -, t3, t4⟩ := z_tick g1 ⟨by omega, by omega⟩ (by omega)
      rw [← g2] at t4
      refine ⟨g1.1.1.2.2.2.2.2.2.1, t1, q_tick A, ?_, by rw [m_tkM_R.1, (q_tick_out (M := A)).2]; exact g2, by rw [q_tick_nowE g1.1.1.1.1]; omega⟩
      rw [show n + ((i + 1 : Nat) : Int) = n + i + 1 by omega]
      exact t4
  have hre : ∀ k, q_re M k 172 = M 172 := fun k => q_re_ne (by omega)
  by_cases c1 : M 0 14 = -1
  · have c1V : M 172 23 = 0 := by rw [hrec.2.1, if_pos c1]
    exact ⟨-2, q_re M 2, V, fun M => q_rm M 2, x, fun d Q => (e_125 (d := d + 191) w h.1.2.2.2 ⟨hn.1, by omega⟩ hrec.1).trans (by rw [if_pos c1]), fun d Q => (hm _ d Q (hre 2)).trans (by rw [hre, if_pos c1V]), q_re_ne (by omega), z_JJ_re h (by omega)⟩
  have c1V : ¬ M 172 23 = 0 := by rw [hrec.2.1, if_neg c1]; omega
  have e22 := hrec.2.2.1 c1
  by_cases c2 : M 0 14 = 0
  · have c2V : M 172 22 = 0 := by rw [e22]; exact c2
    exact ⟨-5, q_re M 5, V, fun M => q_rm M 5, x, fun d Q => (e_125 (d := d + 191) w h.1.2.2.2 ⟨hn.1, by omega⟩ hrec.1).trans (by rw [if_neg c1, if_pos c2]), fun d Q => (hm _ d Q (hre 5)).trans (by rw [hre, if_neg c1V, if_pos c2V]), q_re_ne (by omega), z_JJ_re h (by omega)⟩
  have c2V : ¬ M 172 22 = 0 := by rw [e22]; exact c2
  by_cases c3 : 9999 < M 1 7 + M 0 14
  · have c3V : 9999 < V 1 7 + M 172 22 := by rw [e22, g17]; exact c3
    exact ⟨-8, q_re M 8, V, fun M => q_rm M 8, x, fun d Q => (e_125 (d := d + 191) w h.1.2.2.2 ⟨hn.1, by omega⟩ hrec.1).trans (by rw [if_neg c1, if_neg c2, if_pos c3]), fun d Q => (hm _ d Q (hre 8)).trans (by rw [hre, if_neg c1V, if_neg c2V, if_pos c3V]), q_re_ne (by omega), z_JJ_re h (by omega)⟩
  have c3V : ¬ 9999 < V 1 7 + M 172 22 := by rw [e22, g17]; exact c3
  obtain ⟨sz, hsz⟩ : ∃ u : Nat, M 0 14 = (u : Int) := ⟨(M 0 14).toNat, by omega⟩
  obtain ⟨b1, b2, b3⟩ := z_tr0 h.1
  obtain ⟨l1, l2, l3, l4⟩ := z_jud (ρ := M 184) sz 0 n (q_tfS 0 86 M) V b1 (by rw [b2]; exact hX.1.1) (fun j _ q => by rw [b3 169 (by omega)]; exact hrec.2.2.2 j (by omega)) hn.1 (by omega) (by rw [b3 1 (by omega)]; omega)
  have z0 := z_I_0 l2
  obtain ⟨t1, t2, t3⟩ := z_tr1 (T := q_fuM sz 0 (q_tfS 0 86 M)) h.1 (fun a q1 q2 => l4 a (by omega)) (by rw [l4 9001 (by omega), b3 9001 (by omega)]) z0.1 z0.2
  have eM : q_judgeM M sz = q_tfS 86 0 (q_fuM sz 0 (q_tfS 0 86 M)) := rfl
  have out : ∀ a, (a = 0 ∨ (43 < a ∧ a < 87) ∨ (163 < a ∧ a ≤ 184) ∨ a = 9001) → q_judgeM M sz a = M a := fun a q => by rw [eM, t3 a (by omega), l4 a (by omega), b3 a (by omega)]
  have k172 := out 172 (by omega)
  have k184 := out 184 (by omega)
  refine z_op_ch2 (v := q_judge M sz) (M' := q_judgeM M sz) (V' := V) h (fun X => m_juN (X 184) (X 172 22).toNat 0 (m_kp V X) V) (fun a i q q2 => by rw [m_juN_o q, m_kp_o (by omega)]) out ?_ m_cR_r (z_I_m t1 (by omega)) (fun d Q => (e_125 (d := d + 191) w h.1.2.2.2 ⟨hn.1, by omega⟩ hrec.1).trans (by rw [if_neg c1, if_neg c2, if_neg c3, hsz, Int.toNat_natCast])) (fun d Q => (hm _ d Q k172).trans ?_)
  · rw [eM]; exact t2 1 9 (by unfold q_in; omega) (by omega)
  · have s22 : (M 172 22).toNat = sz := by rw [e22, hsz, Int.toNat_natCast]
    have ev : q_judge M sz = m_juR (M 184) sz 0 V := l1
    rw [k172, if_neg c1V, if_neg c2V, if_neg c3V, s22, k184, ev]
    rw [m_rs_e (fun k hk => by rw [m_juN_o (Or.inl (by omega)), m_kp_at hk]) l3.2]

end op09
