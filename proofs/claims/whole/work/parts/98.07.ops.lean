section op10
variable {A B C M N V W M' V' : mj_M} {x : Nat} {n m : Int}
theorem z_hh0 (h : z_Rl 8 M V) : z_hh (q_rb M) (m_hn V N) := by
  have w := h.1.1.1
  have f1 := q_fill_at (M := M) (a := 153) (N := 1600) (v := 0)
  have f2 := q_for_row (N := 1600) (F := f_h0) (a := 177) (o := 0) (g := fun _ _ => 0) (fun t A _ => by unfold f_h0; rw [Nat.zero_add]) (fun _ _ _ _ => rfl) 1600 0 N rfl
  have hA := z_or_for (a := 153) (A := M) (N := 120) (F := f_129) (K := fun t j k => (M 3 t = M 3 t ∧ M 3 t ≠ -1 ∧ M 4 t ≠ -1 ∧ M 12 t = 0 ∧ M 10 t = -1) ∧ (j = (40 * M 8 t + M 4 t).toNat ∧ mj_and (M 5 t) k ≠ 0)) (fun t B ht hB => ?_) 120 0 (q_fill M 153 1600 0) rfl f1.1
  have hN := z_or_for (a := 177) (A := N) (N := 120) (F := f_h1 V) (K := fun t j k => (M 3 t = M 3 t ∧ M 3 t ≠ -1 ∧ M 4 t ≠ -1 ∧ M 12 t = 0 ∧ M 10 t = -1) ∧ (j = (40 * M 8 t + M 4 t).toNat ∧ mj_and (M 5 t) k ≠ 0)) (fun t B ht hB => ?_) 120 0 (q_for f_h0 1600 0 N) rfl f2.1
  · intro j hj
    have e1 : q_fill M 153 1600 0 153 j = 0 := by rw [f1.2 j, if_pos (by omega)]
    have e2 : q_for f_h0 1600 0 N 177 j = 0 := by rw [f2.2 j, if_pos (by omega)]
    have r1 : q_r4 (q_rb M 153 j) := hA.2.1 j (by rw [e1]; unfold q_r4; omega)
    have r2 : q_r4 (m_hn V N 177 j) := hN.2.1 j (by rw [e2]; unfold q_r4; omega)
    refine ⟨q_eq_b r1 r2 (fun k _ => ?_), r1⟩
    have b1 := hA.2.2 j k
    have b2 := hN.2.2 j k
    rw [e1] at b1
    rw [e2] at b2
    exact b1.trans b2.symm
  · unfold f_h1
    rcases h.1.2.1 t ht with q | ⟨q0, q1, q3, q4, q5, q6, q7, q8, q9, q10, q11, q12⟩
    · rw [if_neg (fun g => by omega)]
      exact z_or_c z_or_r (fun j k => ⟨fun g => absurd g id, fun g => absurd q.1 g.1.2.1⟩)
    · have r5 := (h.1.2.2.2.2.2.2.2.2.2.2.2.2.2.2.2.2.1 t ht q0)
      rw [q12, q4, q10, q8, q5]
      by_cases c : V 212 t = 1 ∧ M 12 t = 0 ∧ M 4 t ≠ -1 ∧ M 10 t = -1
      · rw [if_pos c, q_and15 ⟨r5.1.1, r5.2.1 c.2.2.1⟩]
        exact z_or_c (z_or_u ⟨r5.1.1, r5.2.1 c.2.2.1⟩) (fun j k => ⟨fun g => ⟨⟨rfl, q0, c.2.2.1, c.2.1, c.2.2.2⟩, g⟩, fun g => g.2⟩)
      · rw [if_neg c]
        exact z_or_c z_or_r (fun j k => ⟨fun g => absurd g id, fun g => absurd ⟨q1, g.1.2.2.2.1, g.1.2.2.1, g.1.2.2.2.2⟩ c⟩)
  · unfold f_129
    have cn : q_cnts B t = q_cnts M t := by unfold q_cnts; rw [hB 3 (by omega), hB 4 (by omega), hB 12 (by omega)]
    rw [cn, hB 10 (by omega), hB 8 (by omega), hB 4 (by omega), hB 5 (by omega), show M 8 t * 40 + M 4 t = 40 * M 8 t + M 4 t by omega]
    by_cases c : q_cnts M t = 1 ∧ M 10 t = -1
    · have cc : M 3 t ≠ -1 ∧ M 4 t ≠ -1 ∧ M 12 t = 0 := by
        have := c.1
        unfold q_cnts at this
        split at this
        · assumption
        · exact absurd this (by decide)
      have r5 := (h.1.2.2.2.2.2.2.2.2.2.2.2.2.2.2.2.2.1 t ht cc.1)
      rw [if_pos c]
      exact z_or_c (z_or_u ⟨r5.1.1, r5.2.1 cc.2.1⟩) (fun j k => ⟨fun g => ⟨⟨rfl, cc.1, cc.2.1, cc.2.2, c.2⟩, g⟩, fun g => g.2⟩)
    · rw [if_neg c]
      refine z_or_c z_or_r (fun j k => ⟨fun g => absurd g id, fun g => ?_⟩)
      exact c ⟨by unfold q_cnts; rw [if_pos ⟨g.1.2.1, g.1.2.2.1, g.1.2.2.2.1⟩], g.1.2.2.2.2⟩
theorem q_rb_o {b : Nat} (h : b ≠ 153) : q_rb M b = M b := by
  unfold q_rb
  rw [q_for_o (F := f_129) (fun t A => by unfold f_129; split; exact mj_up_ne h; rfl) 120 0 _, (q_fill_at).1 b h]
theorem z_Rl_lo (h : z_Rl 8 M V) (o : ∀ b, (b < 153 ∨ 156 < b) → N b = M b) : z_Rl 8 N V :=
  z_Rl_pt h (fun a i q => by rw [o a (by unfold q_in at q; omega)]) (by rw [o 130 (by omega)]; exact h.2.2.2) (fun k hk => by rw [o 131 (by omega)]; exact h.2.1.2 h.2.2.2 k hk)
theorem q_rr_0 {k : Nat} : q_rr k 0 M = M := by
  cases k with
  | zero => rfl
  | succ k => rw [q_rr, if_pos rfl]
/-- rounds on both sides -/
theorem z_rr : ∀ (k : Nat) (M N : mj_M), z_Rl 8 M V → z_hh M N → z_hh (q_rr k 1 M) (m_rr V k N) ∧ (∀ b, (b < 153 ∨ 156 < b) → q_rr k 1 M b = M b) := by
  intro k
  induction k with
  | zero => intro M N _ hh; exact ⟨hh, fun _ _ => rfl⟩
  | succ k ih =>
    intro M N h hh
    obtain ⟨g1, g2, g3⟩ := z_go h hh
    rw [q_rr, m_rr, if_neg (by omega), g2]
    rcases m_goR_01 (V := V) (M := N) with c | c
    · rw [if_pos c, c, q_rr_0]; exact ⟨g1, g3⟩
    · rw [if_neg (by omega), c]
      obtain ⟨i1, i2⟩ := ih (q_goM M) (m_goM V N) (z_Rl_lo h g3) g1
      exact ⟨i1, fun b q => by rw [i2 b q, g3 b q]⟩
theorem z_fh {i : Nat} (hi : i < 1600) {rt : Int} : ∀ (k t : Nat) (M N : mj_M), z_Rl 8 M V → z_hh M N → q_fhR i rt k t 1 M = m_whR V i rt k t N ∧ (∀ b, (b < 153 ∨ 156 < b) → q_fhM i rt k 1 M b = M b) := by
  intro k
  induction k with
  | zero => intro t M N _ _; exact ⟨rfl, fun _ _ => rfl⟩
  | succ k ih =>
    intro t M N h hh
    obtain ⟨g1, g2, g3⟩ := z_go h hh
    have h10 : ¬ ((1 : Int) = 0) := by omega
    rw [q_fhR, q_fhM, m_whR, if_neg h10, if_neg h10, ← (hh i hi).1]
    by_cases c1 : mj_and (M 153 i) rt = rt
    · rw [if_pos c1, if_pos c1, if_pos c1]; exact ⟨rfl, fun _ _ => rfl⟩
    · rw [if_neg c1, if_neg c1, if_neg c1, g2]
      rcases m_goR_01 (V := V) (M := N) with c | c
      · rw [if_pos c, c]
        cases k with
        | zero => exact ⟨rfl, g3⟩
        | succ k => rw [q_fhR, q_fhM, if_pos rfl, if_pos rfl]; exact ⟨rfl, g3⟩
      · rw [if_neg (by omega), c]
        obtain ⟨i1, i2⟩ := ih (t + 1) (q_goM M) (m_goM V N) (z_Rl_lo h g3) g1
        exact ⟨by rw [i1]; push_cast; rfl, fun b q => by rw [i2 b q, g3 b q]⟩
theorem z_ibs (h : z_Rl 8 M V) (hh : z_hh M N) {u : Nat} (hu : (u : Int) < M 36 5) : q_ib M u = m_ib V N u := by
  obtain ⟨q1, q2, q3, q4, q5, q6, q7, -⟩ := h.1.2.2.2.2.2.2.2.2.2.2.2.2.1.2.2 u hu
  have hb2 : ∀ (y z : Int), 0 ≤ y ∧ y < 40 → 0 ≤ z ∧ z < 40 → ∀ (k t : Nat), t + k = 40 → q_ib2 M y z k t = m_ib2 N y z k t := by
    intro y z hy hz k
    induction k with
    | zero => intro t _; rfl
    | succ k ih =>
      intro t ht
      rw [q_ib2, m_ib2, ih (t + 1) (by omega)]
      rw [show (y * 40 + (t : Int)).toNat = (40 * y + (t : Int)).toNat by omega, show (z * 40 + (t : Int)).toNat = (40 * z + (t : Int)).toNat by omega, (hh (40 * y + (t : Int)).toNat (by omega)).1, (hh (40 * z + (t : Int)).toNat (by omega)).1]
  unfold q_ib m_ib
  rw [q1, q3, q4]
  by_cases c : M 37 u = 1
  · have cz : M 37 u - 1 = 0 := by omega
    rw [if_pos c, if_pos cz, q7 c, show M 38 u * 40 + M 39 u = 40 * M 38 u + M 39 u by omega, (hh _ (by omega)).1]
    by_cases c2 : mj_and (N 177 (40 * M 38 u + M 39 u).toNat) (M 40 u) = 0
    · rw [if_pos c2, if_neg (fun g => g c2)]
    · rw [if_neg c2, if_pos c2]
  · have cz : ¬ M 37 u - 1 = 0 := by omega
    rw [if_neg c, if_neg cz]
    exact hb2 _ _ q5 q6 40 0 rfl
theorem z_fb {u : Nat} : ∀ (k t : Nat) (M N : mj_M), z_Rl 8 M V → z_hh M N → (u : Int) < M 36 5 → q_fbR u k t 1 M = m_shR V u k t N ∧ (∀ b, (b < 153 ∨ 156 < b) → q_fbM u k 1 M b = M b) := by
  intro k
  induction k with
  | zero => intro t M N _ _ _; exact ⟨rfl, fun _ _ => rfl⟩
  | succ k ih =>
    intro t M N h hh hu
    obtain ⟨g1, g2, g3⟩ := z_go h hh
    have h10 : ¬ ((1 : Int) = 0) := by omega
    rw [q_fbR, q_fbM, m_shR, if_neg h10, if_neg h10, z_ibs h hh hu]
    by_cases c1 : m_ib V N u = 1
    · rw [if_pos c1, if_pos c1, if_pos c1]; exact ⟨rfl, fun _ _ => rfl⟩
    · rw [if_neg c1, if_neg c1, if_neg c1, g2]
      rcases m_goR_01 (V := V) (M := N) with c | c
      · rw [if_pos c, c]
        cases k with
        | zero => exact ⟨rfl, g3⟩
        | succ k => rw [q_fbR, q_fbM, if_pos rfl, if_pos rfl]; exact ⟨rfl, g3⟩
      · rw [if_neg (by omega), c]
        obtain ⟨i1, i2⟩ := ih (t + 1) (q_goM M) (m_goM V N) (z_Rl_lo h g3) g1 (by rw [g3 36 (by omega)]; exact hu)
        exact ⟨by rw [i1]; push_cast; rfl, fun b q => by rw [i2 b q, g3 b q]⟩
theorem m_hn_o {b : Nat} (h : b ≠ 177) : m_hn V N b = N b := by
  unfold m_hn
  rw [q_for_o (F := f_h1 V) (fun t A => by unfold f_h1; split; exact mj_up_ne h; rfl) 120 0 _, q_for_o (F := f_h0) (fun t A => by unfold f_h0; exact mj_up_ne h) 1600 0 _]
theorem m_goM_o {b : Nat} (h : b ≠ 177) (h2 : b ≠ 178) : m_goM V N b = N b := by rw [(m_goM_at).1 b h, m_g0_fr h2]
theorem m_rr_o {b : Nat} (h : b ≠ 177) (h2 : b ≠ 178) : ∀ (k : Nat) (N : mj_M), m_rr V k N b = N b := by
  intro k
  induction k with
  | zero => intro N; rfl
  | succ k ih => intro N; rw [m_rr]; split; exact m_goM_o h h2; rw [ih, m_goM_o h h2]
theorem m_whM_o {b i : Nat} {rt : Int} (h : b ≠ 177) (h2 : b ≠ 178) : ∀ (k : Nat) (N : mj_M), m_whM V i rt k N b = N b := by
  intro k
  induction k with
  | zero => intro N; rfl
  | succ k ih => intro N; rw [m_whM]; split; rfl; split; exact m_goM_o h h2; rw [ih, m_goM_o h h2]
theorem m_shM_o {b u : Nat} (h : b ≠ 177) (h2 : b ≠ 178) : ∀ (k : Nat) (N : mj_M), m_shM V u k N b = N b := by
  intro k
  induction k with
  | zero => intro N; rfl
  | succ k ih => intro N; rw [m_shM]; split; rfl; split; exact m_goM_o h h2; rw [ih, m_goM_o h h2]

theorem z_o_could (h : z_JJ n M V) {b y : Int} : z_op n x 127 257 [.inr (.inl 0), .inl b, .inl y] [.inr (.inl 172), .inl b, .inl y, .inr (.inr 0)] M V := by
  have hRl := h.1.1
  have w := hRl.1.1.1
  have hok := hRl.1.2.2.2.2.2.2.1
  have R0 : z_Rl 8 (q_rb M) V := z_Rl_lo hRl (fun b q => q_rb_o (by omega))
  have hh : ∀ N, z_hh (q_rb M) (m_hn V N) := fun N => z_hh0 hRl
  have he : ∀ N, m_end V 6401 (m_hn V N) := fun N => z_end R0 (hh N)
  have eb := z_bx_e hRl (y := b)
  have et := z_tht_e hRl (y := y)
  by_cases c1 : q_of M b 1 = 0
  · have c1V : m_bx V b = 0 := eb.trans c1
    exact z_op_re (k := 3) (v := -3) h (by omega) (fun d Q => (e_127 (d := d + 191) w).trans (by rw [if_pos c1])) (fun M d Q => (r_257 (d := d + 189) (n := 6401) hok.1 (he _)).trans (by rw [if_pos c1V]))
  have hb := q_of_1.mp (show q_of M b 1 = 1 by have := q_of_01 (M := M) (t := b) (v := 1); omega)
  have c1V : ¬ m_bx V b = 0 := by rw [eb]; exact c1
  by_cases c2 : q_tht M y = 0
  · have c2V : m_th V y = 0 := et.trans c2
    exact z_op_re (k := 3) (v := -3) h (by omega) (fun d Q => (e_127 (d := d + 191) w).trans (by rw [if_neg c1, if_pos c2])) (fun M d Q => (r_257 (d := d + 189) (n := 6401) hok.1 (he _)).trans (by rw [if_neg c1V, if_pos c2V]))
  have hy : 0 ≤ y ∧ y < 40 := by have := q_tht_01 (M := M) (t := y); omega
  have c2V : ¬ m_th V y = 0 := by rw [et]; exact c2
  have out : ∀ a, (a < 153 ∨ 156 < a) → q_couldM M a = M a := fun a q => by
    have := (z_rr (V := V) 6401 (q_rb M) (m_hn V M) R0 (hh M)).2 a q
    show q_rr 6401 1 (q_rb M) a = M a
    rw [this, q_rb_o (by omega)]
  have val : q_couldM M 153 (b * 40 + y).toNat = m_rr V 6401 (m_hn V (q_couldM M)) 177 (40 * b + y).toNat := by
    have := (z_rr (V := V) 6401 (q_rb M) (m_hn V (q_couldM M)) R0 (hh _)).1 (40 * b + y).toNat (by omega)
    rw [show b * 40 + y = 40 * b + y by omega]
    exact this.1
  refine z_op_ch2 (v := q_couldM M 153 (b * 40 + y).toNat) (M' := q_couldM M) (V' := V) h (fun X => m_rr V 6401 (m_hn V X)) (fun a i q q2 => by rw [m_rr_o (by omega) (by omega), m_hn_o (by omega)]) (fun a q => out a (by omega)) (by rw [out 1 (by omega)]) m_cR_r (z_I_m (z_I_c h.1 (fun a q => out a (by omega))) (by omega)) (fun d Q => (e_127 (d := d + 191) w).trans (by rw [if_neg c1, if_neg c2])) (fun d Q => (r_257 (d := d + 189) (n := 6401) hok.1 (he _)).trans (by rw [if_neg c1V, if_neg c2V, val]))

theorem z_o_when (h : z_JJ n M V) {b y rt : Int} : z_op n x 136 261 [.inr (.inl 0), .inl b, .inl y, .inl rt] [.inr (.inl 172), .inl b, .inl y, .inl rt, .inr (.inr 0), .inr (.inr 0)] M V := by
  have hRl := h.1.1
  have w := hRl.1.1.1
  have hok := hRl.1.2.2.2.2.2.2.1
  have R0 : z_Rl 8 (q_rb M) V := z_Rl_lo hRl (fun b q => q_rb_o (by omega))
  have hh : ∀ N, z_hh (q_rb M) (m_hn V N) := fun N => z_hh0 hRl
  have he : ∀ N, m_end V 6401 (m_hn V N) := fun N => z_end R0 (hh N)
  have eb := z_bx_e hRl (y := b)
  have et := z_tht_e hRl (y := y)
  by_cases c1 : q_of M b 1 = 0
  · have c1V : m_bx V b = 0 := eb.trans c1
    exact z_op_re (k := 3) (v := -3) h (by omega) (fun d Q => (e_136 (d := d + 191) w).trans (by rw [if_pos c1])) (fun M d Q => (r_261 (d := d + 189) (n := 6401) hok.1 (by omega) (he _)).trans (by rw [if_pos c1V]))
  have hb := q_of_1.mp (show q_of M b 1 = 1 by have := q_of_01 (M := M) (t := b) (v := 1); omega)
  have c1V : ¬ m_bx V b = 0 := by rw [eb]; exact c1
  by_cases c2 : q_tht M y = 0
  · have c2V : m_th V y = 0 := et.trans c2
    exact z_op_re (k := 3) (v := -3) h (by omega) (fun d Q => (e_136 (d := d + 191) w).trans (by rw [if_neg c1, if_pos c2])) (fun M d Q => (r_261 (d := d + 189) (n := 6401) hok.1 (by omega) (he _)).trans (by rw [if_neg c1V, if_pos c2V]))
  have hy : 0 ≤ y ∧ y < 40 := by have := q_tht_01 (M := M) (t := y); omega
  have c2V : ¬ m_th V y = 0 := by rw [et]; exact c2
  by_cases c3 : ¬ (1 ≤ rt ∧ rt ≤ 15)
  · exact z_op_re (k := 7) (v := -7) h (by omega) (fun d Q => (e_136 (d := d + 191) w).trans (by rw [if_neg c1, if_neg c2, if_pos c3])) (fun M d Q => (r_261 (d := d + 189) (n := 6401) hok.1 (by omega) (he _)).trans (by rw [if_neg c1V, if_neg c2V, if_pos c3]))
  have hi : (40 * b + y).toNat < 1600 := by omega
  have ei : b * 40 + y = 40 * b + y := by omega
  have out : ∀ a, (a < 153 ∨ 156 < a) → q_whenM M (b * 40 + y).toNat rt a = M a := fun a q => by
    have := (z_fh (V := V) hi (rt := rt) 6401 0 (q_rb M) (m_hn V M) R0 (hh M)).2 a q
    show q_fhM (b * 40 + y).toNat rt 6401 1 (q_rb M) a = M a
    rw [ei, this, q_rb_o (by omega)]
  have val : q_when M (b * 40 + y).toNat rt = m_whR V (40 * b + y).toNat rt 6401 0 (m_hn V (q_whenM M (b * 40 + y).toNat rt)) := by
    have := (z_fh (V := V) hi (rt := rt) 6401 0 (q_rb M) (m_hn V (q_whenM M (b * 40 + y).toNat rt)) R0 (hh _)).1
    show q_fhR (b * 40 + y).toNat rt 6401 0 1 (q_rb M) = _
    rw [ei] at this ⊢
    exact this
  refine z_op_ch2 (v := q_when M (b * 40 + y).toNat rt) (M' := q_whenM M (b * 40 + y).toNat rt) (V' := V) h (fun X => m_whM V (40 * b + y).toNat rt 6401 (m_hn V X)) (fun a i q q2 => by rw [m_whM_o (by omega) (by omega), m_hn_o (by omega)]) (fun a q => out a (by omega)) (by rw [out 1 (by omega)]) m_cR_r (z_I_m (z_I_c h.1 (fun a q => out a (by omega))) (by omega)) (fun d Q => (e_136 (d := d + 191) w).trans (by rw [if_neg c1, if_neg c2, if_neg c3])) (fun d Q => (r_261 (d := d + 189) (n := 6401) hok.1 (by omega) (he _)).trans (by rw [if_neg c1V, if_neg c2V, if_neg c3, val]))

theorem z_o_show (h : z_JJ n M V) {k : Int} : z_op n x 138 262 [.inr (.inl 0), .inl k] [.inr (.inl 172), .inl k, .inr (.inr 0), .inr (.inr 0)] M V := by
  have hRl := h.1.1
  have w := hRl.1.1.1
  have hok := hRl.1.2.2.2.2.2.2.1
  have R0 : z_Rl 8 (q_rb M) V := z_Rl_lo hRl (fun b q => q_rb_o (by omega))
  have hh : ∀ N, z_hh (q_rb M) (m_hn V N) := fun N => z_hh0 hRl
  have he : ∀ N, m_end V 6401 (m_hn V N) := fun N => z_end R0 (hh N)
  have hW := hRl.1.2.2.2.2.2.2.2.2.2.2.2.2.1
  have hwA : ∀ u : Nat, (u : Int) < M 36 5 → (0 ≤ M 38 u ∧ M 38 u < 40) ∧ (0 ≤ M 39 u ∧ M 39 u < 40) := fun u hu => ⟨(hW.2.2 u hu).2.2.2.2.1, (hW.2.2 u hu).2.2.2.2.2.1⟩
  have hwV : ∀ u : Nat, (u : Int) < V 36 5 → (0 ≤ V 38 u ∧ V 38 u < 40) ∧ (0 ≤ V 39 u ∧ V 39 u < 40) := fun u hu => by
    rw [hW.1] at hu
    obtain ⟨-, -, q3, q4, q5, q6, -⟩ := hW.2.2 u hu
    rw [q3, q4]; exact ⟨q5, q6⟩
  by_cases c1 : ¬ (0 ≤ k ∧ k < M 36 5)
  · have c1V : ¬ (0 ≤ k ∧ k ≤ V 36 5 - 1) := by rw [hW.1]; omega
    exact z_op_re (k := 3) (v := -3) h (by omega) (fun d Q => (e_138 (d := d + 191) w hwA).trans (by rw [if_pos c1])) (fun M d Q => (r_262 (d := d + 189) (n := 6401) hok.1 (by omega) hwV (he _)).trans (by rw [if_pos c1V]))
  have c1V : ¬ ¬ (0 ≤ k ∧ k ≤ V 36 5 - 1) := by rw [hW.1]; omega
  obtain ⟨u, rfl⟩ : ∃ u : Nat, k = (u : Int) := ⟨k.toNat, by omega⟩
  have hu : (u : Int) < M 36 5 := by omega
  obtain ⟨-, -, q3, q4, q5, q6, -, q8, -⟩ := hW.2.2 u hu
  have sh : M 41 u = 0 ↔ m_shA V u = 1 := by
    rw [q8]
    unfold z_al m_shA m_th
    rw [q3, q4]
    by_cases g : V 210 (M 38 u).toNat = 1 ∧ V 210 (M 39 u).toNat = 1 ∧ V 211 (M 38 u).toNat = V 214 u ∧ V 211 (M 39 u).toNat = V 215 u
    · have p1 : (if 0 ≤ M 38 u ∧ M 38 u ≤ 39 ∧ V 210 (M 38 u).toNat = 1 then (1 : Int) else 0) = 1 := if_pos ⟨by omega, by omega, g.1⟩
      have p2 : (if 0 ≤ M 39 u ∧ M 39 u ≤ 39 ∧ V 210 (M 39 u).toNat = 1 then (1 : Int) else 0) = 1 := if_pos ⟨by omega, by omega, g.2.1⟩
      rw [if_pos ⟨p1, p2, g.2.2.1, g.2.2.2⟩]
      exact ⟨fun _ => rfl, fun _ => g⟩
    · rw [if_neg ?_]
      · exact ⟨fun q => absurd q g, fun q => by omega⟩
      · intro ⟨p1, p2, p3, p4⟩
        apply g
        refine ⟨?_, ?_, p3, p4⟩
        · split at p1
          · rename_i r; exact r.2.2
          · omega
        · split at p2
          · rename_i r; exact r.2.2
          · omega
  have s01 : m_shA V u = 0 ∨ m_shA V u = 1 := by unfold m_shA; split; exact Or.inr rfl; exact Or.inl rfl
  by_cases c2 : M 41 u ≠ 0
  · have c2V : m_shA V u = 0 := by
      rcases s01 with q | q
      · exact q
      · exact absurd (sh.mpr q) c2
    exact z_op_id (v := -1) h (fun d Q => (e_138 (d := d + 191) w hwA).trans (by rw [if_neg c1, Int.toNat_natCast, if_pos c2])) (fun M d Q => (r_262 (d := d + 189) (n := 6401) hok.1 (by omega) hwV (he _)).trans (by rw [if_neg c1V, Int.toNat_natCast, if_pos c2V]))
  have c2V : ¬ m_shA V u = 0 := by
    have : M 41 u = 0 := by omega
    have := sh.mp this
    omega
  have R36 : (u : Int) < q_rb M 36 5 := by rw [q_rb_o (by omega)]; exact hu
  have out : ∀ a, (a < 153 ∨ 156 < a) → q_showM M u a = M a := fun a q => by
    have := (z_fb (V := V) (u := u) 6401 0 (q_rb M) (m_hn V M) R0 (hh M) R36).2 a q
    show q_fbM u 6401 1 (q_rb M) a = M a
    rw [this, q_rb_o (by omega)]
  have val : q_show M u = m_shR V u 6401 0 (m_hn V (q_showM M u)) := (z_fb (V := V) (u := u) 6401 0 (q_rb M) (m_hn V (q_showM M u)) R0 (hh _) R36).1
  refine z_op_ch2 (v := q_show M u) (M' := q_showM M u) (V' := V) h (fun X => m_shM V u 6401 (m_hn V X)) (fun a i q q2 => by rw [m_shM_o (by omega) (by omega), m_hn_o (by omega)]) (fun a q => out a (by omega)) (by rw [out 1 (by omega)]) m_cR_r (z_I_m (z_I_c h.1 (fun a q => out a (by omega))) (by omega)) (fun d Q => (e_138 (d := d + 191) w hwA).trans (by rw [if_neg c1, Int.toNat_natCast, if_neg c2])) (fun d Q => (r_262 (d := d + 189) (n := 6401) hok.1 (by omega) hwV (he _)).trans (by rw [if_neg c1V, Int.toNat_natCast, if_neg c2V, val]))

end op10
