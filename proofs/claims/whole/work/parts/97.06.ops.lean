section op06
variable {A B C M N V W M' V' : mj_M} {x : Nat} {n m : Int}
theorem q_in_S {a i : Nat} (h : q_in a i) (ha : a < 44) : q_inS a i = true := by
  unfold q_in at h
  rcases h with ⟨h1, h2, h3⟩ | ⟨h1, h2, h3⟩ | ⟨h1, h3⟩ | ⟨rfl, rfl⟩ | ⟨h1, h2, h3⟩ | ⟨rfl, h3⟩ | ⟨rfl, rfl⟩ | ⟨h1, h2, h3⟩ | ⟨rfl, h3⟩ | ⟨rfl, h3⟩ | ⟨rfl, h1, h2⟩ | ⟨h1, h3⟩
  · rcases (show a = 3 ∨ a = 4 ∨ a = 5 ∨ a = 6 ∨ a = 7 ∨ a = 8 ∨ a = 9 ∨ a = 10 ∨ a = 11 ∨ a = 12 by omega) with rfl | rfl | rfl | rfl | rfl | rfl | rfl | rfl | rfl | rfl <;> (unfold q_inS q_regs q_inR; simp <;> omega)
  · rcases (show a = 14 ∨ a = 15 ∨ a = 16 ∨ a = 17 ∨ a = 18 ∨ a = 19 by omega) with rfl | rfl | rfl | rfl | rfl | rfl <;> (unfold q_inS q_regs q_inR; simp <;> omega)
  · rcases h1 with rfl | rfl <;> (unfold q_inS q_regs q_inR; simp <;> omega)
  · decide
  · rcases (show a = 23 ∨ a = 24 ∨ a = 25 ∨ a = 26 ∨ a = 27 ∨ a = 28 ∨ a = 29 ∨ a = 30 ∨ a = 31 ∨ a = 32 ∨ a = 33 ∨ a = 34 by omega) with rfl | rfl | rfl | rfl | rfl | rfl | rfl | rfl | rfl | rfl | rfl | rfl <;> (unfold q_inS q_regs q_inR; simp <;> omega)
  · unfold q_inS q_regs q_inR; simp <;> omega
  · decide
  · rcases (show a = 37 ∨ a = 38 ∨ a = 39 ∨ a = 40 ∨ a = 41 by omega) with rfl | rfl | rfl | rfl | rfl <;> (unfold q_inS q_regs q_inR; simp <;> omega)
  · unfold q_inS q_regs q_inR; simp <;> omega
  · unfold q_inS q_regs q_inR; simp <;> omega
  · rcases (show i = 6 ∨ i = 7 ∨ i = 8 ∨ i = 9 ∨ i = 10 ∨ i = 11 by omega) with rfl | rfl | rfl | rfl | rfl | rfl <;> decide
  · omega
/-- a copy of the state -/
theorem q_tfS_in {s t a i : Nat} (hs : s + 43 ≤ t ∨ t + 43 ≤ s) (h : q_in a i) (ha : a < 44) : q_tfS s t M (t + a) i = M (s + a) i := by
  rw [q_tfS_at hs, if_pos ⟨by omega, by rw [show t + a - t = a by omega]; exact q_in_S h ha⟩, show t + a - t = a by omega]
theorem q_tfS_row {s t b : Nat} (hs : s + 43 ≤ t ∨ t + 43 ≤ s) (h : b < t + 1 ∨ t + 43 < b) : q_tfS s t M b = M b := by
  funext i
  rw [q_tfS_at hs, if_neg]
  rintro ⟨h1, h2⟩
  by_cases c : b = t
  · subst c
    rw [Nat.sub_self] at h2
    unfold q_inS q_regs q_inR at h2
    simp at h2
  · rw [q_inS_big (by omega)] at h2
    exact absurd h2 (by decide)
theorem v_enc_up {t k : Nat} {u : Int} : v_enc (mj_up V (v_dec t).1 (v_dec t).2 u) k = if k = t then u else v_enc V k := by
  unfold v_enc mj_up
  by_cases c : k = t
  · subst c; simp
  · rw [if_neg c]
    by_cases h1 : (v_dec k).1 = (v_dec t).1
    · rw [if_pos h1]
      by_cases h2 : (v_dec k).2 = (v_dec t).2
      · exact absurd (v_dec_inj (Prod.ext h1 h2)) c
      · rw [if_neg h2, h1]
    · rw [if_neg h1]
theorem v_enc_bk {N : Nat} : ∀ (n t : Nat) (V : mj_M), t + n = N → ∀ k, v_enc (q_for (f_bk M) n t V) k = if t ≤ k ∧ k < N then M 180 k else v_enc V k := by
  intro n
  induction n with
  | zero => intro t V h k; rw [if_neg (by omega)]; rfl
  | succ n ih =>
    intro t V h k
    rw [q_for, ih (t + 1) _ (by omega) k]
    unfold f_bk
    rw [v_enc_up]
    by_cases c : k = t
    · rw [if_neg (by omega), if_pos c, if_pos (by omega), c]
    · rw [if_neg c]
      by_cases c2 : t + 1 ≤ k ∧ k < N
      · rw [if_pos c2, if_pos (by omega)]
      · rw [if_neg c2, if_neg (by omega)]
theorem v_st_enc (h : v_enc V = v_enc W) : v_st V M = v_st W M := by unfold v_st; rw [h]
theorem v_enc_hi {k : Nat} (h : 6172 ≤ k) : v_enc V k = V 217 k := by
  unfold v_enc v_dec
  rw [if_neg (by omega), if_neg (by omega), if_neg (by omega), if_neg (by omega), if_neg (by omega), if_neg (by omega)]

theorem z_o_image (h : z_JJ n M V) {zz : Int} : z_op n x 160 278 [.inr (.inl 0)] [.inr (.inl 172), .inr (.inr 0)] M V := by
  have hRl := h.1.1
  have w := hRl.1.1.1
  have hok := hRl.1.2.2.2.2.2.2.1
  have hX := h.2
  have g17 := (z_Rl_1 hRl).2.1
  have T1 : ∀ b, b < 44 ∨ 86 < b → q_tfS 0 43 M b = M b := fun b hb => q_tfS_row (by omega) (by omega)
  have f2 := fun (X : mj_M) => q_for_row (N := 6172) (F := f_im V) (a := 180) (o := 0) (g := fun t _ => v_enc V t) (fun t A _ => by unfold f_im; rw [Nat.zero_add]) (fun _ _ _ _ => rfl) 6172 0 X rfl
  have hm1 : ∀ (X : mj_M) d Q, mj_Rn (d + 200) 278 0 [.inr (.inl 172), .inr (.inr 0)] [] (SGx x) (v_st V X) Q = Q (some (.inl (V 1 7))) (SGx x) (v_st V (mj_up (q_for (f_im V) 6172 0 X) 172 17 1)) := fun X d Q => r_278 (d := d + 191)
  generalize hM1 : mj_up (q_tfS 0 43 M) 0 16 1 = M1
  have g1 : ∀ a, (0 < a ∧ a < 44) ∨ 86 < a → M1 a = M a := fun a ha => by rw [← hM1, mj_up_ne (by omega), T1 a (by omega)]
  have g2 : ∀ j, M1 0 j = if j = 16 then 1 else M 0 j := fun j => by rw [← hM1, mj_up_at, T1 0 (by omega)]
  have g3 : ∀ a i, q_in a i → a < 44 → M1 (a + 43) i = M a i := fun a i q ha => by
    have h1 : 1 ≤ a := by unfold q_in at q; omega
    rw [← hM1, mj_up_ne (by omega), show a + 43 = 43 + a by omega, q_tfS_in (by omega) q ha, show 0 + a = a by omega]
  have G1 : ∀ a, a ≠ 172 → a ≠ 180 → mj_up (q_for (f_im V) 6172 0 M1) 172 17 1 a = M1 a := fun a h1 h2 => by rw [mj_up_ne h1, (f2 _).1 a h2]
  have G2 : ∀ j, mj_up (q_for (f_im V) 6172 0 M1) 172 17 1 172 j = if j = 17 then 1 else M 172 j := fun j => by rw [mj_up_at, (f2 _).1 172 (by omega), g1 172 (by omega)]
  have G3 : ∀ j, j < 6172 → mj_up (q_for (f_im V) 6172 0 M1) 172 17 1 180 j = v_enc V j := fun j hj => by rw [mj_up_ne (by omega), (f2 _).2 j, if_pos (by omega), Nat.sub_zero]
  refine ⟨M 1 7, M1, V, fun M => mj_up (q_for (f_im V) 6172 0 M) 172 17 1, x, fun d Q => (e_160 (d := d + 191)).trans (by rw [hM1, T1 1 (by omega)]), fun d Q => (hm1 M1 d Q).trans (by rw [g17]), g1 173 (by omega), ?_, ?_⟩
  · show z_I (n + 1000) (mj_up (q_for (f_im V) 6172 0 M1) 172 17 1) V
    generalize mj_up (q_for (f_im V) 6172 0 M1) 172 17 1 = M2 at *
    refine z_I_pt (z_I_m h.1 (by omega)) (fun a i q => ?_) ?_ ?_
    · have : (0 < a ∧ a < 44) ∨ 86 < a := by unfold q_in at q; omega
      rw [G1 a (by unfold q_in at q; omega) (by unfold q_in at q; omega), g1 a this]
    · rw [G1 130 (by omega) (by omega), g1 130 (by omega)]; exact (z_I_0 h.1).1
    · rw [G1 131 (by omega) (by omega), g1 131 (by omega)]; exact (z_I_0 h.1).2
  · show z_X (n + 1000) (mj_up (q_for (f_im V) 6172 0 M1) 172 17 1) V
    generalize mj_up (q_for (f_im V) 6172 0 M1) 172 17 1 = M2 at *
    have H : ∀ a, (0 < a ∧ a < 44) ∨ (86 < a ∧ a ≠ 172 ∧ a ≠ 180) → M2 a = M a := fun a ha => by rw [G1 a (by omega) (by omega), g1 a (by omega)]
    have H0 : ∀ j, M2 0 j = if j = 16 then 1 else M 0 j := fun j => by rw [G1 0 (by omega) (by omega), g2]
    have t14 : M2 0 14 = M 0 14 := by rw [H0, if_neg (by omega)]
    have t15 : M2 0 15 = M 0 15 := by rw [H0, if_neg (by omega)]
    have t16 : M2 0 16 = 1 := by rw [H0, if_pos rfl]
    have u17 : M2 172 17 = 1 := by rw [G2, if_pos rfl]
    have u9 : M2 172 9 = M 172 9 := by rw [G2, if_neg (by omega)]
    have u22 : M2 172 22 = M 172 22 := by rw [G2, if_neg (by omega)]
    have u23 : M2 172 23 = M 172 23 := by rw [G2, if_neg (by omega)]
    obtain ⟨a1, a2, a3, a4, a5, a8, a9, a10⟩ := hX
    refine ⟨by rw [H 1 (by omega)]; exact a1, by rw [H 174 (by omega), H 171 (by omega)]; exact a2, ?_, ?_, ?_, ?_, ?_, ?_⟩
    · intro i hi
      rw [H 168 (by omega), H 181 (by omega), H 182 (by omega), H 183 (by omega), H (164 + i) (by omega)]
      exact a3 i hi
    · rw [t14, u23, u22, H 184 (by omega), H 169 (by omega)]; exact a4
    · rw [t15, u9, H 179 (by omega), H 170 (by omega)]; exact a5
    · rw [t16]; exact Or.inr rfl
    · rw [u17, t16]
    · intro _
      refine ⟨V, a1.2.2, G3, ?_, ?_, ?_⟩
      · refine z_I_pt (z_I_m h.1 (by omega)) (fun a i q => ?_) ?_ ?_
        · by_cases c : a < 44
          · rw [z_sh_lo c, G1 (a + 43) (by omega) (by omega), g3 a i q c]
          · rw [z_sh_hi (by omega), H a (by unfold q_in at q; omega)]
        · rw [z_sh_hi (by omega), H 130 (by omega)]; exact (z_I_0 h.1).1
        · intro k hk; rw [z_sh_hi (by omega), H 131 (by omega)]; exact (z_I_0 h.1).2 k hk
      · rw [G1 44 (by omega) (by omega), g3 1 9 (by unfold q_in; omega) (by omega)]; exact a1.1
      · rw [G1 44 (by omega) (by omega), g3 1 9 (by unfold q_in; omega) (by omega)]; exact a1.2.1

theorem z_o_back (h : z_JJ n M V) {zz : Int} : z_op n x 161 279 [.inr (.inl 0)] [.inr (.inl 172), .inr (.inr 0)] M V := by
  have hRl := h.1.1
  have w := hRl.1.1.1
  have hok := hRl.1.2.2.2.2.2.2.1
  obtain ⟨a1, a2, a3, a4, a5, a8, a9, a10⟩ := h.2
  by_cases c1 : M 0 16 = 0
  · have c1V : M 172 17 = 0 := a9.trans c1
    exact ⟨-2, q_re M 2, V, fun M => q_rm M 2, x, fun d Q => (e_161 (d := d + 191)).trans (by rw [if_pos c1]), fun d Q => (r_279 (d := d + 191)).trans (by rw [q_re_ne (show (172 : Nat) ≠ 171 by decide), if_pos c1V]), q_re_ne (by omega), z_JJ_re h (by omega)⟩
  have c1V : ¬ M 172 17 = 0 := by rw [a9]; exact c1
  obtain ⟨W, w1, w2, w3, w4, w5⟩ := a10 (by omega)
  have T1 : ∀ b, b < 1 ∨ 43 < b → q_tfS 43 0 M b = M b := fun b hb => q_tfS_row (by omega) (by omega)
  have T2 : ∀ a i, q_in a i → a < 44 → q_tfS 43 0 M a i = M (a + 43) i := fun a i q ha => by
    have := q_tfS_in (M := M) (s := 43) (t := 0) (by omega) q ha
    rw [Nat.zero_add] at this
    rw [this, Nat.add_comm]
  have eE : v_enc (q_for (f_bk (q_tfS 43 0 M)) 6172 0 V) = v_enc W := by
    funext k
    rw [v_enc_bk 6172 0 V rfl k]
    by_cases c : k < 6172
    · rw [if_pos (by omega), T1 180 (by omega), w2 k c]
    · rw [if_neg (by omega), v_enc_hi (by omega), v_enc_hi (by omega), w1, a1.2.2]
  have e17 : q_for (f_bk (q_tfS 43 0 M)) 6172 0 V 1 7 = q_tfS 43 0 M 1 7 := by
    have h0 := congrFun eE 0
    have g17 := (z_Rl_1 w3.1).2.1
    rw [T2 1 7 (by unfold q_in; omega) (by omega)]
    have l : v_enc (q_for (f_bk (q_tfS 43 0 M)) 6172 0 V) 0 = q_for (f_bk (q_tfS 43 0 M)) 6172 0 V 1 7 := rfl
    have r : v_enc W 0 = W 1 7 := rfl
    rw [← l, h0, r, g17, z_sh_lo (by omega)]
  have hI : z_I (n + 1000) (q_tfS 43 0 M) W := by
    refine z_I_pt (z_I_m w3 (by omega)) (fun a i q => ?_) ?_ ?_
    · by_cases c : a < 44
      · rw [T2 a i q c, z_sh_lo c]
      · rw [T1 a (by omega), z_sh_hi (by omega)]
    · rw [T1 130 (by omega)]; exact (z_I_0 h.1).1
    · rw [T1 131 (by omega)]; exact (z_I_0 h.1).2
  refine ⟨q_tfS 43 0 M 1 7, q_tfS 43 0 M, W, fun M => M, x, fun d Q => (e_161 (d := d + 191)).trans (by rw [if_neg c1]), fun d Q => (r_279 (d := d + 191)).trans (by rw [T1 172 (by omega), if_neg c1V, e17, v_st_enc eE]), T1 173 (by omega), hI, ?_⟩
  show z_X (n + 1000) (q_tfS 43 0 M) W
  have e9 : q_tfS 43 0 M 1 9 = M 44 9 := T2 1 9 (by unfold q_in; omega) (by omega)
  refine ⟨⟨by rw [e9]; exact w4, by rw [e9]; exact w5, w1⟩, by rw [T1 174 (by omega), T1 171 (by omega)]; exact a2, ?_, ?_, ?_, ?_, ?_, ?_⟩
  · intro i hi
    rw [T1 168 (by omega), T1 181 (by omega), T1 182 (by omega), T1 183 (by omega), T1 (164 + i) (by omega)]
    exact a3 i hi
  · rw [T1 0 (by omega), T1 172 (by omega), T1 184 (by omega), T1 169 (by omega)]; exact a4
  · rw [T1 0 (by omega), T1 172 (by omega), T1 179 (by omega), T1 170 (by omega)]; exact a5
  · rw [T1 0 (by omega)]; exact a8
  · rw [T1 0 (by omega), T1 172 (by omega)]; exact a9
  · rw [T1 0 (by omega)]
    exact fun q => z_img_c (a10 q) (by omega) (fun a ha => T1 a (by omega)) (z_I_0 hI).1 (z_I_0 hI).2

theorem q_fd_at {f : Int → Int} : ∀ (k : Nat) (M : mj_M), 0 ≤ M 0 15 → (∀ b, b ≠ 170 → b ≠ 0 → q_fd f k M b = M b) ∧ (∀ j, j ≠ 15 → q_fd f k M 0 j = M 0 j) ∧ q_fd f k M 0 15 = M 0 15 + k ∧
    ∀ j : Nat, q_fd f k M 170 j = if M 0 15 ≤ j ∧ (j : Int) < M 0 15 + k then f ((k : Int) - 1 - (j - M 0 15)) else M 170 j := by
  intro k
  induction k with
  | zero => intro M h; exact ⟨fun _ _ _ => rfl, fun _ _ => rfl, by rw [Int.natCast_zero, Int.add_zero]; rfl, fun j => by rw [if_neg (by omega)]; rfl⟩
  | succ k ih =>
    intro M h
    have e15 : mj_up (mj_up M 170 (M 0 15).toNat (f (k : Int))) 0 15 (M 0 15 + 1) 0 15 = M 0 15 + 1 := by rw [mj_up_at, if_pos rfl]
    obtain ⟨i1, i2, i3, i4⟩ := ih (mj_up (mj_up M 170 (M 0 15).toNat (f (k : Int))) 0 15 (M 0 15 + 1)) (by rw [e15]; omega)
    rw [e15] at i3 i4
    refine ⟨fun b h1 h2 => ?_, fun j hj => ?_, ?_, fun j => ?_⟩
    · rw [q_fd, i1 b h1 h2, mj_up_ne h2, mj_up_ne h1]
    · rw [q_fd, i2 j hj, mj_up_at, if_neg hj, mj_up_ne (by omega)]
    · rw [q_fd, i3]; omega
    · rw [q_fd, i4 j, mj_up_ne (show (170 : Nat) ≠ 0 by decide), mj_up_at]
      by_cases c : (j : Int) = M 0 15
      · rw [if_neg (by omega), if_pos (by omega), if_pos (by omega), show ((k + 1 : Nat) : Int) - 1 - ((j : Int) - M 0 15) = (k : Int) by omega]
      · rw [if_neg (show ¬ j = (M 0 15).toNat by omega)]
        by_cases c2 : M 0 15 + 1 ≤ (j : Int) ∧ (j : Int) < M 0 15 + 1 + k
        · rw [if_pos c2, if_pos (by omega), show (k : Int) - 1 - ((j : Int) - (M 0 15 + 1)) = ((k + 1 : Nat) : Int) - 1 - ((j : Int) - M 0 15) by omega]
        · rw [if_neg c2, if_neg (by omega)]
theorem q_fdm_at {f : Int → Int} : ∀ (k : Nat) (M : mj_M), 0 ≤ M 172 9 → (∀ b, b ≠ 179 → b ≠ 172 → q_fdm f k M b = M b) ∧ (∀ j, j ≠ 9 → q_fdm f k M 172 j = M 172 j) ∧ q_fdm f k M 172 9 = M 172 9 + k ∧
    ∀ j : Nat, q_fdm f k M 179 j = if M 172 9 ≤ j ∧ (j : Int) < M 172 9 + k then f ((k : Int) - 1 - (j - M 172 9)) else M 179 j := by
  intro k
  induction k with
  | zero => intro M h; exact ⟨fun _ _ _ => rfl, fun _ _ => rfl, by rw [Int.natCast_zero, Int.add_zero]; rfl, fun j => by rw [if_neg (by omega)]; rfl⟩
  | succ k ih =>
    intro M h
    have e15 : mj_up (mj_up M 179 (M 172 9).toNat (f (k : Int))) 172 9 (M 172 9 + 1) 172 9 = M 172 9 + 1 := by rw [mj_up_at, if_pos rfl]
    obtain ⟨i1, i2, i3, i4⟩ := ih (mj_up (mj_up M 179 (M 172 9).toNat (f (k : Int))) 172 9 (M 172 9 + 1)) (by rw [e15]; omega)
    rw [e15] at i3 i4
    refine ⟨fun b h1 h2 => ?_, fun j hj => ?_, ?_, fun j => ?_⟩
    · rw [q_fdm, i1 b h1 h2, mj_up_ne h2, mj_up_ne h1]
    · rw [q_fdm, i2 j hj, mj_up_at, if_neg hj, mj_up_ne (by omega)]
    · rw [q_fdm, i3]; omega
    · rw [q_fdm, i4 j, mj_up_ne (show (179 : Nat) ≠ 172 by decide), mj_up_at]
      by_cases c : (j : Int) = M 172 9
      · rw [if_neg (by omega), if_pos (by omega), if_pos (by omega), show ((k + 1 : Nat) : Int) - 1 - ((j : Int) - M 172 9) = (k : Int) by omega]
      · rw [if_neg (show ¬ j = (M 172 9).toNat by omega)]
        by_cases c2 : M 172 9 + 1 ≤ (j : Int) ∧ (j : Int) < M 172 9 + 1 + k
        · rw [if_pos c2, if_pos (by omega), show (k : Int) - 1 - ((j : Int) - (M 172 9 + 1)) = ((k + 1 : Nat) : Int) - 1 - ((j : Int) - M 172 9) by omega]
        · rw [if_neg c2, if_neg (by omega)]
theorem q_bits {s : Nat} (hs : s ≤ 24) (c : BitVec 32) : (c >>> s) &&& 255#32 = (c.sshiftRight s) &&& 255#32 := by
  have h255 : ∀ i : Nat, i < 32 → (255#32).getLsbD i = decide (i < 8) := by decide
  apply BitVec.eq_of_getLsbD_eq
  intro i hi
  rw [BitVec.getLsbD_and, BitVec.getLsbD_and, h255 i hi]
  by_cases h : i < 8
  · rw [BitVec.getLsbD_ushiftRight, BitVec.getLsbD_sshiftRight]
    have h1 : s + i < 32 := by omega
    have h2 : ¬ 32 ≤ i := by omega
    simp [h1, h2, h]
  · simp [h]
theorem q_fd_eq {b i : Int} (h : 0 ≤ i ∧ i ≤ 3) : q_fdf b i = q_fdg b i := by
  unfold q_fdf q_fdg mj_and mj_ushr mj_shr
  simp only [Int32.ofInt_toInt]
  generalize Int32.ofInt b = c
  rcases (show i = 0 ∨ i = 1 ∨ i = 2 ∨ i = 3 by omega) with rfl | rfl | rfl | rfl
  · congr 1
    apply Int32.toBitVec_inj.mp
    exact q_bits (s := 0) (by omega) c.toBitVec
  · congr 1
    apply Int32.toBitVec_inj.mp
    exact q_bits (s := 8) (by omega) c.toBitVec
  · congr 1
    apply Int32.toBitVec_inj.mp
    exact q_bits (s := 16) (by omega) c.toBitVec
  · congr 1
    apply Int32.toBitVec_inj.mp
    exact q_bits (s := 24) (by omega) c.toBitVec

theorem z_o_feed (h : z_JJ n M V) {k s : Int} (hs : -2147483648 ≤ s ∧ s < 2147483648) : z_op n x 141 265 [.inr (.inl 0), .inl k, .inl s, .inr (.inr 0)] [.inr (.inl 172), .inl k, .inl s, .inr (.inr 0)] M V := by
  have hRl := h.1.1
  have w := hRl.1.1.1
  have hok := hRl.1.2.2.2.2.2.2.1
  obtain ⟨a1, a2, a3, a4, a5, a8, a9, a10⟩ := h.2
  have hv : 0 ≤ M 172 9 ∧ M 172 9 ≤ 160 := by rw [a5.2.1]; exact a5.1
  have hvr : ∀ N : mj_M, N 172 9 = M 172 9 → 0 ≤ N 172 9 ∧ N 172 9 ≤ 160 := fun N e => by rw [e]; exact hv
  by_cases c1 : s < 0
  · exact ⟨-4, q_re M 4, V, fun M => q_rm M 4, x, fun d Q => (e_141 (d := d + 191) a5.1 hs).trans (by rw [if_pos c1]), fun d Q => (r_265 (d := d + 191) (hvr _ (by rw [q_re_ne (by omega)])) hs).trans (by rw [if_pos c1]), q_re_ne (by omega), z_JJ_re h (by omega)⟩
  by_cases c2 : 4 < s
  · exact ⟨-7, q_re M 7, V, fun M => q_rm M 7, x, fun d Q => (e_141 (d := d + 191) a5.1 hs).trans (by rw [if_neg c1, if_pos c2]), fun d Q => (r_265 (d := d + 191) (hvr _ (by rw [q_re_ne (by omega)])) hs).trans (by rw [if_neg c1, if_pos c2]), q_re_ne (by omega), z_JJ_re h (by omega)⟩
  by_cases c3 : 160 < M 0 15 + s
  · have c3V : 160 < M 172 9 + s := by rw [a5.2.1]; exact c3
    exact ⟨-8, q_re M 8, V, fun M => q_rm M 8, x, fun d Q => (e_141 (d := d + 191) a5.1 hs).trans (by rw [if_neg c1, if_neg c2, if_pos c3]), fun d Q => (r_265 (d := d + 191) (hvr _ (by rw [q_re_ne (by omega)])) hs).trans (by rw [q_re_ne (show (172 : Nat) ≠ 171 by decide), if_neg c1, if_neg c2, if_pos c3V]), q_re_ne (by omega), z_JJ_re h (by omega)⟩
  obtain ⟨f1, f2, f3, f4⟩ := q_fd_at (f := q_fdf k) s.toNat M a5.1.1
  have e9 : q_fd (q_fdf k) s.toNat M 172 9 = M 0 15 := by rw [f1 172 (by omega) (by omega)]; exact a5.2.1
  obtain ⟨g1, g2, g3, g4⟩ := q_fdm_at (f := q_fdg k) s.toNat (q_fd (q_fdf k) s.toNat M) (by rw [e9]; exact a5.1.1)
  have c3V : ¬ 160 < q_fd (q_fdf k) s.toNat M 172 9 + s := by rw [e9]; exact c3
  have ev : q_fdm (q_fdg k) s.toNat (q_fd (q_fdf k) s.toNat M) 172 9 = q_fd (q_fdf k) s.toNat M 0 15 := by rw [g3, e9, f3]
  refine z_op_w (v := q_fd (q_fdf k) s.toNat M 0 15) h (fun M => q_fdm (q_fdg k) s.toNat M) (q_fd (q_fdf k) s.toNat M) (fun a q => f1 a (by omega) (by omega)) (fun a q => g1 a (by omega) (by omega)) ?_
    (fun d Q => (e_141 (d := d + 191) a5.1 hs).trans (by rw [if_neg c1, if_neg c2, if_neg c3])) (fun d Q => (r_265 (d := d + 191) (by rw [e9]; exact a5.1) hs).trans (by rw [if_neg c1, if_neg c2, if_neg c3V, ev]))
  show z_X (n + 1000) (q_fdm (q_fdg k) s.toNat (q_fd (q_fdf k) s.toNat M)) V
  generalize hM1 : q_fd (q_fdf k) s.toNat M = M1 at *
  generalize hM2 : q_fdm (q_fdg k) s.toNat M1 = M2 at *
  refine z_X_w h.2 (by omega) (by rw [g1 1 (by omega) (by omega), f1 1 (by omega) (by omega)]) (fun a q => by rw [g1 a (by omega) (by omega), f1 a (by omega) (by omega)]) (by rw [g1 0 (by omega) (by omega), f2 16 (by omega)]) (by rw [g2 17 (by omega), f1 172 (by omega) (by omega)]) ?_ ?_ (z_I_0 h.1).1 (z_I_0 h.1).2
  · rw [g1 0 (by omega) (by omega), f2 14 (by omega), g2 23 (by omega), g2 22 (by omega), f1 172 (by omega) (by omega), g1 184 (by omega) (by omega), f1 184 (by omega) (by omega), g1 169 (by omega) (by omega), f1 169 (by omega) (by omega)]
    exact a4
  · rw [ev, g1 0 (by omega) (by omega), f3]
    refine ⟨by omega, rfl, fun j hj => ?_⟩
    rw [g4 j, e9, g1 170 (by omega) (by omega), f4 j, f1 179 (by omega) (by omega)]
    by_cases c : M 0 15 ≤ (j : Int) ∧ (j : Int) < M 0 15 + (s.toNat : Int)
    · rw [if_pos c, if_pos c, q_fd_eq (by omega)]
    · rw [if_neg c, if_neg c]; exact a5.2.2 j hj

end op06
