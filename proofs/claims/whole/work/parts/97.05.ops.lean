section op05
variable {A B C M N V W M' V' : mj_M} {x : Nat} {n m : Int}
/-- a loop over one row -/
theorem q_for_row {N : Nat} {F : Nat → mj_M → mj_M} {a o : Nat} {g : Nat → mj_M → Int} (hF : ∀ t A, t < N → F t A = mj_up A a (o + t) (g t A)) (hg : ∀ t A B, (∀ b, b ≠ a → B b = A b) → g t B = g t A) :
    ∀ (n t : Nat) (A : mj_M), t + n = N → (∀ b, b ≠ a → q_for F n t A b = A b) ∧ ∀ j, q_for F n t A a j = if o + t ≤ j ∧ j < o + N then g (j - o) A else A a j := by
  intro n
  induction n with
  | zero => intro t A h; exact ⟨fun _ _ => rfl, fun j => by rw [if_neg (by omega)]; rfl⟩
  | succ n ih =>
    intro t A h
    obtain ⟨i1, i2⟩ := ih (t + 1) (F t A) (by omega)
    have e1 : ∀ b, b ≠ a → F t A b = A b := fun b hb => by rw [hF t A (by omega), mj_up_ne hb]
    refine ⟨fun b hb => ?_, fun j => ?_⟩
    · rw [q_for, i1 b hb, e1 b hb]
    · rw [q_for, i2 j, hg (j - o) A (F t A) e1]
      have e2 : F t A a j = if j = o + t then g t A else A a j := by rw [hF t A (by omega), mj_up_at]
      rw [e2]
      by_cases c : j = o + t
      · rw [if_neg (by omega), if_pos c, if_pos (by omega), show j - o = t by omega]
      · rw [if_neg c]
        by_cases c2 : o + (t + 1) ≤ j ∧ j < o + N
        · rw [if_pos c2, if_pos (by omega)]
        · rw [if_neg c2, if_neg (by omega)]
theorem q_fill_at {a N : Nat} {v : Int} : (∀ b, b ≠ a → q_fill M a N v b = M b) ∧ ∀ j, q_fill M a N v a j = if j < N then v else M a j := by
  unfold q_fill mj_upr
  exact ⟨fun b hb => by rw [if_neg hb], fun j => by rw [if_pos rfl]⟩
theorem mj_cpy_at {a b s t N : Nat} : (∀ c, c ≠ b → mj_cpy M a b s t N c = M c) ∧ ∀ j, mj_cpy M a b s t N b j = if t ≤ j ∧ j < t + N then M a (s + (j - t)) else M b j := by
  unfold mj_cpy mj_upr
  exact ⟨fun c hc => by rw [if_neg hc], fun j => by rw [if_pos rfl]⟩
theorem z_hs (h : z_JJ n M V) : (∀ i : Nat, i < 4 → -1 ≤ M 168 i ∧ M 168 i ≤ 160) ∧ (∀ i : Nat, i < 4 → 0 ≤ M 182 i ∧ M 182 i ≤ 160) := by
  refine ⟨fun i hi => (h.2.2.2.1 i hi).1, fun i hi => ?_⟩
  obtain ⟨q1, -, q3, -⟩ := h.2.2.2.1 i hi
  rw [q3]; split <;> omega

/-- only the sheets change -/
theorem z_X_sh (h : z_X n M V) (l : n ≤ m) (hr : ∀ a, (a < 164 ∨ (168 < a ∧ a < 181) ∨ 183 < a) → a ≠ 173 → N a = M a)
    (hsh : ∀ i : Nat, i < 4 → (-1 ≤ N 168 i ∧ N 168 i ≤ 160) ∧ N 181 i = (if N 168 i = -1 then 0 else 1) ∧ N 182 i = (if N 168 i = -1 then 0 else N 168 i) ∧ ∀ j : Nat, j < 160 → N 183 (160 * i + j) = N (164 + i) j) (h0 : M 130 2 = 0) (h1 : ∀ k : Nat, k < 120 → M 131 k = 0) : z_X m N V := by
  obtain ⟨a1, a2, -, a4, a5, a8, a9, a10⟩ := h
  refine ⟨by rw [hr 1 (by omega) (by omega)]; exact a1, by rw [hr 174 (by omega) (by omega), hr 171 (by omega) (by omega)]; exact a2, hsh, ?_, ?_, ?_, ?_, ?_⟩
  · rw [hr 0 (by omega) (by omega), hr 172 (by omega) (by omega), hr 184 (by omega) (by omega), hr 169 (by omega) (by omega)]; exact a4
  · rw [hr 0 (by omega) (by omega), hr 172 (by omega) (by omega), hr 179 (by omega) (by omega), hr 170 (by omega) (by omega)]; exact a5
  · rw [hr 0 (by omega) (by omega)]; exact a8
  · rw [hr 0 (by omega) (by omega), hr 172 (by omega) (by omega)]; exact a9
  · rw [hr 0 (by omega) (by omega)]
    exact fun q => z_img_c (a10 q) l (fun a ha => hr a (by omega) (by omega)) (by rw [hr 130 (by omega) (by omega)]; exact h0) (by rw [hr 131 (by omega) (by omega)]; exact h1)

theorem z_o_sheet (h : z_JJ n M V) {k s : Int} : z_op n x 162 280 [.inr (.inl 0), .inl k, .inl s] [.inr (.inl 172), .inl k, .inl s, .inr (.inr 0)] M V := by
  have hRl := h.1.1
  have w := hRl.1.1.1
  have hok := hRl.1.2.2.2.2.2.2.1
  have hX := h.2
  obtain ⟨hs1, hs2⟩ := z_hs h
  by_cases cs : ¬ (0 ≤ k ∧ k < 4)
  · exact z_op_re (k := 3) (v := -3) h (by omega) (fun d Q => (e_162 (d := d + 191)).trans (by rw [if_pos cs])) (fun M d Q => (r_280 (d := d + 191)).trans (by rw [if_pos (by omega)]))
  have csV : ¬ ¬ (0 ≤ k ∧ k ≤ 3) := by omega
  obtain ⟨hk1, hk2, hk3, hk4⟩ := hX.2.2.1 k.toNat (by omega)
  by_cases c2 : s < -1
  · exact z_op_re (k := 4) (v := -4) h (by omega) (fun d Q => (e_162 (d := d + 191)).trans (by rw [if_neg cs, if_pos c2])) (fun M d Q => (r_280 (d := d + 191)).trans (by rw [if_neg csV, if_pos c2]))
  by_cases c3 : 160 < s
  · exact z_op_re (k := 7) (v := -7) h (by omega) (fun d Q => (e_162 (d := d + 191)).trans (by rw [if_neg cs, if_neg c2, if_pos c3])) (fun M d Q => (r_280 (d := d + 191)).trans (by rw [if_neg csV, if_neg c2, if_pos c3]))
  have f1 := fun (X : mj_M) => q_fill_at (M := X) (a := 164 + k.toNat) (N := 160) (v := 0)
  have f2 := fun (X : mj_M) => q_for_row (N := 160) (F := f_zs (160 * k)) (a := 183) (o := 160 * k.toNat) (g := fun _ _ => 0) (fun t A _ => by unfold f_zs; rw [show (160 * k + (t : Int)).toNat = 160 * k.toNat + t by omega]) (fun _ _ _ _ => rfl) 160 0 X rfl
  refine z_op_w (v := s) h (fun M => q_for (f_zs (160 * k)) 160 0 (mj_up (mj_up M 181 k.toNat (if s < 0 then 0 else 1)) 182 k.toNat (if s < 0 then 0 else s))) (q_fill (mj_up M 168 k.toNat s) (164 + k.toNat) 160 0)
    (fun a q => by rw [(f1 _).1 a (by omega), mj_up_ne (by omega)]) (fun a q => by rw [(f2 _).1 a (by omega), mj_up_ne (by omega), mj_up_ne (by omega)]) ?_
    (fun d Q => (e_162 (d := d + 191)).trans (by rw [if_neg cs, if_neg c2, if_neg c3])) (fun d Q => (r_280 (d := d + 191)).trans (by rw [if_neg csV, if_neg c2, if_neg c3]))
  generalize hM1 : q_fill (mj_up M 168 k.toNat s) (164 + k.toNat) 160 0 = M1
  have g1 : ∀ a, a ≠ 164 + k.toNat → a ≠ 168 → M1 a = M a := fun a h1 h2 => by rw [← hM1, (f1 _).1 a h1, mj_up_ne h2]
  have g2 : ∀ j, M1 168 j = if j = k.toNat then s else M 168 j := fun j => by rw [← hM1, (f1 _).1 168 (by omega), mj_up_at]
  have g3 : ∀ j, j < 160 → M1 (164 + k.toNat) j = 0 := fun j hj => by rw [← hM1, (f1 _).2 j, if_pos hj]
  have G1 : ∀ a, a ≠ 181 → a ≠ 182 → a ≠ 183 → q_for (f_zs (160 * k)) 160 0 (mj_up (mj_up M1 181 k.toNat (if s < 0 then 0 else 1)) 182 k.toNat (if s < 0 then 0 else s)) a = M1 a := fun a h1 h2 h3 => by rw [(f2 _).1 a h3, mj_up_ne h2, mj_up_ne h1]
  have G2 : ∀ j, q_for (f_zs (160 * k)) 160 0 (mj_up (mj_up M1 181 k.toNat (if s < 0 then 0 else 1)) 182 k.toNat (if s < 0 then 0 else s)) 181 j = if j = k.toNat then (if s < 0 then 0 else 1) else M 181 j := fun j => by
    rw [(f2 _).1 181 (by omega), mj_up_ne (by omega), mj_up_at, g1 181 (by omega) (by omega)]
  have G3 : ∀ j, q_for (f_zs (160 * k)) 160 0 (mj_up (mj_up M1 181 k.toNat (if s < 0 then 0 else 1)) 182 k.toNat (if s < 0 then 0 else s)) 182 j = if j = k.toNat then (if s < 0 then 0 else s) else M 182 j := fun j => by
    rw [(f2 _).1 182 (by omega), mj_up_at, mj_up_ne (by omega), g1 182 (by omega) (by omega)]
  have G4 : ∀ j, q_for (f_zs (160 * k)) 160 0 (mj_up (mj_up M1 181 k.toNat (if s < 0 then 0 else 1)) 182 k.toNat (if s < 0 then 0 else s)) 183 j = if 160 * k.toNat ≤ j ∧ j < 160 * k.toNat + 160 then 0 else M 183 j := fun j => by
    rw [(f2 _).2 j, mj_up_ne (show (183 : Nat) ≠ 182 by decide), mj_up_ne (show (183 : Nat) ≠ 181 by decide), g1 183 (by omega) (by omega), Nat.add_zero]
  generalize q_for (f_zs (160 * k)) 160 0 (mj_up (mj_up M1 181 k.toNat (if s < 0 then 0 else 1)) 182 k.toNat (if s < 0 then 0 else s)) = M2 at *
  refine z_X_sh hX (by omega) (fun a h1 h2 => ?_) ?_ (z_I_0 h.1).1 (z_I_0 h.1).2
  · rw [G1 a (by omega) (by omega) (by omega), g1 a (by omega) (by omega)]
  · intro i hi
    obtain ⟨q1, q2, q3, q4⟩ := hX.2.2.1 i hi
    rw [G1 168 (by omega) (by omega) (by omega), g2, G2, G3]
    by_cases c : i = k.toNat
    · rw [if_pos c, if_pos c, if_pos c]
      refine ⟨by omega, ?_, ?_, fun j hj => ?_⟩
      · by_cases c4 : s < 0
        · rw [if_pos c4, if_pos (by omega)]
        · rw [if_neg c4, if_neg (by omega)]
      · by_cases c4 : s < 0
        · rw [if_pos c4, if_pos (by omega)]
        · rw [if_neg c4, if_neg (by omega)]
      · rw [G4, if_pos (by omega), G1 (164 + i) (by omega) (by omega) (by omega), c, g3 j hj]
    · rw [if_neg c, if_neg c, if_neg c]
      refine ⟨q1, q2, q3, fun j hj => ?_⟩
      rw [G4, if_neg (by omega), G1 (164 + i) (by omega) (by omega) (by omega), g1 (164 + i) (by omega) (by omega)]
      exact q4 j hj

theorem z_o_set (h : z_JJ n M V) {k i v : Int} : z_op n x 163 281 [.inr (.inl 0), .inl k, .inl i, .inl v, .inr (.inr 0)] [.inr (.inl 172), .inl k, .inl i, .inl v, .inr (.inr 0)] M V := by
  have hRl := h.1.1
  have w := hRl.1.1.1
  have hok := hRl.1.2.2.2.2.2.2.1
  have hX := h.2
  obtain ⟨hs1, hs2⟩ := z_hs h
  by_cases cs : ¬ (0 ≤ k ∧ k < 4)
  · exact ⟨0, q_re M 3, V, fun M => q_rm M 3, x, fun d Q => (e_163 (d := d + 191) hs1).trans (by rw [if_pos cs]), fun d Q => (r_281 (d := d + 191) (by rw [q_re_ne (show (182 : Nat) ≠ 171 by decide)]; exact hs2)).trans (by rw [if_pos (by omega)]), q_re_ne (by omega), z_JJ_re h (by omega)⟩
  have csV : ¬ ¬ (0 ≤ k ∧ k ≤ 3) := by omega
  obtain ⟨hk1, hk2, hk3, hk4⟩ := hX.2.2.1 k.toNat (by omega)
  by_cases c2 : M 168 k.toNat = -1
  · have c2V : M 181 k.toNat = 0 := by rw [hk2, if_pos c2]
    exact ⟨0, q_re M 2, V, fun M => q_rm M 2, x, fun d Q => (e_163 (d := d + 191) hs1).trans (by rw [if_neg cs, if_pos c2]), fun d Q => (r_281 (d := d + 191) (by rw [q_re_ne (show (182 : Nat) ≠ 171 by decide)]; exact hs2)).trans (by rw [q_re_ne (show (181 : Nat) ≠ 171 by decide), if_neg csV, if_pos c2V]), q_re_ne (by omega), z_JJ_re h (by omega)⟩
  have c2V : ¬ M 181 k.toNat = 0 := by rw [hk2, if_neg c2]; omega
  have e182 : M 182 k.toNat = M 168 k.toNat := by rw [hk3, if_neg c2]
  by_cases c3 : i < 0
  · have c3V : ¬ (0 ≤ i ∧ i ≤ M 182 k.toNat - 1) := by omega
    exact ⟨0, q_re M 3, V, fun M => q_rm M 3, x, fun d Q => (e_163 (d := d + 191) hs1).trans (by rw [if_neg cs, if_neg c2, if_pos c3]), fun d Q => (r_281 (d := d + 191) (by rw [q_re_ne (show (182 : Nat) ≠ 171 by decide)]; exact hs2)).trans (by rw [q_re_ne (show (181 : Nat) ≠ 171 by decide), q_re_ne (show (182 : Nat) ≠ 171 by decide), if_neg csV, if_neg c2V, if_pos c3V]), q_re_ne (by omega), z_JJ_re h (by omega)⟩
  by_cases c4 : M 168 k.toNat ≤ i
  · have c3V : ¬ (0 ≤ i ∧ i ≤ M 182 k.toNat - 1) := by omega
    exact ⟨0, q_re M 3, V, fun M => q_rm M 3, x, fun d Q => (e_163 (d := d + 191) hs1).trans (by rw [if_neg cs, if_neg c2, if_neg c3, if_pos c4]), fun d Q => (r_281 (d := d + 191) (by rw [q_re_ne (show (182 : Nat) ≠ 171 by decide)]; exact hs2)).trans (by rw [q_re_ne (show (181 : Nat) ≠ 171 by decide), q_re_ne (show (182 : Nat) ≠ 171 by decide), if_neg csV, if_neg c2V, if_pos c3V]), q_re_ne (by omega), z_JJ_re h (by omega)⟩
  have c3V : ¬ ¬ (0 ≤ i ∧ i ≤ M 182 k.toNat - 1) := by omega
  have ei : (160 * k + i).toNat = 160 * k.toNat + i.toNat := by omega
  have ev := hk4 i.toNat (by omega)
  have n0 : ∀ a, a ≠ 164 + k.toNat → a ≠ 183 → mj_up (mj_up M (164 + k.toNat) i.toNat v) 183 (160 * k + i).toNat v a = M a := fun a q1 q2 => by rw [mj_up_ne q2, mj_up_ne q1]
  refine z_op_w (v := M (164 + k.toNat) i.toNat) h (fun M => mj_up M 183 (160 * k + i).toNat v) (mj_up M (164 + k.toNat) i.toNat v) (fun a q => mj_up_ne (by omega)) (fun a q => mj_up_ne (by omega)) ?_
    (fun d Q => (e_163 (d := d + 191) hs1).trans (by rw [if_neg cs, if_neg c2, if_neg c3, if_neg c4])) (fun d Q => (r_281 (d := d + 191) (by rw [mj_up_ne (by omega)]; exact hs2)).trans (by rw [mj_up_ne (show (181 : Nat) ≠ 164 + k.toNat by omega), mj_up_ne (show (182 : Nat) ≠ 164 + k.toNat by omega), if_neg csV, if_neg c2V, if_neg c3V, mj_up_ne (show (183 : Nat) ≠ 164 + k.toNat by omega), ei, ev]))
  refine z_X_sh hX (by omega) (fun a h1 h2 => n0 a (by omega) (by omega)) ?_ (z_I_0 h.1).1 (z_I_0 h.1).2
  intro i2 hi2
  obtain ⟨q1, q2, q3, q4⟩ := hX.2.2.1 i2 hi2
  rw [n0 168 (by omega) (by omega), n0 181 (by omega) (by omega), n0 182 (by omega) (by omega)]
  refine ⟨q1, q2, q3, fun j hj => ?_⟩
  have d1 : mj_up (mj_up M (164 + k.toNat) i.toNat v) 183 (160 * k + i).toNat v 183 (160 * i2 + j) = if 160 * i2 + j = (160 * k + i).toNat then v else M 183 (160 * i2 + j) := by rw [mj_up_at, mj_up_ne (by omega)]
  rw [d1, mj_up_ne (show 164 + i2 ≠ 183 by omega)]
  by_cases c : i2 = k.toNat
  · subst c
    rw [mj_up_at]
    by_cases c5 : j = i.toNat
    · rw [if_pos (by omega), if_pos c5]
    · rw [if_neg (by omega), if_neg c5]; exact q4 j hj
  · rw [if_neg (by omega), mj_up_ne (by omega)]; exact q4 j hj

theorem z_o_lay (h : z_JJ n M V) {k : Int} : z_op n x 164 282 [.inr (.inl 0), .inl k] [.inr (.inl 172), .inl k, .inr (.inr 0)] M V := by
  have hRl := h.1.1
  have w := hRl.1.1.1
  have hok := hRl.1.2.2.2.2.2.2.1
  have hX := h.2
  by_cases c1 : k < 0
  · exact z_op_re (k := 4) (v := -4) h (by omega) (fun d Q => (e_164 (d := d + 191)).trans (by rw [if_pos c1])) (fun M d Q => (r_282 (d := d + 191)).trans (by rw [if_pos c1]))
  by_cases c2 : 60 < k
  · exact z_op_re (k := 7) (v := -7) h (by omega) (fun d Q => (e_164 (d := d + 191)).trans (by rw [if_neg c1, if_pos c2])) (fun M d Q => (r_282 (d := d + 191)).trans (by rw [if_neg c1, if_pos c2]))
  have f1 := fun (X : mj_M) => q_fill_at (M := X) (a := 169) (N := 60) (v := 0)
  have f2 := fun (X : mj_M) => q_for_row (N := 60) (F := f_zr) (a := 184) (o := 0) (g := fun _ _ => 0) (fun t A _ => by unfold f_zr; rw [Nat.zero_add]) (fun _ _ _ _ => rfl) 60 0 X rfl
  refine z_op_w (v := k) h (fun M => mj_up (mj_up (q_for f_zr 60 0 M) 172 22 k) 172 23 1) (q_fill (mj_up M 0 14 k) 169 60 0) (fun a q => by rw [(f1 _).1 a (by omega), mj_up_ne (by omega)]) (fun a q => by rw [mj_up_ne (by omega), mj_up_ne (by omega), (f2 _).1 a (by omega)]) ?_
    (fun d Q => (e_164 (d := d + 191)).trans (by rw [if_neg c1, if_neg c2])) (fun d Q => (r_282 (d := d + 191)).trans (by rw [if_neg c1, if_neg c2]))
  generalize hM1 : q_fill (mj_up M 0 14 k) 169 60 0 = M1
  have g1 : ∀ a, a ≠ 169 → a ≠ 0 → M1 a = M a := fun a h1 h2 => by rw [← hM1, (f1 _).1 a h1, mj_up_ne h2]
  have g2 : ∀ j, M1 0 j = if j = 14 then k else M 0 j := fun j => by rw [← hM1, (f1 _).1 0 (by omega), mj_up_at]
  have g3 : ∀ j, j < 60 → M1 169 j = 0 := fun j hj => by rw [← hM1, (f1 _).2 j, if_pos hj]
  have G1 : ∀ a, a ≠ 172 → a ≠ 184 → mj_up (mj_up (q_for f_zr 60 0 M1) 172 22 k) 172 23 1 a = M1 a := fun a h1 h2 => by rw [mj_up_ne h1, mj_up_ne h1, (f2 _).1 a h2]
  have G2 : ∀ j, mj_up (mj_up (q_for f_zr 60 0 M1) 172 22 k) 172 23 1 172 j = if j = 23 then 1 else if j = 22 then k else M 172 j := fun j => by rw [mj_up_at, mj_up_at, (f2 _).1 172 (by omega), g1 172 (by omega) (by omega)]
  have G3 : ∀ j, j < 60 → mj_up (mj_up (q_for f_zr 60 0 M1) 172 22 k) 172 23 1 184 j = 0 := fun j hj => by rw [mj_up_ne (by omega), mj_up_ne (by omega), (f2 _).2 j, if_pos (by omega)]
  generalize mj_up (mj_up (q_for f_zr 60 0 M1) 172 22 k) 172 23 1 = M2 at *
  have m0 : ∀ j, M2 0 j = if j = 14 then k else M 0 j := fun j => by rw [G1 0 (by omega) (by omega), g2]
  refine z_X_w hX (by omega) (by rw [G1 1 (by omega) (by omega), g1 1 (by omega) (by omega)]) (fun a q => by rw [G1 a (by omega) (by omega), g1 a (by omega) (by omega)]) (by rw [m0, if_neg (by omega)]) (by rw [G2, if_neg (by omega), if_neg (by omega)]) ?_ ?_ (z_I_0 h.1).1 (z_I_0 h.1).2
  · rw [m0, if_pos rfl, G2, if_pos rfl, if_neg (show ¬ k = -1 by omega)]
    exact ⟨by omega, rfl, fun _ => by rw [G2, if_neg (by omega), if_pos rfl], fun j hj => by rw [G3 j hj, G1 169 (by omega) (by omega), g3 j hj]⟩
  · have t15 : M2 0 15 = M 0 15 := by rw [m0, if_neg (by omega)]
    have t9 : M2 172 9 = M 172 9 := by rw [G2, if_neg (by omega), if_neg (by omega)]
    rw [t15, t9, G1 179 (by omega) (by omega), G1 170 (by omega) (by omega), g1 179 (by omega) (by omega), g1 170 (by omega) (by omega)]
    exact hX.2.2.2.2.1

theorem z_o_copy (h : z_JJ n M V) {k i j s : Int} (hn : -2147483648 ≤ s ∧ s < 2147483648) : z_op n x 168 286 [.inr (.inl 0), .inl k, .inl i, .inl j, .inl s] [.inr (.inl 172), .inl k, .inl i, .inl j, .inl s, .inr (.inr 0)] M V := by
  have hRl := h.1.1
  have w := hRl.1.1.1
  have hok := hRl.1.2.2.2.2.2.2.1
  have hX := h.2
  have hrec := hX.2.2.2.1
  have hs0 : M 172 23 ≠ 0 → 0 ≤ M 172 22 ∧ M 172 22 ≤ 60 := by
    intro q
    rw [hrec.2.1] at q
    have c : M 0 14 ≠ -1 := fun g => q (by rw [if_pos g])
    rw [hrec.2.2.1 c]; omega
  obtain ⟨hs1, hs2⟩ := z_hs h
  by_cases cs : ¬ (0 ≤ k ∧ k < 4)
  · exact ⟨-3, q_re M 3, V, fun M => q_rm M 3, x, fun d Q => (e_168 (d := d + 191) hs1 hrec.1 hn).trans (by rw [if_pos cs]), fun d Q => (r_286 (d := d + 191) (by rw [q_re_ne (show (182 : Nat) ≠ 171 by decide)]; exact hs2) (by rw [q_re_ne (show (172 : Nat) ≠ 171 by decide)]; exact hs0) hn).trans (by rw [if_pos (by omega)]), q_re_ne (by omega), z_JJ_re h (by omega)⟩
  have csV : ¬ ¬ (0 ≤ k ∧ k ≤ 3) := by omega
  obtain ⟨hk1, hk2, hk3, hk4⟩ := hX.2.2.1 k.toNat (by omega)
  by_cases c2 : M 168 k.toNat = -1
  · have c2V : M 181 k.toNat = 0 := by rw [hk2, if_pos c2]
    exact ⟨-2, q_re M 2, V, fun M => q_rm M 2, x, fun d Q => (e_168 (d := d + 191) hs1 hrec.1 hn).trans (by rw [if_neg cs, if_pos c2]), fun d Q => (r_286 (d := d + 191) (by rw [q_re_ne (show (182 : Nat) ≠ 171 by decide)]; exact hs2) (by rw [q_re_ne (show (172 : Nat) ≠ 171 by decide)]; exact hs0) hn).trans (by rw [q_re_ne (show (181 : Nat) ≠ 171 by decide), if_neg csV, if_pos c2V]), q_re_ne (by omega), z_JJ_re h (by omega)⟩
  have c2V : ¬ M 181 k.toNat = 0 := by rw [hk2, if_neg c2]; omega
  have e182 : M 182 k.toNat = M 168 k.toNat := by rw [hk3, if_neg c2]
  by_cases c3 : M 0 14 = -1
  · have c3V : M 172 23 = 0 := by rw [hrec.2.1, if_pos c3]
    exact ⟨-2, q_re M 2, V, fun M => q_rm M 2, x, fun d Q => (e_168 (d := d + 191) hs1 hrec.1 hn).trans (by rw [if_neg cs, if_neg c2, if_pos c3]), fun d Q => (r_286 (d := d + 191) (by rw [q_re_ne (show (182 : Nat) ≠ 171 by decide)]; exact hs2) (by rw [q_re_ne (show (172 : Nat) ≠ 171 by decide)]; exact hs0) hn).trans (by rw [q_re_ne (show (181 : Nat) ≠ 171 by decide), q_re_ne (show (172 : Nat) ≠ 171 by decide), if_neg csV, if_neg c2V, if_pos c3V]), q_re_ne (by omega), z_JJ_re h (by omega)⟩
  have c3V : ¬ M 172 23 = 0 := by rw [hrec.2.1, if_neg c3]; omega
  have e22 := hrec.2.2.1 c3
  by_cases c4 : s < 0
  · exact ⟨-4, q_re M 4, V, fun M => q_rm M 4, x, fun d Q => (e_168 (d := d + 191) hs1 hrec.1 hn).trans (by rw [if_neg cs, if_neg c2, if_neg c3, if_pos c4]), fun d Q => (r_286 (d := d + 191) (by rw [q_re_ne (show (182 : Nat) ≠ 171 by decide)]; exact hs2) (by rw [q_re_ne (show (172 : Nat) ≠ 171 by decide)]; exact hs0) hn).trans (by rw [q_re_ne (show (181 : Nat) ≠ 171 by decide), q_re_ne (show (172 : Nat) ≠ 171 by decide), q_re_ne (show (182 : Nat) ≠ 171 by decide), if_neg csV, if_neg c2V, if_neg c3V, if_pos c4]), q_re_ne (by omega), z_JJ_re h (by omega)⟩
  by_cases c5 : i < 0
  · exact ⟨-6, q_re M 6, V, fun M => q_rm M 6, x, fun d Q => (e_168 (d := d + 191) hs1 hrec.1 hn).trans (by rw [if_neg cs, if_neg c2, if_neg c3, if_neg c4, if_pos c5]), fun d Q => (r_286 (d := d + 191) (by rw [q_re_ne (show (182 : Nat) ≠ 171 by decide)]; exact hs2) (by rw [q_re_ne (show (172 : Nat) ≠ 171 by decide)]; exact hs0) hn).trans (by rw [q_re_ne (show (181 : Nat) ≠ 171 by decide), q_re_ne (show (172 : Nat) ≠ 171 by decide), q_re_ne (show (182 : Nat) ≠ 171 by decide), if_neg csV, if_neg c2V, if_neg c3V, if_neg c4, if_pos c5]), q_re_ne (by omega), z_JJ_re h (by omega)⟩
  by_cases c6 : j < 0
  · exact ⟨-6, q_re M 6, V, fun M => q_rm M 6, x, fun d Q => (e_168 (d := d + 191) hs1 hrec.1 hn).trans (by rw [if_neg cs, if_neg c2, if_neg c3, if_neg c4, if_neg c5, if_pos c6]), fun d Q => (r_286 (d := d + 191) (by rw [q_re_ne (show (182 : Nat) ≠ 171 by decide)]; exact hs2) (by rw [q_re_ne (show (172 : Nat) ≠ 171 by decide)]; exact hs0) hn).trans (by rw [q_re_ne (show (181 : Nat) ≠ 171 by decide), q_re_ne (show (172 : Nat) ≠ 171 by decide), q_re_ne (show (182 : Nat) ≠ 171 by decide), if_neg csV, if_neg c2V, if_neg c3V, if_neg c4, if_neg c5, if_pos c6]), q_re_ne (by omega), z_JJ_re h (by omega)⟩
  by_cases c7 : M 168 k.toNat - s < i
  · exact ⟨-6, q_re M 6, V, fun M => q_rm M 6, x, fun d Q => (e_168 (d := d + 191) hs1 hrec.1 hn).trans (by rw [if_neg cs, if_neg c2, if_neg c3, if_neg c4, if_neg c5, if_neg c6, if_pos c7]), fun d Q => (r_286 (d := d + 191) (by rw [q_re_ne (show (182 : Nat) ≠ 171 by decide)]; exact hs2) (by rw [q_re_ne (show (172 : Nat) ≠ 171 by decide)]; exact hs0) hn).trans (by rw [q_re_ne (show (181 : Nat) ≠ 171 by decide), q_re_ne (show (172 : Nat) ≠ 171 by decide), q_re_ne (show (182 : Nat) ≠ 171 by decide), if_neg csV, if_neg c2V, if_neg c3V, if_neg c4, if_neg c5, if_neg c6, if_pos (by rw [e182]; exact c7)]), q_re_ne (by omega), z_JJ_re h (by omega)⟩
  have c7V : ¬ M 182 k.toNat - s < i := by rw [e182]; exact c7
  by_cases c8 : M 0 14 - s < j
  · exact ⟨-6, q_re M 6, V, fun M => q_rm M 6, x, fun d Q => (e_168 (d := d + 191) hs1 hrec.1 hn).trans (by rw [if_neg cs, if_neg c2, if_neg c3, if_neg c4, if_neg c5, if_neg c6, if_neg c7, if_pos c8]), fun d Q => (r_286 (d := d + 191) (by rw [q_re_ne (show (182 : Nat) ≠ 171 by decide)]; exact hs2) (by rw [q_re_ne (show (172 : Nat) ≠ 171 by decide)]; exact hs0) hn).trans (by rw [q_re_ne (show (181 : Nat) ≠ 171 by decide), q_re_ne (show (172 : Nat) ≠ 171 by decide), q_re_ne (show (182 : Nat) ≠ 171 by decide), if_neg csV, if_neg c2V, if_neg c3V, if_neg c4, if_neg c5, if_neg c6, if_neg c7V, if_pos (by rw [e22]; exact c8)]), q_re_ne (by omega), z_JJ_re h (by omega)⟩
  have c8V : ¬ M 172 22 - s < j := by rw [e22]; exact c8
  have f1 := fun (X : mj_M) => mj_cpy_at (M := X) (a := 164 + k.toNat) (b := 169) (s := i.toNat) (t := j.toNat) (N := s.toNat)
  have f2 := fun (X : mj_M) => q_for_row (N := s.toNat) (F := f_cr (160 * k + i) j) (a := 184) (o := j.toNat) (g := fun t A => A 183 (160 * k.toNat + i.toNat + t)) (fun t A _ => by unfold f_cr; rw [show (j + (t : Int)).toNat = j.toNat + t by omega, show (160 * k + i + (t : Int)).toNat = 160 * k.toNat + i.toNat + t by omega]) (fun t A B hb => by show B 183 _ = A 183 _; rw [hb 183 (by omega)]) s.toNat 0 X (by omega)
  refine z_op_w (v := s) h (fun M => q_for (f_cr (160 * k + i) j) s.toNat 0 M) (mj_cpy M (164 + k.toNat) 169 i.toNat j.toNat s.toNat) (fun a q => (f1 _).1 a (by omega)) (fun a q => (f2 _).1 a (by omega)) ?_
    (fun d Q => (e_168 (d := d + 191) hs1 hrec.1 hn).trans (by rw [if_neg cs, if_neg c2, if_neg c3, if_neg c4, if_neg c5, if_neg c6, if_neg c7, if_neg c8]))
    (fun d Q => (r_286 (d := d + 191) (by rw [(f1 M).1 182 (by omega)]; exact hs2) (by rw [(f1 M).1 172 (by omega)]; exact hs0) hn).trans (by rw [(f1 M).1 181 (by omega), (f1 M).1 172 (by omega), (f1 M).1 182 (by omega), if_neg csV, if_neg c2V, if_neg c3V, if_neg c4, if_neg c5, if_neg c6, if_neg c7V, if_neg c8V]))
  generalize hM1 : mj_cpy M (164 + k.toNat) 169 i.toNat j.toNat s.toNat = M1
  have g1 : ∀ a, a ≠ 169 → M1 a = M a := fun a h1 => by rw [← hM1, (f1 _).1 a h1]
  have g3 : ∀ q, M1 169 q = if j.toNat ≤ q ∧ q < j.toNat + s.toNat then M (164 + k.toNat) (i.toNat + (q - j.toNat)) else M 169 q := fun q => by rw [← hM1, (f1 _).2 q]
  have G1 : ∀ a, a ≠ 184 → q_for (f_cr (160 * k + i) j) s.toNat 0 M1 a = M1 a := fun a h1 => (f2 _).1 a h1
  have G2 : ∀ q, q_for (f_cr (160 * k + i) j) s.toNat 0 M1 184 q = if j.toNat ≤ q ∧ q < j.toNat + s.toNat then M 183 (160 * k.toNat + i.toNat + (q - j.toNat)) else M 184 q := fun q => by rw [(f2 _).2 q, g1 183 (by omega), g1 184 (by omega), Nat.add_zero]
  show z_X (n + 1000) (q_for (f_cr (160 * k + i) j) s.toNat 0 M1) V
  generalize q_for (f_cr (160 * k + i) j) s.toNat 0 M1 = M2 at *
  refine z_X_w hX (by omega) (by rw [G1 1 (by omega), g1 1 (by omega)]) (fun a q => by rw [G1 a (by omega), g1 a (by omega)]) (by rw [G1 0 (by omega), g1 0 (by omega)]) (by rw [G1 172 (by omega), g1 172 (by omega)]) ?_ ?_ (z_I_0 h.1).1 (z_I_0 h.1).2
  · rw [G1 0 (by omega), g1 0 (by omega), G1 172 (by omega), g1 172 (by omega)]
    refine ⟨hrec.1, hrec.2.1, hrec.2.2.1, fun q hq => ?_⟩
    rw [G2, G1 169 (by omega), g3]
    by_cases c : j.toNat ≤ q ∧ q < j.toNat + s.toNat
    · rw [if_pos c, if_pos c, Nat.add_assoc]
      exact hk4 _ (by omega)
    · rw [if_neg c, if_neg c]; exact hrec.2.2.2 q hq
  · rw [G1 0 (by omega), g1 0 (by omega), G1 172 (by omega), g1 172 (by omega), G1 179 (by omega), g1 179 (by omega), G1 170 (by omega), g1 170 (by omega)]
    exact hX.2.2.2.2.1

end op05
