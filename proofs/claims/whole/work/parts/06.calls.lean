def mj_tswP (pc : Nat) : List Int → Int → Int → Int → (Nat → Prop) → Prop
  | [], _, _, d, W => W (mj_tgt pc d)
  | o :: t, lo, x, d, W => (x = lo → W (mj_tgt pc o)) ∧ (¬ x = lo → mj_tswP pc t (lo + 1) x d W)
def mj_lswP (pc : Nat) : List (Int × Int) → Int → Int → (Nat → Prop) → Prop
  | [], _, d, W => W (mj_tgt pc d)
  | (a, o) :: t, x, d, W => (x = a → W (mj_tgt pc o)) ∧ (¬ x = a → mj_lswP pc t x d W)
theorem mj_tsw_P {pc : Nat} {W : Nat → Prop} {d x : Int} : ∀ (l : List Int) (lo : Int), W (mj_tgt pc (mj_tsw l lo x d)) = mj_tswP pc l lo x d W := by
  intro l
  induction l with
  | nil => intro lo; rfl
  | cons o t ih =>
    intro lo
    unfold mj_tsw mj_tswP
    by_cases h : x = lo
    · simp [h]
    · simp [h, ih]
theorem mj_lsw_P {pc : Nat} {W : Nat → Prop} {d x : Int} : ∀ (l : List (Int × Int)), W (mj_tgt pc (mj_lsw l x d)) = mj_lswP pc l x d W := by
  intro l
  induction l with
  | nil => rfl
  | cons q t ih =>
    obtain ⟨a, o⟩ := q
    unfold mj_lsw mj_lswP
    by_cases h : x = a
    · simp [h]
    · simp [h, ih]
section calls
variable {d k pc n : Nat} {L st : List mj_V} {G : mj_G} {M : mj_M} {Q : Option mj_V → mj_G → mj_M → Prop} {x y z c off : Int} {a b j : Nat}
theorem op_tsw {df lo hi : Int} {offs : Array Int} (h : mj_code k pc = some (.tableswitch df lo hi offs, n)) : mj_Rn d k pc L (.inl x :: st) G M Q = mj_tswP pc offs.toList lo x df fun t => mj_Rn d k t L st G M Q :=
  (op_go h rfl).trans (mj_tsw_P (W := fun t => mj_Rn d k t L st G M Q) offs.toList lo)
theorem op_lsw {df : Int} {ps : Array (Int × Int)} (h : mj_code k pc = some (.lookupswitch df ps, n)) : mj_Rn d k pc L (.inl x :: st) G M Q = mj_lswP pc ps.toList x df fun t => mj_Rn d k t L st G M Q :=
  (op_go h rfl).trans (mj_lsw_P (W := fun t => mj_Rn d k t L st G M Q) ps.toList)
def mj_isInv (i : Instr) (idx : Nat) : Prop := i = .invokestatic idx ∨ i = .invokevirtual idx ∨ i = .invokespecial idx
theorem mj_inv_st {i : Instr} {idx : Nat} (hi : mj_isInv i idx) {st : List mj_V} : mj_step k pc L st G M i n = mj_call k L st G M pc idx (mj_pool (mj_oc k) idx) := by
  rcases hi with rfl | rfl | rfl <;> rfl
theorem op_callS {i : Instr} {idx k' m na : Nat} {as E : List mj_V} (hi : mj_isInv i idx) (h : mj_code k pc = some (i, n)) (hq : mj_pool (mj_oc k) idx = (k', 1)) (hk : (mj_kd k', mj_na k', mj_ml k') = (1, na, m)) (hna : as.length = na) (hl : as.all (fun v => !mj_lng v) = true) (he : as ++ List.replicate (m - as.length) (.inr (.inr 0)) = E) :
    mj_Rn (d + 1) k pc L (as.reverse ++ st) G M Q = (mj_wt st ≤ 8 ∧ mj_Rn d k' 0 E [] G M fun r G' M' => mj_Rn (d + 1) k (pc + 3) L (r.toList ++ st) G' M' Q) := by
  subst hna
  have h1 : mj_kd k' = 1 := congrArg (fun q => q.1) hk
  have h2 : mj_na k' = as.length := congrArg (fun q => q.2.1) hk
  have h3 : mj_ml k' = m := congrArg (fun q => q.2.2) hk
  have t1 : (as.reverse ++ st).take as.length = as.reverse := by rw [← List.length_reverse (as := as)]; exact List.take_left
  have t2 : (as.reverse ++ st).drop as.length = st := by rw [← List.length_reverse (as := as)]; exact List.drop_left
  rw [mj_Rn_eq, mj_st1, h]; dsimp only; rw [mj_inv_st hi, hq]; unfold mj_call
  rw [if_neg (by dsimp only; omega), if_neg (by dsimp only; omega), if_neg (by dsimp only; omega), if_neg (by dsimp only; omega), h1, h2, t1, t2]
  by_cases hs : mj_wt st ≤ 8
  · rw [if_pos ⟨by dsimp only; omega, Or.inl rfl, by simp, hs, by simpa using hl⟩, if_pos rfl, List.reverse_reverse]
    have e : mj_ent k' as = E := by rw [← he, ← h3]; rfl
    simp only [mj_pr, e, hs, true_and]
  · rw [if_neg (fun q => hs q.2.2.2.1)]
    simp [mj_pr, hs]
theorem op_callV {i : Instr} {idx k' kd m ci na : Nat} {as E : List mj_V} (hi : mj_isInv i idx) (h : mj_code k pc = some (i, n)) (hq : mj_pool (mj_oc k) idx = (k', kd)) (hkd : kd = 0 ∨ kd = 2 ∨ kd = 3) (hk : ((if kd = 3 then 2 else kd), mj_na k', mj_ml k', mj_oc k') = (mj_kd k', na, m, ci)) (hna : as.length + 1 = na) (hl : as.all (fun v => !mj_lng v) = true) (he : .inr (.inl a) :: as ++ List.replicate (m - (as.length + 1)) (.inr (.inr 0)) = E) :
    mj_Rn (d + 1) k pc L (as.reverse ++ .inr (.inl a) :: st) G M Q = (mj_wt st ≤ 8 ∧ mj_isO G a ci = true ∧ mj_Rn d k' 0 E [] G M fun r G' M' => mj_Rn (d + 1) k (pc + 3) L (r.toList ++ st) G' M' Q) := by
  subst hna
  have h2 : mj_na k' = as.length + 1 := congrArg (fun q => q.2.1) hk
  have h3 : mj_ml k' = m := congrArg (fun q => q.2.2.1) hk
  have h4 : mj_oc k' = ci := congrArg (fun q => q.2.2.2) hk
  have h1 : (if kd = 3 then 2 else kd) = mj_kd k' := congrArg (fun q => q.1) hk
  have e0 : as.reverse ++ .inr (.inl a) :: st = (.inr (.inl a) :: as).reverse ++ st := by simp
  have t1 : ((.inr (.inl a) :: as).reverse ++ st : List mj_V).take (as.length + 1) = (.inr (.inl a) :: as).reverse := by
    have : as.length + 1 = ((.inr (.inl a) :: as : List mj_V).reverse).length := by simp
    rw [this]; exact List.take_left
  have t2 : ((.inr (.inl a) :: as).reverse ++ st : List mj_V).drop (as.length + 1) = st := by
    have : as.length + 1 = ((.inr (.inl a) :: as : List mj_V).reverse).length := by simp
    rw [this]; exact List.drop_left
  rw [e0, mj_Rn_eq, mj_st1, h]; dsimp only; rw [mj_inv_st hi, hq]; unfold mj_call
  rw [if_neg (by dsimp only; omega), if_neg (by dsimp only; omega), if_neg (by dsimp only; omega), if_neg (by dsimp only; omega), h2, t1, t2]
  by_cases hs : mj_wt st ≤ 8
  · have g1 : kd = mj_kd k' ∨ kd = 3 ∧ mj_kd k' = 2 := by
      by_cases h5 : kd = 3
      · rw [if_pos h5] at h1; exact Or.inr ⟨h5, h1.symm⟩
      · rw [if_neg h5] at h1; exact Or.inl h1
    rw [if_pos ⟨by dsimp only; omega, g1, by simp, hs, by simpa [mj_lng] using hl⟩, if_neg (by dsimp only; omega), List.reverse_reverse]
    dsimp only
    rw [h4]
    have e : mj_ent k' (.inr (.inl a) :: as) = E := by rw [← he, ← h3]; rfl
    by_cases ho : mj_isO G a ci = true
    · rw [if_pos ho]; simp only [mj_pr, e, hs, true_and, ho]
    · rw [if_neg ho]; simp [mj_pr, ho]
  · rw [if_neg (fun q => hs q.2.2.2.1)]
    simp [mj_pr, hs]
theorem op_objI {i : Instr} {idx : Nat} (hi : mj_isInv i idx) (h : mj_code k pc = some (i, n)) (hq : mj_pool (mj_oc k) idx = (0, 9)) : mj_Rn d k pc L (.inr (.inl a) :: st) G M Q = (mj_wt st ≤ 8 ∧ mj_Rn d k (pc + 3) L st G M Q) := by
  rw [mj_Rn_eq, mj_st1, h]; dsimp only; rw [mj_inv_st hi, hq]; unfold mj_call
  rw [if_pos rfl]
  by_cases hs : mj_wt st ≤ 8 <;> simp [hs, mj_pr, mj_nx]
theorem op_copy {i : Instr} {idx : Nat} (hi : mj_isInv i idx) (h : mj_code k pc = some (i, n)) (hq : mj_pool (mj_oc k) idx = (0, 4)) : mj_Rn d k pc L (.inl z :: .inl y :: .inr (.inl b) :: .inl x :: .inr (.inl a) :: st) G M Q = (∃ la, mj_ty G .int a = some la ∧ ∃ lb, mj_ty G .int b = some lb ∧ (0 ≤ x ∧ 0 ≤ y ∧ 0 ≤ z ∧ x + z ≤ la ∧ y + z ≤ lb ∧ mj_wt st ≤ 8) ∧ mj_Rn d k (pc + 3) L st G (mj_cpy M a b x.toNat y.toNat z.toNat) Q) := by
  rw [mj_Rn_eq, mj_st1, h]; dsimp only; rw [mj_inv_st hi, hq]; unfold mj_call
  rw [if_neg (by decide), if_pos rfl]
  dsimp only
  cases mj_ty G .int a with
  | none => simp [mj_pr]
  | some la =>
    cases mj_ty G .int b with
    | none => simp [mj_pr]
    | some lb => by_cases hs : 0 ≤ x ∧ 0 ≤ y ∧ 0 ≤ z ∧ x + z ≤ (la : Int) ∧ y + z ≤ (lb : Int) ∧ mj_wt st ≤ 8 <;> simp [hs, mj_pr, mj_nx]
theorem op_slen {i : Instr} {idx : Nat} (hi : mj_isInv i idx) (h : mj_code k pc = some (i, n)) (hq : mj_pool (mj_oc k) idx = (0, 5)) : mj_Rn d k pc L (.inr (.inl a) :: st) G M Q = ((9010 ≤ a ∧ a < 9014 ∧ mj_wt st ≤ 8) ∧ mj_Rn d k (pc + 3) L (.inl (mj_slen.getD (a - 9010) 0) :: st) G M Q) := by
  rw [mj_Rn_eq, mj_st1, h]; dsimp only; rw [mj_inv_st hi, hq]; unfold mj_call
  rw [if_neg (by decide), if_neg (by decide), if_pos rfl]
  by_cases hs : 9010 ≤ a ∧ a < 9014 ∧ mj_wt st ≤ 8 <;> simp [hs, mj_pr, mj_nx]
theorem op_schr {i : Instr} {idx : Nat} (hi : mj_isInv i idx) (h : mj_code k pc = some (i, n)) (hq : mj_pool (mj_oc k) idx = (0, 6)) : mj_Rn d k pc L (.inl x :: .inr (.inl a) :: st) G M Q = ((9010 ≤ a ∧ a < 9014 ∧ 0 ≤ x ∧ x < mj_slen.getD (a - 9010) 0 ∧ mj_wt st ≤ 8) ∧ mj_Rn d k (pc + 3) L (.inl ((mj_schr.getD (a - 9010) []).getD x.toNat 0) :: st) G M Q) := by
  rw [mj_Rn_eq, mj_st1, h]; dsimp only; rw [mj_inv_st hi, hq]; unfold mj_call
  rw [if_neg (by decide), if_neg (by decide), if_neg (by decide), if_pos rfl]
  dsimp only
  by_cases hs : 9010 ≤ a ∧ a < 9014 ∧ 0 ≤ x ∧ x < ((mj_slen.getD (a - 9010) 0 : Nat) : Int) ∧ mj_wt st ≤ 8
  · rw [if_pos hs]; exact propext ⟨fun q => ⟨hs, q⟩, fun q => q.2⟩
  · rw [if_neg hs]; exact propext ⟨fun q => q.elim, fun q => hs q.1⟩
end calls
