section ini
variable {n s : Nat} {ρ : Nat → Nat → Nat} {M : mj_M} {d : Nat} {Q : Option mj_V → mj_G → mj_M → Prop}
/-! the two constructors -/
def sgD (a : Nat) : mj_D := sg_d.getD a (.inl 0)
def sgR (a j : Nat) : Nat := (SGx 162).2.2.2 a j
theorem sg_162 : SGx 162 = (185, 51662, sgD, sgR) := rfl
/-- of the row a only what L names is set -/
def cP (ρ : Nat → Nat → Nat) (a : Nat) (L : List Nat) : Nat → Nat → Nat := fun b j => if b = a then (if j ∈ L then ρ a j else 9999) else ρ b j
theorem cP_ne {a b : Nat} {L : List Nat} (h : b ≠ a) : cP ρ a L b = ρ b := by funext j; unfold cP; rw [if_neg h]
theorem cP_in {a j : Nat} {L : List Nat} (h : j ∈ L) : cP ρ a L a j = ρ a j := by unfold cP; rw [if_pos rfl, if_pos h]
theorem cP_all {a : Nat} {L : List Nat} (h : ∀ j, j ∉ L → ρ a j = 9999) : cP ρ a L = ρ := by
  funext b j
  unfold cP
  by_cases c : b = a
  · subst c
    rw [if_pos rfl]
    by_cases c2 : j ∈ L
    · rw [if_pos c2]
    · rw [if_neg c2, h j c2]
  · rw [if_neg c]
theorem cU {a j b : Nat} {L : List Nat} (h : ρ a j = b) : mj_upP (cP ρ a L) a j b = cP ρ a (j :: L) := by
  funext c i
  unfold mj_upP cP
  by_cases e : c = a
  · rw [if_pos e, if_pos e]
    by_cases e2 : i = j
    · subst e2; rw [if_pos rfl, if_pos List.mem_cons_self, h]
    · rw [if_neg e2, if_pos rfl]
      by_cases e3 : i ∈ L
      · rw [if_pos e3, if_pos (List.mem_cons_of_mem _ e3)]
      · rw [if_neg e3, if_neg (fun q => (List.mem_cons.mp q).elim e2 e3)]
  · rw [if_neg e, if_neg e, if_neg e]
theorem cN {ci : Nat} (h : sgD n = .inl ci) : mj_new (n, s, sgD, ρ) ci = (n + 1, s + mj_nf ci, sgD, cP ρ n []) := by
  unfold mj_new
  refine congrArg (Prod.mk (n + 1)) (congrArg (Prod.mk (s + mj_nf ci)) (congr (congrArg Prod.mk ?_) ?_))
  · funext a
    by_cases c : a = n
    · rw [if_pos c, c, h]
    · rw [if_neg c]
  · funext a j
    unfold cP
    by_cases c : a = n
    · simp [c]
    · simp [c]
theorem cA {ty : FieldType} {k : Nat} (h : sgD n = .inr (ty, k)) : mj_newA (n, s, sgD, ρ) ty k = (n + 1, s + k, sgD, ρ) := by
  unfold mj_newA
  refine congrArg (Prod.mk (n + 1)) (congrArg (Prod.mk (s + k)) (congrArg (fun f => Prod.mk f ρ) ?_))
  funext a
  by_cases c : a = n
  · rw [if_pos c, c, h]
  · rw [if_neg c]
theorem cA2 {k m : Nat} (h : sgD n = .inr (.array .int, k)) (h2 : ∀ a, n < a → a ≤ n + k → sgD a = .inr (.int, m)) (h3 : ∀ j, ρ n j = n + 1 + j) : mj_newM (n, s, sgD, ρ) k m = (n + 1 + k, s + k + k * m, sgD, ρ) := by
  unfold mj_newM
  refine congrArg (Prod.mk (n + 1 + k)) (congrArg (Prod.mk (s + k + k * m)) (congr (congrArg Prod.mk ?_) ?_))
  · funext a
    by_cases c : a = n
    · rw [if_pos c, c, h]
    · rw [if_neg c]
      by_cases c2 : n < a ∧ a ≤ n + k
      · rw [if_pos c2, h2 a c2.1 c2.2]
      · rw [if_neg c2]
  · funext a
    by_cases c : a = n
    · rw [if_pos c, c]; funext j; exact (h3 j).symm
    · rw [if_neg c]
theorem cZ {b : Nat} (h : M b = fun _ => 0) : mj_upr M b (fun _ => 0) = M := by
  funext a
  unfold mj_upr
  by_cases c : a = b
  · rw [if_pos c, c, h]
  · rw [if_neg c]
theorem cZ2 {k : Nat} (h : ∀ b, n ≤ b → b ≤ n + k → M b = fun _ => 0) : mj_newMM (n, s, sgD, ρ) k M = M := by
  funext a
  unfold mj_newMM
  by_cases c : n ≤ a ∧ a ≤ n + k
  · rw [if_pos c, h a c.1 c.2]
  · rw [if_neg c]
theorem cO {a ci : Nat} (h : a < n) (hd : sgD a = .inl ci) : mj_isO (n, s, sgD, ρ) a ci = true := by
  unfold mj_isO
  rw [decide_eq_true h]
  show (match sgD a with | .inl c => c == ci | _ => false) = true
  rw [hd]
  simp
theorem cT {a k : Nat} {ty : FieldType} (h : a < n) (hd : sgD a = .inr (ty, k)) : mj_ty (n, s, sgD, ρ) ty a = some k := by
  unfold mj_ty
  rw [if_pos h]
  show (match sgD a with | .inr (t, m) => if t = ty then some m else none | _ => none) = some k
  rw [hd]
  simp
theorem cI {a k : Nat} (h : a < n) (hd : sgD a = .inr (.int, k)) : mj_ai (n, s, sgD, ρ) M a = some k := by
  unfold mj_ai
  rw [if_pos h]
  show (match sgD a with | .inr (.int, m) => some m | _ => none) = some k
  rw [hd]
theorem row_all {row L : List Nat} (h1 : ∀ j, j < row.length → j ∉ L → row.getD j 9999 = 9999) : ∀ j, j ∉ L → row.getD j 9999 = 9999 := by
  intro j hj
  by_cases c : j < row.length
  · exact h1 j c hj
  · rw [List.getD_eq_getElem?_getD, List.getElem?_eq_none (by omega)]; rfl
theorem q_fill_ne {a N b : Nat} {v : Int} (h : b ≠ a) : q_fill M a N v b = M b := q_fill_at.1 b h
end ini
section ini2
variable {n s : Nat} {ρ : Nat → Nat → Nat} {M : mj_M}
theorem cN_0 : mj_new (0, s, sgD, ρ) 0 = (1, s + 17, sgD, cP ρ 0 []) := cN rfl
theorem cO_0 (h : 0 < n) : mj_isO (n, s, sgD, ρ) 0 0 = true := cO h rfl
theorem cN_1 : mj_new (1, s, sgD, ρ) 1 = (2, s + 12, sgD, cP ρ 1 []) := cN rfl
theorem cO_1 (h : 1 < n) : mj_isO (n, s, sgD, ρ) 1 1 = true := cO h rfl
theorem cN_2 : mj_new (2, s, sgD, ρ) 2 = (3, s + 10, sgD, cP ρ 2 []) := cN rfl
theorem cO_2 (h : 2 < n) : mj_isO (n, s, sgD, ρ) 2 2 = true := cO h rfl
theorem cA_3 : mj_newA (3, s, sgD, ρ) .int 120 = (4, s + 120, sgD, ρ) := cA rfl
theorem cT_3 (h : 3 < n) : mj_ty (n, s, sgD, ρ) .int 3 = some 120 := cT h rfl
theorem cI_3 (h : 3 < n) : mj_ai (n, s, sgD, ρ) M 3 = some 120 := cI h rfl
theorem cA_4 : mj_newA (4, s, sgD, ρ) .int 120 = (5, s + 120, sgD, ρ) := cA rfl
theorem cT_4 (h : 4 < n) : mj_ty (n, s, sgD, ρ) .int 4 = some 120 := cT h rfl
theorem cI_4 (h : 4 < n) : mj_ai (n, s, sgD, ρ) M 4 = some 120 := cI h rfl
theorem cA_5 : mj_newA (5, s, sgD, ρ) .int 120 = (6, s + 120, sgD, ρ) := cA rfl
theorem cT_5 (h : 5 < n) : mj_ty (n, s, sgD, ρ) .int 5 = some 120 := cT h rfl
theorem cI_5 (h : 5 < n) : mj_ai (n, s, sgD, ρ) M 5 = some 120 := cI h rfl
theorem cA_6 : mj_newA (6, s, sgD, ρ) .int 120 = (7, s + 120, sgD, ρ) := cA rfl
theorem cT_6 (h : 6 < n) : mj_ty (n, s, sgD, ρ) .int 6 = some 120 := cT h rfl
theorem cI_6 (h : 6 < n) : mj_ai (n, s, sgD, ρ) M 6 = some 120 := cI h rfl
theorem cA_7 : mj_newA (7, s, sgD, ρ) .int 120 = (8, s + 120, sgD, ρ) := cA rfl
theorem cT_7 (h : 7 < n) : mj_ty (n, s, sgD, ρ) .int 7 = some 120 := cT h rfl
theorem cI_7 (h : 7 < n) : mj_ai (n, s, sgD, ρ) M 7 = some 120 := cI h rfl
theorem cA_8 : mj_newA (8, s, sgD, ρ) .int 120 = (9, s + 120, sgD, ρ) := cA rfl
theorem cT_8 (h : 8 < n) : mj_ty (n, s, sgD, ρ) .int 8 = some 120 := cT h rfl
theorem cI_8 (h : 8 < n) : mj_ai (n, s, sgD, ρ) M 8 = some 120 := cI h rfl
theorem cA_9 : mj_newA (9, s, sgD, ρ) .int 120 = (10, s + 120, sgD, ρ) := cA rfl
theorem cT_9 (h : 9 < n) : mj_ty (n, s, sgD, ρ) .int 9 = some 120 := cT h rfl
theorem cI_9 (h : 9 < n) : mj_ai (n, s, sgD, ρ) M 9 = some 120 := cI h rfl
theorem cA_10 : mj_newA (10, s, sgD, ρ) .int 120 = (11, s + 120, sgD, ρ) := cA rfl
theorem cT_10 (h : 10 < n) : mj_ty (n, s, sgD, ρ) .int 10 = some 120 := cT h rfl
theorem cI_10 (h : 10 < n) : mj_ai (n, s, sgD, ρ) M 10 = some 120 := cI h rfl
theorem cA_11 : mj_newA (11, s, sgD, ρ) .int 120 = (12, s + 120, sgD, ρ) := cA rfl
theorem cT_11 (h : 11 < n) : mj_ty (n, s, sgD, ρ) .int 11 = some 120 := cT h rfl
theorem cI_11 (h : 11 < n) : mj_ai (n, s, sgD, ρ) M 11 = some 120 := cI h rfl
theorem cA_12 : mj_newA (12, s, sgD, ρ) .int 120 = (13, s + 120, sgD, ρ) := cA rfl
theorem cT_12 (h : 12 < n) : mj_ty (n, s, sgD, ρ) .int 12 = some 120 := cT h rfl
theorem cI_12 (h : 12 < n) : mj_ai (n, s, sgD, ρ) M 12 = some 120 := cI h rfl
theorem cN_13 : mj_new (13, s, sgD, ρ) 3 = (14, s + 8, sgD, cP ρ 13 []) := cN rfl
theorem cO_13 (h : 13 < n) : mj_isO (n, s, sgD, ρ) 13 3 = true := cO h rfl
theorem cA_14 : mj_newA (14, s, sgD, ρ) .int 40 = (15, s + 40, sgD, ρ) := cA rfl
theorem cT_14 (h : 14 < n) : mj_ty (n, s, sgD, ρ) .int 14 = some 40 := cT h rfl
theorem cI_14 (h : 14 < n) : mj_ai (n, s, sgD, ρ) M 14 = some 40 := cI h rfl
theorem cA_15 : mj_newA (15, s, sgD, ρ) .int 40 = (16, s + 40, sgD, ρ) := cA rfl
theorem cT_15 (h : 15 < n) : mj_ty (n, s, sgD, ρ) .int 15 = some 40 := cT h rfl
theorem cI_15 (h : 15 < n) : mj_ai (n, s, sgD, ρ) M 15 = some 40 := cI h rfl
theorem cA_16 : mj_newA (16, s, sgD, ρ) .int 40 = (17, s + 40, sgD, ρ) := cA rfl
theorem cT_16 (h : 16 < n) : mj_ty (n, s, sgD, ρ) .int 16 = some 40 := cT h rfl
theorem cI_16 (h : 16 < n) : mj_ai (n, s, sgD, ρ) M 16 = some 40 := cI h rfl
theorem cA_17 : mj_newA (17, s, sgD, ρ) .int 40 = (18, s + 40, sgD, ρ) := cA rfl
theorem cT_17 (h : 17 < n) : mj_ty (n, s, sgD, ρ) .int 17 = some 40 := cT h rfl
theorem cI_17 (h : 17 < n) : mj_ai (n, s, sgD, ρ) M 17 = some 40 := cI h rfl
theorem cA_18 : mj_newA (18, s, sgD, ρ) .int 40 = (19, s + 40, sgD, ρ) := cA rfl
theorem cT_18 (h : 18 < n) : mj_ty (n, s, sgD, ρ) .int 18 = some 40 := cT h rfl
theorem cI_18 (h : 18 < n) : mj_ai (n, s, sgD, ρ) M 18 = some 40 := cI h rfl
theorem cA_19 : mj_newA (19, s, sgD, ρ) .int 40 = (20, s + 40, sgD, ρ) := cA rfl
theorem cT_19 (h : 19 < n) : mj_ty (n, s, sgD, ρ) .int 19 = some 40 := cT h rfl
theorem cI_19 (h : 19 < n) : mj_ai (n, s, sgD, ρ) M 19 = some 40 := cI h rfl
theorem cA_20 : mj_newA (20, s, sgD, ρ) .int 1200 = (21, s + 1200, sgD, ρ) := cA rfl
theorem cT_20 (h : 20 < n) : mj_ty (n, s, sgD, ρ) .int 20 = some 1200 := cT h rfl
theorem cI_20 (h : 20 < n) : mj_ai (n, s, sgD, ρ) M 20 = some 1200 := cI h rfl
theorem cA_21 : mj_newA (21, s, sgD, ρ) .int 1200 = (22, s + 1200, sgD, ρ) := cA rfl
theorem cT_21 (h : 21 < n) : mj_ty (n, s, sgD, ρ) .int 21 = some 1200 := cT h rfl
theorem cI_21 (h : 21 < n) : mj_ai (n, s, sgD, ρ) M 21 = some 1200 := cI h rfl
theorem cN_22 : mj_new (22, s, sgD, ρ) 4 = (23, s + 14, sgD, cP ρ 22 []) := cN rfl
theorem cO_22 (h : 22 < n) : mj_isO (n, s, sgD, ρ) 22 4 = true := cO h rfl
theorem cA_23 : mj_newA (23, s, sgD, ρ) .int 8 = (24, s + 8, sgD, ρ) := cA rfl
theorem cT_23 (h : 23 < n) : mj_ty (n, s, sgD, ρ) .int 23 = some 8 := cT h rfl
theorem cI_23 (h : 23 < n) : mj_ai (n, s, sgD, ρ) M 23 = some 8 := cI h rfl
theorem cA_24 : mj_newA (24, s, sgD, ρ) .int 8 = (25, s + 8, sgD, ρ) := cA rfl
theorem cT_24 (h : 24 < n) : mj_ty (n, s, sgD, ρ) .int 24 = some 8 := cT h rfl
theorem cI_24 (h : 24 < n) : mj_ai (n, s, sgD, ρ) M 24 = some 8 := cI h rfl
theorem cA_25 : mj_newA (25, s, sgD, ρ) .int 8 = (26, s + 8, sgD, ρ) := cA rfl
theorem cT_25 (h : 25 < n) : mj_ty (n, s, sgD, ρ) .int 25 = some 8 := cT h rfl
theorem cI_25 (h : 25 < n) : mj_ai (n, s, sgD, ρ) M 25 = some 8 := cI h rfl
theorem cA_26 : mj_newA (26, s, sgD, ρ) .int 8 = (27, s + 8, sgD, ρ) := cA rfl
theorem cT_26 (h : 26 < n) : mj_ty (n, s, sgD, ρ) .int 26 = some 8 := cT h rfl
theorem cI_26 (h : 26 < n) : mj_ai (n, s, sgD, ρ) M 26 = some 8 := cI h rfl
theorem cA_27 : mj_newA (27, s, sgD, ρ) .int 8 = (28, s + 8, sgD, ρ) := cA rfl
theorem cT_27 (h : 27 < n) : mj_ty (n, s, sgD, ρ) .int 27 = some 8 := cT h rfl
theorem cI_27 (h : 27 < n) : mj_ai (n, s, sgD, ρ) M 27 = some 8 := cI h rfl
theorem cA_28 : mj_newA (28, s, sgD, ρ) .int 8 = (29, s + 8, sgD, ρ) := cA rfl
theorem cT_28 (h : 28 < n) : mj_ty (n, s, sgD, ρ) .int 28 = some 8 := cT h rfl
theorem cI_28 (h : 28 < n) : mj_ai (n, s, sgD, ρ) M 28 = some 8 := cI h rfl
theorem cA_29 : mj_newA (29, s, sgD, ρ) .int 8 = (30, s + 8, sgD, ρ) := cA rfl
theorem cT_29 (h : 29 < n) : mj_ty (n, s, sgD, ρ) .int 29 = some 8 := cT h rfl
theorem cI_29 (h : 29 < n) : mj_ai (n, s, sgD, ρ) M 29 = some 8 := cI h rfl
theorem cA_30 : mj_newA (30, s, sgD, ρ) .int 8 = (31, s + 8, sgD, ρ) := cA rfl
theorem cT_30 (h : 30 < n) : mj_ty (n, s, sgD, ρ) .int 30 = some 8 := cT h rfl
theorem cI_30 (h : 30 < n) : mj_ai (n, s, sgD, ρ) M 30 = some 8 := cI h rfl
theorem cA_31 : mj_newA (31, s, sgD, ρ) .int 8 = (32, s + 8, sgD, ρ) := cA rfl
theorem cT_31 (h : 31 < n) : mj_ty (n, s, sgD, ρ) .int 31 = some 8 := cT h rfl
theorem cI_31 (h : 31 < n) : mj_ai (n, s, sgD, ρ) M 31 = some 8 := cI h rfl
theorem cA_32 : mj_newA (32, s, sgD, ρ) .int 8 = (33, s + 8, sgD, ρ) := cA rfl
theorem cT_32 (h : 32 < n) : mj_ty (n, s, sgD, ρ) .int 32 = some 8 := cT h rfl
theorem cI_32 (h : 32 < n) : mj_ai (n, s, sgD, ρ) M 32 = some 8 := cI h rfl
theorem cA_33 : mj_newA (33, s, sgD, ρ) .int 8 = (34, s + 8, sgD, ρ) := cA rfl
theorem cT_33 (h : 33 < n) : mj_ty (n, s, sgD, ρ) .int 33 = some 8 := cT h rfl
theorem cI_33 (h : 33 < n) : mj_ai (n, s, sgD, ρ) M 33 = some 8 := cI h rfl
theorem cA_34 : mj_newA (34, s, sgD, ρ) .int 8 = (35, s + 8, sgD, ρ) := cA rfl
theorem cT_34 (h : 34 < n) : mj_ty (n, s, sgD, ρ) .int 34 = some 8 := cT h rfl
theorem cI_34 (h : 34 < n) : mj_ai (n, s, sgD, ρ) M 34 = some 8 := cI h rfl
theorem cA_35 : mj_newA (35, s, sgD, ρ) .int 1280 = (36, s + 1280, sgD, ρ) := cA rfl
theorem cT_35 (h : 35 < n) : mj_ty (n, s, sgD, ρ) .int 35 = some 1280 := cT h rfl
theorem cI_35 (h : 35 < n) : mj_ai (n, s, sgD, ρ) M 35 = some 1280 := cI h rfl
theorem cN_36 : mj_new (36, s, sgD, ρ) 5 = (37, s + 6, sgD, cP ρ 36 []) := cN rfl
theorem cO_36 (h : 36 < n) : mj_isO (n, s, sgD, ρ) 36 5 = true := cO h rfl
theorem cA_37 : mj_newA (37, s, sgD, ρ) .int 20 = (38, s + 20, sgD, ρ) := cA rfl
theorem cT_37 (h : 37 < n) : mj_ty (n, s, sgD, ρ) .int 37 = some 20 := cT h rfl
theorem cI_37 (h : 37 < n) : mj_ai (n, s, sgD, ρ) M 37 = some 20 := cI h rfl
theorem cA_38 : mj_newA (38, s, sgD, ρ) .int 20 = (39, s + 20, sgD, ρ) := cA rfl
theorem cT_38 (h : 38 < n) : mj_ty (n, s, sgD, ρ) .int 38 = some 20 := cT h rfl
theorem cI_38 (h : 38 < n) : mj_ai (n, s, sgD, ρ) M 38 = some 20 := cI h rfl
theorem cA_39 : mj_newA (39, s, sgD, ρ) .int 20 = (40, s + 20, sgD, ρ) := cA rfl
theorem cT_39 (h : 39 < n) : mj_ty (n, s, sgD, ρ) .int 39 = some 20 := cT h rfl
theorem cI_39 (h : 39 < n) : mj_ai (n, s, sgD, ρ) M 39 = some 20 := cI h rfl
theorem cA_40 : mj_newA (40, s, sgD, ρ) .int 20 = (41, s + 20, sgD, ρ) := cA rfl
theorem cT_40 (h : 40 < n) : mj_ty (n, s, sgD, ρ) .int 40 = some 20 := cT h rfl
theorem cI_40 (h : 40 < n) : mj_ai (n, s, sgD, ρ) M 40 = some 20 := cI h rfl
theorem cA_41 : mj_newA (41, s, sgD, ρ) .int 20 = (42, s + 20, sgD, ρ) := cA rfl
theorem cT_41 (h : 41 < n) : mj_ty (n, s, sgD, ρ) .int 41 = some 20 := cT h rfl
theorem cI_41 (h : 41 < n) : mj_ai (n, s, sgD, ρ) M 41 = some 20 := cI h rfl
theorem cA_42 : mj_newA (42, s, sgD, ρ) .int 400 = (43, s + 400, sgD, ρ) := cA rfl
theorem cT_42 (h : 42 < n) : mj_ty (n, s, sgD, ρ) .int 42 = some 400 := cT h rfl
theorem cI_42 (h : 42 < n) : mj_ai (n, s, sgD, ρ) M 42 = some 400 := cI h rfl
theorem cA_43 : mj_newA (43, s, sgD, ρ) .int 16 = (44, s + 16, sgD, ρ) := cA rfl
theorem cT_43 (h : 43 < n) : mj_ty (n, s, sgD, ρ) .int 43 = some 16 := cT h rfl
theorem cI_43 (h : 43 < n) : mj_ai (n, s, sgD, ρ) M 43 = some 16 := cI h rfl
theorem cN_44 : mj_new (44, s, sgD, ρ) 1 = (45, s + 12, sgD, cP ρ 44 []) := cN rfl
theorem cO_44 (h : 44 < n) : mj_isO (n, s, sgD, ρ) 44 1 = true := cO h rfl
theorem cN_45 : mj_new (45, s, sgD, ρ) 2 = (46, s + 10, sgD, cP ρ 45 []) := cN rfl
theorem cO_45 (h : 45 < n) : mj_isO (n, s, sgD, ρ) 45 2 = true := cO h rfl
theorem cA_46 : mj_newA (46, s, sgD, ρ) .int 120 = (47, s + 120, sgD, ρ) := cA rfl
theorem cT_46 (h : 46 < n) : mj_ty (n, s, sgD, ρ) .int 46 = some 120 := cT h rfl
theorem cI_46 (h : 46 < n) : mj_ai (n, s, sgD, ρ) M 46 = some 120 := cI h rfl
theorem cA_47 : mj_newA (47, s, sgD, ρ) .int 120 = (48, s + 120, sgD, ρ) := cA rfl
theorem cT_47 (h : 47 < n) : mj_ty (n, s, sgD, ρ) .int 47 = some 120 := cT h rfl
theorem cI_47 (h : 47 < n) : mj_ai (n, s, sgD, ρ) M 47 = some 120 := cI h rfl
theorem cA_48 : mj_newA (48, s, sgD, ρ) .int 120 = (49, s + 120, sgD, ρ) := cA rfl
theorem cT_48 (h : 48 < n) : mj_ty (n, s, sgD, ρ) .int 48 = some 120 := cT h rfl
theorem cI_48 (h : 48 < n) : mj_ai (n, s, sgD, ρ) M 48 = some 120 := cI h rfl
theorem cA_49 : mj_newA (49, s, sgD, ρ) .int 120 = (50, s + 120, sgD, ρ) := cA rfl
theorem cT_49 (h : 49 < n) : mj_ty (n, s, sgD, ρ) .int 49 = some 120 := cT h rfl
theorem cI_49 (h : 49 < n) : mj_ai (n, s, sgD, ρ) M 49 = some 120 := cI h rfl
theorem cA_50 : mj_newA (50, s, sgD, ρ) .int 120 = (51, s + 120, sgD, ρ) := cA rfl
theorem cT_50 (h : 50 < n) : mj_ty (n, s, sgD, ρ) .int 50 = some 120 := cT h rfl
theorem cI_50 (h : 50 < n) : mj_ai (n, s, sgD, ρ) M 50 = some 120 := cI h rfl
theorem cA_51 : mj_newA (51, s, sgD, ρ) .int 120 = (52, s + 120, sgD, ρ) := cA rfl
theorem cT_51 (h : 51 < n) : mj_ty (n, s, sgD, ρ) .int 51 = some 120 := cT h rfl
theorem cI_51 (h : 51 < n) : mj_ai (n, s, sgD, ρ) M 51 = some 120 := cI h rfl
theorem cA_52 : mj_newA (52, s, sgD, ρ) .int 120 = (53, s + 120, sgD, ρ) := cA rfl
theorem cT_52 (h : 52 < n) : mj_ty (n, s, sgD, ρ) .int 52 = some 120 := cT h rfl
theorem cI_52 (h : 52 < n) : mj_ai (n, s, sgD, ρ) M 52 = some 120 := cI h rfl
theorem cA_53 : mj_newA (53, s, sgD, ρ) .int 120 = (54, s + 120, sgD, ρ) := cA rfl
theorem cT_53 (h : 53 < n) : mj_ty (n, s, sgD, ρ) .int 53 = some 120 := cT h rfl
theorem cI_53 (h : 53 < n) : mj_ai (n, s, sgD, ρ) M 53 = some 120 := cI h rfl
theorem cA_54 : mj_newA (54, s, sgD, ρ) .int 120 = (55, s + 120, sgD, ρ) := cA rfl
theorem cT_54 (h : 54 < n) : mj_ty (n, s, sgD, ρ) .int 54 = some 120 := cT h rfl
theorem cI_54 (h : 54 < n) : mj_ai (n, s, sgD, ρ) M 54 = some 120 := cI h rfl
theorem cA_55 : mj_newA (55, s, sgD, ρ) .int 120 = (56, s + 120, sgD, ρ) := cA rfl
theorem cT_55 (h : 55 < n) : mj_ty (n, s, sgD, ρ) .int 55 = some 120 := cT h rfl
theorem cI_55 (h : 55 < n) : mj_ai (n, s, sgD, ρ) M 55 = some 120 := cI h rfl
theorem cN_56 : mj_new (56, s, sgD, ρ) 3 = (57, s + 8, sgD, cP ρ 56 []) := cN rfl
theorem cO_56 (h : 56 < n) : mj_isO (n, s, sgD, ρ) 56 3 = true := cO h rfl
theorem cA_57 : mj_newA (57, s, sgD, ρ) .int 40 = (58, s + 40, sgD, ρ) := cA rfl
theorem cT_57 (h : 57 < n) : mj_ty (n, s, sgD, ρ) .int 57 = some 40 := cT h rfl
theorem cI_57 (h : 57 < n) : mj_ai (n, s, sgD, ρ) M 57 = some 40 := cI h rfl
theorem cA_58 : mj_newA (58, s, sgD, ρ) .int 40 = (59, s + 40, sgD, ρ) := cA rfl
theorem cT_58 (h : 58 < n) : mj_ty (n, s, sgD, ρ) .int 58 = some 40 := cT h rfl
theorem cI_58 (h : 58 < n) : mj_ai (n, s, sgD, ρ) M 58 = some 40 := cI h rfl
theorem cA_59 : mj_newA (59, s, sgD, ρ) .int 40 = (60, s + 40, sgD, ρ) := cA rfl
theorem cT_59 (h : 59 < n) : mj_ty (n, s, sgD, ρ) .int 59 = some 40 := cT h rfl
theorem cI_59 (h : 59 < n) : mj_ai (n, s, sgD, ρ) M 59 = some 40 := cI h rfl
theorem cA_60 : mj_newA (60, s, sgD, ρ) .int 40 = (61, s + 40, sgD, ρ) := cA rfl
theorem cT_60 (h : 60 < n) : mj_ty (n, s, sgD, ρ) .int 60 = some 40 := cT h rfl
theorem cI_60 (h : 60 < n) : mj_ai (n, s, sgD, ρ) M 60 = some 40 := cI h rfl
theorem cA_61 : mj_newA (61, s, sgD, ρ) .int 40 = (62, s + 40, sgD, ρ) := cA rfl
theorem cT_61 (h : 61 < n) : mj_ty (n, s, sgD, ρ) .int 61 = some 40 := cT h rfl
theorem cI_61 (h : 61 < n) : mj_ai (n, s, sgD, ρ) M 61 = some 40 := cI h rfl
theorem cA_62 : mj_newA (62, s, sgD, ρ) .int 40 = (63, s + 40, sgD, ρ) := cA rfl
theorem cT_62 (h : 62 < n) : mj_ty (n, s, sgD, ρ) .int 62 = some 40 := cT h rfl
theorem cI_62 (h : 62 < n) : mj_ai (n, s, sgD, ρ) M 62 = some 40 := cI h rfl
theorem cA_63 : mj_newA (63, s, sgD, ρ) .int 1200 = (64, s + 1200, sgD, ρ) := cA rfl
theorem cT_63 (h : 63 < n) : mj_ty (n, s, sgD, ρ) .int 63 = some 1200 := cT h rfl
theorem cI_63 (h : 63 < n) : mj_ai (n, s, sgD, ρ) M 63 = some 1200 := cI h rfl
theorem cA_64 : mj_newA (64, s, sgD, ρ) .int 1200 = (65, s + 1200, sgD, ρ) := cA rfl
theorem cT_64 (h : 64 < n) : mj_ty (n, s, sgD, ρ) .int 64 = some 1200 := cT h rfl
theorem cI_64 (h : 64 < n) : mj_ai (n, s, sgD, ρ) M 64 = some 1200 := cI h rfl
theorem cN_65 : mj_new (65, s, sgD, ρ) 4 = (66, s + 14, sgD, cP ρ 65 []) := cN rfl
theorem cO_65 (h : 65 < n) : mj_isO (n, s, sgD, ρ) 65 4 = true := cO h rfl
theorem cA_66 : mj_newA (66, s, sgD, ρ) .int 8 = (67, s + 8, sgD, ρ) := cA rfl
theorem cT_66 (h : 66 < n) : mj_ty (n, s, sgD, ρ) .int 66 = some 8 := cT h rfl
theorem cI_66 (h : 66 < n) : mj_ai (n, s, sgD, ρ) M 66 = some 8 := cI h rfl
theorem cA_67 : mj_newA (67, s, sgD, ρ) .int 8 = (68, s + 8, sgD, ρ) := cA rfl
theorem cT_67 (h : 67 < n) : mj_ty (n, s, sgD, ρ) .int 67 = some 8 := cT h rfl
theorem cI_67 (h : 67 < n) : mj_ai (n, s, sgD, ρ) M 67 = some 8 := cI h rfl
theorem cA_68 : mj_newA (68, s, sgD, ρ) .int 8 = (69, s + 8, sgD, ρ) := cA rfl
theorem cT_68 (h : 68 < n) : mj_ty (n, s, sgD, ρ) .int 68 = some 8 := cT h rfl
theorem cI_68 (h : 68 < n) : mj_ai (n, s, sgD, ρ) M 68 = some 8 := cI h rfl
theorem cA_69 : mj_newA (69, s, sgD, ρ) .int 8 = (70, s + 8, sgD, ρ) := cA rfl
theorem cT_69 (h : 69 < n) : mj_ty (n, s, sgD, ρ) .int 69 = some 8 := cT h rfl
theorem cI_69 (h : 69 < n) : mj_ai (n, s, sgD, ρ) M 69 = some 8 := cI h rfl
theorem cA_70 : mj_newA (70, s, sgD, ρ) .int 8 = (71, s + 8, sgD, ρ) := cA rfl
theorem cT_70 (h : 70 < n) : mj_ty (n, s, sgD, ρ) .int 70 = some 8 := cT h rfl
theorem cI_70 (h : 70 < n) : mj_ai (n, s, sgD, ρ) M 70 = some 8 := cI h rfl
theorem cA_71 : mj_newA (71, s, sgD, ρ) .int 8 = (72, s + 8, sgD, ρ) := cA rfl
theorem cT_71 (h : 71 < n) : mj_ty (n, s, sgD, ρ) .int 71 = some 8 := cT h rfl
theorem cI_71 (h : 71 < n) : mj_ai (n, s, sgD, ρ) M 71 = some 8 := cI h rfl
theorem cA_72 : mj_newA (72, s, sgD, ρ) .int 8 = (73, s + 8, sgD, ρ) := cA rfl
theorem cT_72 (h : 72 < n) : mj_ty (n, s, sgD, ρ) .int 72 = some 8 := cT h rfl
theorem cI_72 (h : 72 < n) : mj_ai (n, s, sgD, ρ) M 72 = some 8 := cI h rfl
theorem cA_73 : mj_newA (73, s, sgD, ρ) .int 8 = (74, s + 8, sgD, ρ) := cA rfl
theorem cT_73 (h : 73 < n) : mj_ty (n, s, sgD, ρ) .int 73 = some 8 := cT h rfl
theorem cI_73 (h : 73 < n) : mj_ai (n, s, sgD, ρ) M 73 = some 8 := cI h rfl
theorem cA_74 : mj_newA (74, s, sgD, ρ) .int 8 = (75, s + 8, sgD, ρ) := cA rfl
theorem cT_74 (h : 74 < n) : mj_ty (n, s, sgD, ρ) .int 74 = some 8 := cT h rfl
theorem cI_74 (h : 74 < n) : mj_ai (n, s, sgD, ρ) M 74 = some 8 := cI h rfl
theorem cA_75 : mj_newA (75, s, sgD, ρ) .int 8 = (76, s + 8, sgD, ρ) := cA rfl
theorem cT_75 (h : 75 < n) : mj_ty (n, s, sgD, ρ) .int 75 = some 8 := cT h rfl
theorem cI_75 (h : 75 < n) : mj_ai (n, s, sgD, ρ) M 75 = some 8 := cI h rfl
theorem cA_76 : mj_newA (76, s, sgD, ρ) .int 8 = (77, s + 8, sgD, ρ) := cA rfl
theorem cT_76 (h : 76 < n) : mj_ty (n, s, sgD, ρ) .int 76 = some 8 := cT h rfl
theorem cI_76 (h : 76 < n) : mj_ai (n, s, sgD, ρ) M 76 = some 8 := cI h rfl
theorem cA_77 : mj_newA (77, s, sgD, ρ) .int 8 = (78, s + 8, sgD, ρ) := cA rfl
theorem cT_77 (h : 77 < n) : mj_ty (n, s, sgD, ρ) .int 77 = some 8 := cT h rfl
theorem cI_77 (h : 77 < n) : mj_ai (n, s, sgD, ρ) M 77 = some 8 := cI h rfl
theorem cA_78 : mj_newA (78, s, sgD, ρ) .int 1280 = (79, s + 1280, sgD, ρ) := cA rfl
theorem cT_78 (h : 78 < n) : mj_ty (n, s, sgD, ρ) .int 78 = some 1280 := cT h rfl
theorem cI_78 (h : 78 < n) : mj_ai (n, s, sgD, ρ) M 78 = some 1280 := cI h rfl
theorem cN_79 : mj_new (79, s, sgD, ρ) 5 = (80, s + 6, sgD, cP ρ 79 []) := cN rfl
theorem cO_79 (h : 79 < n) : mj_isO (n, s, sgD, ρ) 79 5 = true := cO h rfl
theorem cA_80 : mj_newA (80, s, sgD, ρ) .int 20 = (81, s + 20, sgD, ρ) := cA rfl
theorem cT_80 (h : 80 < n) : mj_ty (n, s, sgD, ρ) .int 80 = some 20 := cT h rfl
theorem cI_80 (h : 80 < n) : mj_ai (n, s, sgD, ρ) M 80 = some 20 := cI h rfl
theorem cA_81 : mj_newA (81, s, sgD, ρ) .int 20 = (82, s + 20, sgD, ρ) := cA rfl
theorem cT_81 (h : 81 < n) : mj_ty (n, s, sgD, ρ) .int 81 = some 20 := cT h rfl
theorem cI_81 (h : 81 < n) : mj_ai (n, s, sgD, ρ) M 81 = some 20 := cI h rfl
theorem cA_82 : mj_newA (82, s, sgD, ρ) .int 20 = (83, s + 20, sgD, ρ) := cA rfl
theorem cT_82 (h : 82 < n) : mj_ty (n, s, sgD, ρ) .int 82 = some 20 := cT h rfl
theorem cI_82 (h : 82 < n) : mj_ai (n, s, sgD, ρ) M 82 = some 20 := cI h rfl
theorem cA_83 : mj_newA (83, s, sgD, ρ) .int 20 = (84, s + 20, sgD, ρ) := cA rfl
theorem cT_83 (h : 83 < n) : mj_ty (n, s, sgD, ρ) .int 83 = some 20 := cT h rfl
theorem cI_83 (h : 83 < n) : mj_ai (n, s, sgD, ρ) M 83 = some 20 := cI h rfl
theorem cA_84 : mj_newA (84, s, sgD, ρ) .int 20 = (85, s + 20, sgD, ρ) := cA rfl
theorem cT_84 (h : 84 < n) : mj_ty (n, s, sgD, ρ) .int 84 = some 20 := cT h rfl
theorem cI_84 (h : 84 < n) : mj_ai (n, s, sgD, ρ) M 84 = some 20 := cI h rfl
theorem cA_85 : mj_newA (85, s, sgD, ρ) .int 400 = (86, s + 400, sgD, ρ) := cA rfl
theorem cT_85 (h : 85 < n) : mj_ty (n, s, sgD, ρ) .int 85 = some 400 := cT h rfl
theorem cI_85 (h : 85 < n) : mj_ai (n, s, sgD, ρ) M 85 = some 400 := cI h rfl
theorem cA_86 : mj_newA (86, s, sgD, ρ) .int 16 = (87, s + 16, sgD, ρ) := cA rfl
theorem cT_86 (h : 86 < n) : mj_ty (n, s, sgD, ρ) .int 86 = some 16 := cT h rfl
theorem cI_86 (h : 86 < n) : mj_ai (n, s, sgD, ρ) M 86 = some 16 := cI h rfl
theorem cN_87 : mj_new (87, s, sgD, ρ) 1 = (88, s + 12, sgD, cP ρ 87 []) := cN rfl
theorem cO_87 (h : 87 < n) : mj_isO (n, s, sgD, ρ) 87 1 = true := cO h rfl
theorem cN_88 : mj_new (88, s, sgD, ρ) 2 = (89, s + 10, sgD, cP ρ 88 []) := cN rfl
theorem cO_88 (h : 88 < n) : mj_isO (n, s, sgD, ρ) 88 2 = true := cO h rfl
theorem cA_89 : mj_newA (89, s, sgD, ρ) .int 120 = (90, s + 120, sgD, ρ) := cA rfl
theorem cT_89 (h : 89 < n) : mj_ty (n, s, sgD, ρ) .int 89 = some 120 := cT h rfl
theorem cI_89 (h : 89 < n) : mj_ai (n, s, sgD, ρ) M 89 = some 120 := cI h rfl
theorem cA_90 : mj_newA (90, s, sgD, ρ) .int 120 = (91, s + 120, sgD, ρ) := cA rfl
theorem cT_90 (h : 90 < n) : mj_ty (n, s, sgD, ρ) .int 90 = some 120 := cT h rfl
theorem cI_90 (h : 90 < n) : mj_ai (n, s, sgD, ρ) M 90 = some 120 := cI h rfl
theorem cA_91 : mj_newA (91, s, sgD, ρ) .int 120 = (92, s + 120, sgD, ρ) := cA rfl
theorem cT_91 (h : 91 < n) : mj_ty (n, s, sgD, ρ) .int 91 = some 120 := cT h rfl
theorem cI_91 (h : 91 < n) : mj_ai (n, s, sgD, ρ) M 91 = some 120 := cI h rfl
theorem cA_92 : mj_newA (92, s, sgD, ρ) .int 120 = (93, s + 120, sgD, ρ) := cA rfl
theorem cT_92 (h : 92 < n) : mj_ty (n, s, sgD, ρ) .int 92 = some 120 := cT h rfl
theorem cI_92 (h : 92 < n) : mj_ai (n, s, sgD, ρ) M 92 = some 120 := cI h rfl
theorem cA_93 : mj_newA (93, s, sgD, ρ) .int 120 = (94, s + 120, sgD, ρ) := cA rfl
theorem cT_93 (h : 93 < n) : mj_ty (n, s, sgD, ρ) .int 93 = some 120 := cT h rfl
theorem cI_93 (h : 93 < n) : mj_ai (n, s, sgD, ρ) M 93 = some 120 := cI h rfl
theorem cA_94 : mj_newA (94, s, sgD, ρ) .int 120 = (95, s + 120, sgD, ρ) := cA rfl
theorem cT_94 (h : 94 < n) : mj_ty (n, s, sgD, ρ) .int 94 = some 120 := cT h rfl
theorem cI_94 (h : 94 < n) : mj_ai (n, s, sgD, ρ) M 94 = some 120 := cI h rfl
theorem cA_95 : mj_newA (95, s, sgD, ρ) .int 120 = (96, s + 120, sgD, ρ) := cA rfl
theorem cT_95 (h : 95 < n) : mj_ty (n, s, sgD, ρ) .int 95 = some 120 := cT h rfl
theorem cI_95 (h : 95 < n) : mj_ai (n, s, sgD, ρ) M 95 = some 120 := cI h rfl
theorem cA_96 : mj_newA (96, s, sgD, ρ) .int 120 = (97, s + 120, sgD, ρ) := cA rfl
theorem cT_96 (h : 96 < n) : mj_ty (n, s, sgD, ρ) .int 96 = some 120 := cT h rfl
theorem cI_96 (h : 96 < n) : mj_ai (n, s, sgD, ρ) M 96 = some 120 := cI h rfl
theorem cA_97 : mj_newA (97, s, sgD, ρ) .int 120 = (98, s + 120, sgD, ρ) := cA rfl
theorem cT_97 (h : 97 < n) : mj_ty (n, s, sgD, ρ) .int 97 = some 120 := cT h rfl
theorem cI_97 (h : 97 < n) : mj_ai (n, s, sgD, ρ) M 97 = some 120 := cI h rfl
theorem cA_98 : mj_newA (98, s, sgD, ρ) .int 120 = (99, s + 120, sgD, ρ) := cA rfl
theorem cT_98 (h : 98 < n) : mj_ty (n, s, sgD, ρ) .int 98 = some 120 := cT h rfl
theorem cI_98 (h : 98 < n) : mj_ai (n, s, sgD, ρ) M 98 = some 120 := cI h rfl
theorem cN_99 : mj_new (99, s, sgD, ρ) 3 = (100, s + 8, sgD, cP ρ 99 []) := cN rfl
theorem cO_99 (h : 99 < n) : mj_isO (n, s, sgD, ρ) 99 3 = true := cO h rfl
theorem cA_100 : mj_newA (100, s, sgD, ρ) .int 40 = (101, s + 40, sgD, ρ) := cA rfl
theorem cT_100 (h : 100 < n) : mj_ty (n, s, sgD, ρ) .int 100 = some 40 := cT h rfl
theorem cI_100 (h : 100 < n) : mj_ai (n, s, sgD, ρ) M 100 = some 40 := cI h rfl
theorem cA_101 : mj_newA (101, s, sgD, ρ) .int 40 = (102, s + 40, sgD, ρ) := cA rfl
theorem cT_101 (h : 101 < n) : mj_ty (n, s, sgD, ρ) .int 101 = some 40 := cT h rfl
theorem cI_101 (h : 101 < n) : mj_ai (n, s, sgD, ρ) M 101 = some 40 := cI h rfl
theorem cA_102 : mj_newA (102, s, sgD, ρ) .int 40 = (103, s + 40, sgD, ρ) := cA rfl
theorem cT_102 (h : 102 < n) : mj_ty (n, s, sgD, ρ) .int 102 = some 40 := cT h rfl
theorem cI_102 (h : 102 < n) : mj_ai (n, s, sgD, ρ) M 102 = some 40 := cI h rfl
theorem cA_103 : mj_newA (103, s, sgD, ρ) .int 40 = (104, s + 40, sgD, ρ) := cA rfl
theorem cT_103 (h : 103 < n) : mj_ty (n, s, sgD, ρ) .int 103 = some 40 := cT h rfl
theorem cI_103 (h : 103 < n) : mj_ai (n, s, sgD, ρ) M 103 = some 40 := cI h rfl
theorem cA_104 : mj_newA (104, s, sgD, ρ) .int 40 = (105, s + 40, sgD, ρ) := cA rfl
theorem cT_104 (h : 104 < n) : mj_ty (n, s, sgD, ρ) .int 104 = some 40 := cT h rfl
theorem cI_104 (h : 104 < n) : mj_ai (n, s, sgD, ρ) M 104 = some 40 := cI h rfl
theorem cA_105 : mj_newA (105, s, sgD, ρ) .int 40 = (106, s + 40, sgD, ρ) := cA rfl
theorem cT_105 (h : 105 < n) : mj_ty (n, s, sgD, ρ) .int 105 = some 40 := cT h rfl
theorem cI_105 (h : 105 < n) : mj_ai (n, s, sgD, ρ) M 105 = some 40 := cI h rfl
theorem cA_106 : mj_newA (106, s, sgD, ρ) .int 1200 = (107, s + 1200, sgD, ρ) := cA rfl
theorem cT_106 (h : 106 < n) : mj_ty (n, s, sgD, ρ) .int 106 = some 1200 := cT h rfl
theorem cI_106 (h : 106 < n) : mj_ai (n, s, sgD, ρ) M 106 = some 1200 := cI h rfl
theorem cA_107 : mj_newA (107, s, sgD, ρ) .int 1200 = (108, s + 1200, sgD, ρ) := cA rfl
theorem cT_107 (h : 107 < n) : mj_ty (n, s, sgD, ρ) .int 107 = some 1200 := cT h rfl
theorem cI_107 (h : 107 < n) : mj_ai (n, s, sgD, ρ) M 107 = some 1200 := cI h rfl
theorem cN_108 : mj_new (108, s, sgD, ρ) 4 = (109, s + 14, sgD, cP ρ 108 []) := cN rfl
theorem cO_108 (h : 108 < n) : mj_isO (n, s, sgD, ρ) 108 4 = true := cO h rfl
theorem cA_109 : mj_newA (109, s, sgD, ρ) .int 8 = (110, s + 8, sgD, ρ) := cA rfl
theorem cT_109 (h : 109 < n) : mj_ty (n, s, sgD, ρ) .int 109 = some 8 := cT h rfl
theorem cI_109 (h : 109 < n) : mj_ai (n, s, sgD, ρ) M 109 = some 8 := cI h rfl
theorem cA_110 : mj_newA (110, s, sgD, ρ) .int 8 = (111, s + 8, sgD, ρ) := cA rfl
theorem cT_110 (h : 110 < n) : mj_ty (n, s, sgD, ρ) .int 110 = some 8 := cT h rfl
theorem cI_110 (h : 110 < n) : mj_ai (n, s, sgD, ρ) M 110 = some 8 := cI h rfl
theorem cA_111 : mj_newA (111, s, sgD, ρ) .int 8 = (112, s + 8, sgD, ρ) := cA rfl
theorem cT_111 (h : 111 < n) : mj_ty (n, s, sgD, ρ) .int 111 = some 8 := cT h rfl
theorem cI_111 (h : 111 < n) : mj_ai (n, s, sgD, ρ) M 111 = some 8 := cI h rfl
theorem cA_112 : mj_newA (112, s, sgD, ρ) .int 8 = (113, s + 8, sgD, ρ) := cA rfl
theorem cT_112 (h : 112 < n) : mj_ty (n, s, sgD, ρ) .int 112 = some 8 := cT h rfl
theorem cI_112 (h : 112 < n) : mj_ai (n, s, sgD, ρ) M 112 = some 8 := cI h rfl
theorem cA_113 : mj_newA (113, s, sgD, ρ) .int 8 = (114, s + 8, sgD, ρ) := cA rfl
theorem cT_113 (h : 113 < n) : mj_ty (n, s, sgD, ρ) .int 113 = some 8 := cT h rfl
theorem cI_113 (h : 113 < n) : mj_ai (n, s, sgD, ρ) M 113 = some 8 := cI h rfl
theorem cA_114 : mj_newA (114, s, sgD, ρ) .int 8 = (115, s + 8, sgD, ρ) := cA rfl
theorem cT_114 (h : 114 < n) : mj_ty (n, s, sgD, ρ) .int 114 = some 8 := cT h rfl
theorem cI_114 (h : 114 < n) : mj_ai (n, s, sgD, ρ) M 114 = some 8 := cI h rfl
theorem cA_115 : mj_newA (115, s, sgD, ρ) .int 8 = (116, s + 8, sgD, ρ) := cA rfl
theorem cT_115 (h : 115 < n) : mj_ty (n, s, sgD, ρ) .int 115 = some 8 := cT h rfl
theorem cI_115 (h : 115 < n) : mj_ai (n, s, sgD, ρ) M 115 = some 8 := cI h rfl
theorem cA_116 : mj_newA (116, s, sgD, ρ) .int 8 = (117, s + 8, sgD, ρ) := cA rfl
theorem cT_116 (h : 116 < n) : mj_ty (n, s, sgD, ρ) .int 116 = some 8 := cT h rfl
theorem cI_116 (h : 116 < n) : mj_ai (n, s, sgD, ρ) M 116 = some 8 := cI h rfl
theorem cA_117 : mj_newA (117, s, sgD, ρ) .int 8 = (118, s + 8, sgD, ρ) := cA rfl
theorem cT_117 (h : 117 < n) : mj_ty (n, s, sgD, ρ) .int 117 = some 8 := cT h rfl
theorem cI_117 (h : 117 < n) : mj_ai (n, s, sgD, ρ) M 117 = some 8 := cI h rfl
theorem cA_118 : mj_newA (118, s, sgD, ρ) .int 8 = (119, s + 8, sgD, ρ) := cA rfl
theorem cT_118 (h : 118 < n) : mj_ty (n, s, sgD, ρ) .int 118 = some 8 := cT h rfl
theorem cI_118 (h : 118 < n) : mj_ai (n, s, sgD, ρ) M 118 = some 8 := cI h rfl
theorem cA_119 : mj_newA (119, s, sgD, ρ) .int 8 = (120, s + 8, sgD, ρ) := cA rfl
theorem cT_119 (h : 119 < n) : mj_ty (n, s, sgD, ρ) .int 119 = some 8 := cT h rfl
theorem cI_119 (h : 119 < n) : mj_ai (n, s, sgD, ρ) M 119 = some 8 := cI h rfl
theorem cA_120 : mj_newA (120, s, sgD, ρ) .int 8 = (121, s + 8, sgD, ρ) := cA rfl
theorem cT_120 (h : 120 < n) : mj_ty (n, s, sgD, ρ) .int 120 = some 8 := cT h rfl
theorem cI_120 (h : 120 < n) : mj_ai (n, s, sgD, ρ) M 120 = some 8 := cI h rfl
theorem cA_121 : mj_newA (121, s, sgD, ρ) .int 1280 = (122, s + 1280, sgD, ρ) := cA rfl
theorem cT_121 (h : 121 < n) : mj_ty (n, s, sgD, ρ) .int 121 = some 1280 := cT h rfl
theorem cI_121 (h : 121 < n) : mj_ai (n, s, sgD, ρ) M 121 = some 1280 := cI h rfl
theorem cN_122 : mj_new (122, s, sgD, ρ) 5 = (123, s + 6, sgD, cP ρ 122 []) := cN rfl
theorem cO_122 (h : 122 < n) : mj_isO (n, s, sgD, ρ) 122 5 = true := cO h rfl
theorem cA_123 : mj_newA (123, s, sgD, ρ) .int 20 = (124, s + 20, sgD, ρ) := cA rfl
theorem cT_123 (h : 123 < n) : mj_ty (n, s, sgD, ρ) .int 123 = some 20 := cT h rfl
theorem cI_123 (h : 123 < n) : mj_ai (n, s, sgD, ρ) M 123 = some 20 := cI h rfl
theorem cA_124 : mj_newA (124, s, sgD, ρ) .int 20 = (125, s + 20, sgD, ρ) := cA rfl
theorem cT_124 (h : 124 < n) : mj_ty (n, s, sgD, ρ) .int 124 = some 20 := cT h rfl
theorem cI_124 (h : 124 < n) : mj_ai (n, s, sgD, ρ) M 124 = some 20 := cI h rfl
theorem cA_125 : mj_newA (125, s, sgD, ρ) .int 20 = (126, s + 20, sgD, ρ) := cA rfl
theorem cT_125 (h : 125 < n) : mj_ty (n, s, sgD, ρ) .int 125 = some 20 := cT h rfl
theorem cI_125 (h : 125 < n) : mj_ai (n, s, sgD, ρ) M 125 = some 20 := cI h rfl
theorem cA_126 : mj_newA (126, s, sgD, ρ) .int 20 = (127, s + 20, sgD, ρ) := cA rfl
theorem cT_126 (h : 126 < n) : mj_ty (n, s, sgD, ρ) .int 126 = some 20 := cT h rfl
theorem cI_126 (h : 126 < n) : mj_ai (n, s, sgD, ρ) M 126 = some 20 := cI h rfl
theorem cA_127 : mj_newA (127, s, sgD, ρ) .int 20 = (128, s + 20, sgD, ρ) := cA rfl
theorem cT_127 (h : 127 < n) : mj_ty (n, s, sgD, ρ) .int 127 = some 20 := cT h rfl
theorem cI_127 (h : 127 < n) : mj_ai (n, s, sgD, ρ) M 127 = some 20 := cI h rfl
theorem cA_128 : mj_newA (128, s, sgD, ρ) .int 400 = (129, s + 400, sgD, ρ) := cA rfl
theorem cT_128 (h : 128 < n) : mj_ty (n, s, sgD, ρ) .int 128 = some 400 := cT h rfl
theorem cI_128 (h : 128 < n) : mj_ai (n, s, sgD, ρ) M 128 = some 400 := cI h rfl
theorem cA_129 : mj_newA (129, s, sgD, ρ) .int 16 = (130, s + 16, sgD, ρ) := cA rfl
theorem cT_129 (h : 129 < n) : mj_ty (n, s, sgD, ρ) .int 129 = some 16 := cT h rfl
theorem cI_129 (h : 129 < n) : mj_ai (n, s, sgD, ρ) M 129 = some 16 := cI h rfl
theorem cN_130 : mj_new (130, s, sgD, ρ) 6 = (131, s + 3, sgD, cP ρ 130 []) := cN rfl
theorem cO_130 (h : 130 < n) : mj_isO (n, s, sgD, ρ) 130 6 = true := cO h rfl
theorem cA_131 : mj_newA (131, s, sgD, ρ) .int 120 = (132, s + 120, sgD, ρ) := cA rfl
theorem cT_131 (h : 131 < n) : mj_ty (n, s, sgD, ρ) .int 131 = some 120 := cT h rfl
theorem cI_131 (h : 131 < n) : mj_ai (n, s, sgD, ρ) M 131 = some 120 := cI h rfl
theorem cN_132 : mj_new (132, s, sgD, ρ) 7 = (133, s + 3, sgD, cP ρ 132 []) := cN rfl
theorem cO_132 (h : 132 < n) : mj_isO (n, s, sgD, ρ) 132 7 = true := cO h rfl
theorem cN_133 : mj_new (133, s, sgD, ρ) 8 = (134, s + 4, sgD, cP ρ 133 []) := cN rfl
theorem cO_133 (h : 133 < n) : mj_isO (n, s, sgD, ρ) 133 8 = true := cO h rfl
theorem cN_134 : mj_new (134, s, sgD, ρ) 9 = (135, s + 4, sgD, cP ρ 134 []) := cN rfl
theorem cO_134 (h : 134 < n) : mj_isO (n, s, sgD, ρ) 134 9 = true := cO h rfl
theorem cA_136 : mj_newA (136, s, sgD, ρ) .int 180 = (137, s + 180, sgD, ρ) := cA rfl
theorem cT_136 (h : 136 < n) : mj_ty (n, s, sgD, ρ) .int 136 = some 180 := cT h rfl
theorem cI_136 (h : 136 < n) : mj_ai (n, s, sgD, ρ) M 136 = some 180 := cI h rfl
theorem cA_137 : mj_newA (137, s, sgD, ρ) .int 180 = (138, s + 180, sgD, ρ) := cA rfl
theorem cT_137 (h : 137 < n) : mj_ty (n, s, sgD, ρ) .int 137 = some 180 := cT h rfl
theorem cI_137 (h : 137 < n) : mj_ai (n, s, sgD, ρ) M 137 = some 180 := cI h rfl
theorem cA_138 : mj_newA (138, s, sgD, ρ) .int 180 = (139, s + 180, sgD, ρ) := cA rfl
theorem cT_138 (h : 138 < n) : mj_ty (n, s, sgD, ρ) .int 138 = some 180 := cT h rfl
theorem cI_138 (h : 138 < n) : mj_ai (n, s, sgD, ρ) M 138 = some 180 := cI h rfl
theorem cA_139 : mj_newA (139, s, sgD, ρ) .int 180 = (140, s + 180, sgD, ρ) := cA rfl
theorem cT_139 (h : 139 < n) : mj_ty (n, s, sgD, ρ) .int 139 = some 180 := cT h rfl
theorem cI_139 (h : 139 < n) : mj_ai (n, s, sgD, ρ) M 139 = some 180 := cI h rfl
theorem cA_140 : mj_newA (140, s, sgD, ρ) .int 180 = (141, s + 180, sgD, ρ) := cA rfl
theorem cT_140 (h : 140 < n) : mj_ty (n, s, sgD, ρ) .int 140 = some 180 := cT h rfl
theorem cI_140 (h : 140 < n) : mj_ai (n, s, sgD, ρ) M 140 = some 180 := cI h rfl
theorem cA_141 : mj_newA (141, s, sgD, ρ) .int 180 = (142, s + 180, sgD, ρ) := cA rfl
theorem cT_141 (h : 141 < n) : mj_ty (n, s, sgD, ρ) .int 141 = some 180 := cT h rfl
theorem cI_141 (h : 141 < n) : mj_ai (n, s, sgD, ρ) M 141 = some 180 := cI h rfl
theorem cA_142 : mj_newA (142, s, sgD, ρ) .int 180 = (143, s + 180, sgD, ρ) := cA rfl
theorem cT_142 (h : 142 < n) : mj_ty (n, s, sgD, ρ) .int 142 = some 180 := cT h rfl
theorem cI_142 (h : 142 < n) : mj_ai (n, s, sgD, ρ) M 142 = some 180 := cI h rfl
theorem cA_143 : mj_newA (143, s, sgD, ρ) .int 180 = (144, s + 180, sgD, ρ) := cA rfl
theorem cT_143 (h : 143 < n) : mj_ty (n, s, sgD, ρ) .int 143 = some 180 := cT h rfl
theorem cI_143 (h : 143 < n) : mj_ai (n, s, sgD, ρ) M 143 = some 180 := cI h rfl
theorem cA_144 : mj_newA (144, s, sgD, ρ) .int 180 = (145, s + 180, sgD, ρ) := cA rfl
theorem cT_144 (h : 144 < n) : mj_ty (n, s, sgD, ρ) .int 144 = some 180 := cT h rfl
theorem cI_144 (h : 144 < n) : mj_ai (n, s, sgD, ρ) M 144 = some 180 := cI h rfl
theorem cA_145 : mj_newA (145, s, sgD, ρ) .int 180 = (146, s + 180, sgD, ρ) := cA rfl
theorem cT_145 (h : 145 < n) : mj_ty (n, s, sgD, ρ) .int 145 = some 180 := cT h rfl
theorem cI_145 (h : 145 < n) : mj_ai (n, s, sgD, ρ) M 145 = some 180 := cI h rfl
theorem cA_146 : mj_newA (146, s, sgD, ρ) .int 180 = (147, s + 180, sgD, ρ) := cA rfl
theorem cT_146 (h : 146 < n) : mj_ty (n, s, sgD, ρ) .int 146 = some 180 := cT h rfl
theorem cI_146 (h : 146 < n) : mj_ai (n, s, sgD, ρ) M 146 = some 180 := cI h rfl
theorem cA_147 : mj_newA (147, s, sgD, ρ) .int 180 = (148, s + 180, sgD, ρ) := cA rfl
theorem cT_147 (h : 147 < n) : mj_ty (n, s, sgD, ρ) .int 147 = some 180 := cT h rfl
theorem cI_147 (h : 147 < n) : mj_ai (n, s, sgD, ρ) M 147 = some 180 := cI h rfl
theorem cA_148 : mj_newA (148, s, sgD, ρ) .int 180 = (149, s + 180, sgD, ρ) := cA rfl
theorem cT_148 (h : 148 < n) : mj_ty (n, s, sgD, ρ) .int 148 = some 180 := cT h rfl
theorem cI_148 (h : 148 < n) : mj_ai (n, s, sgD, ρ) M 148 = some 180 := cI h rfl
theorem cA_149 : mj_newA (149, s, sgD, ρ) .int 180 = (150, s + 180, sgD, ρ) := cA rfl
theorem cT_149 (h : 149 < n) : mj_ty (n, s, sgD, ρ) .int 149 = some 180 := cT h rfl
theorem cI_149 (h : 149 < n) : mj_ai (n, s, sgD, ρ) M 149 = some 180 := cI h rfl
theorem cA_150 : mj_newA (150, s, sgD, ρ) .int 180 = (151, s + 180, sgD, ρ) := cA rfl
theorem cT_150 (h : 150 < n) : mj_ty (n, s, sgD, ρ) .int 150 = some 180 := cT h rfl
theorem cI_150 (h : 150 < n) : mj_ai (n, s, sgD, ρ) M 150 = some 180 := cI h rfl
theorem cA_151 : mj_newA (151, s, sgD, ρ) .int 180 = (152, s + 180, sgD, ρ) := cA rfl
theorem cT_151 (h : 151 < n) : mj_ty (n, s, sgD, ρ) .int 151 = some 180 := cT h rfl
theorem cI_151 (h : 151 < n) : mj_ai (n, s, sgD, ρ) M 151 = some 180 := cI h rfl
theorem cN_152 : mj_new (152, s, sgD, ρ) 10 = (153, s + 5, sgD, cP ρ 152 []) := cN rfl
theorem cO_152 (h : 152 < n) : mj_isO (n, s, sgD, ρ) 152 10 = true := cO h rfl
theorem cA_153 : mj_newA (153, s, sgD, ρ) .int 1600 = (154, s + 1600, sgD, ρ) := cA rfl
theorem cT_153 (h : 153 < n) : mj_ty (n, s, sgD, ρ) .int 153 = some 1600 := cT h rfl
theorem cI_153 (h : 153 < n) : mj_ai (n, s, sgD, ρ) M 153 = some 1600 := cI h rfl
theorem cA_154 : mj_newA (154, s, sgD, ρ) .int 1600 = (155, s + 1600, sgD, ρ) := cA rfl
theorem cT_154 (h : 154 < n) : mj_ty (n, s, sgD, ρ) .int 154 = some 1600 := cT h rfl
theorem cI_154 (h : 154 < n) : mj_ai (n, s, sgD, ρ) M 154 = some 1600 := cI h rfl
theorem cA_155 : mj_newA (155, s, sgD, ρ) .long 40 = (156, s + 40, sgD, ρ) := cA rfl
theorem cT_155 (h : 155 < n) : mj_ty (n, s, sgD, ρ) .long 155 = some 40 := cT h rfl
theorem cA_156 : mj_newA (156, s, sgD, ρ) .long 40 = (157, s + 40, sgD, ρ) := cA rfl
theorem cT_156 (h : 156 < n) : mj_ty (n, s, sgD, ρ) .long 156 = some 40 := cT h rfl
theorem cN_157 : mj_new (157, s, sgD, ρ) 11 = (158, s + 10, sgD, cP ρ 157 []) := cN rfl
theorem cO_157 (h : 157 < n) : mj_isO (n, s, sgD, ρ) 157 11 = true := cO h rfl
theorem cA_158 : mj_newA (158, s, sgD, ρ) .int 160 = (159, s + 160, sgD, ρ) := cA rfl
theorem cT_158 (h : 158 < n) : mj_ty (n, s, sgD, ρ) .int 158 = some 160 := cT h rfl
theorem cI_158 (h : 158 < n) : mj_ai (n, s, sgD, ρ) M 158 = some 160 := cI h rfl
theorem cA_159 : mj_newA (159, s, sgD, ρ) .int 160 = (160, s + 160, sgD, ρ) := cA rfl
theorem cT_159 (h : 159 < n) : mj_ty (n, s, sgD, ρ) .int 159 = some 160 := cT h rfl
theorem cI_159 (h : 159 < n) : mj_ai (n, s, sgD, ρ) M 159 = some 160 := cI h rfl
theorem cA_160 : mj_newA (160, s, sgD, ρ) .int 160 = (161, s + 160, sgD, ρ) := cA rfl
theorem cT_160 (h : 160 < n) : mj_ty (n, s, sgD, ρ) .int 160 = some 160 := cT h rfl
theorem cI_160 (h : 160 < n) : mj_ai (n, s, sgD, ρ) M 160 = some 160 := cI h rfl
theorem cA_161 : mj_newA (161, s, sgD, ρ) .int 160 = (162, s + 160, sgD, ρ) := cA rfl
theorem cT_161 (h : 161 < n) : mj_ty (n, s, sgD, ρ) .int 161 = some 160 := cT h rfl
theorem cI_161 (h : 161 < n) : mj_ai (n, s, sgD, ρ) M 161 = some 160 := cI h rfl
theorem cA_162 : mj_newA (162, s, sgD, ρ) .int 0 = (163, s + 0, sgD, ρ) := cA rfl
theorem cT_162 (h : 162 < n) : mj_ty (n, s, sgD, ρ) .int 162 = some 0 := cT h rfl
theorem cI_162 (h : 162 < n) : mj_ai (n, s, sgD, ρ) M 162 = some 0 := cI h rfl
theorem cA_164 : mj_newA (164, s, sgD, ρ) .int 160 = (165, s + 160, sgD, ρ) := cA rfl
theorem cT_164 (h : 164 < n) : mj_ty (n, s, sgD, ρ) .int 164 = some 160 := cT h rfl
theorem cI_164 (h : 164 < n) : mj_ai (n, s, sgD, ρ) M 164 = some 160 := cI h rfl
theorem cA_165 : mj_newA (165, s, sgD, ρ) .int 160 = (166, s + 160, sgD, ρ) := cA rfl
theorem cT_165 (h : 165 < n) : mj_ty (n, s, sgD, ρ) .int 165 = some 160 := cT h rfl
theorem cI_165 (h : 165 < n) : mj_ai (n, s, sgD, ρ) M 165 = some 160 := cI h rfl
theorem cA_166 : mj_newA (166, s, sgD, ρ) .int 160 = (167, s + 160, sgD, ρ) := cA rfl
theorem cT_166 (h : 166 < n) : mj_ty (n, s, sgD, ρ) .int 166 = some 160 := cT h rfl
theorem cI_166 (h : 166 < n) : mj_ai (n, s, sgD, ρ) M 166 = some 160 := cI h rfl
theorem cA_167 : mj_newA (167, s, sgD, ρ) .int 160 = (168, s + 160, sgD, ρ) := cA rfl
theorem cT_167 (h : 167 < n) : mj_ty (n, s, sgD, ρ) .int 167 = some 160 := cT h rfl
theorem cI_167 (h : 167 < n) : mj_ai (n, s, sgD, ρ) M 167 = some 160 := cI h rfl
theorem cA_168 : mj_newA (168, s, sgD, ρ) .int 4 = (169, s + 4, sgD, ρ) := cA rfl
theorem cT_168 (h : 168 < n) : mj_ty (n, s, sgD, ρ) .int 168 = some 4 := cT h rfl
theorem cI_168 (h : 168 < n) : mj_ai (n, s, sgD, ρ) M 168 = some 4 := cI h rfl
theorem cA_169 : mj_newA (169, s, sgD, ρ) .int 60 = (170, s + 60, sgD, ρ) := cA rfl
theorem cT_169 (h : 169 < n) : mj_ty (n, s, sgD, ρ) .int 169 = some 60 := cT h rfl
theorem cI_169 (h : 169 < n) : mj_ai (n, s, sgD, ρ) M 169 = some 60 := cI h rfl
theorem cA_170 : mj_newA (170, s, sgD, ρ) .int 160 = (171, s + 160, sgD, ρ) := cA rfl
theorem cT_170 (h : 170 < n) : mj_ty (n, s, sgD, ρ) .int 170 = some 160 := cT h rfl
theorem cI_170 (h : 170 < n) : mj_ai (n, s, sgD, ρ) M 170 = some 160 := cI h rfl
theorem cA_171 : mj_newA (171, s, sgD, ρ) .int 9 = (172, s + 9, sgD, ρ) := cA rfl
theorem cT_171 (h : 171 < n) : mj_ty (n, s, sgD, ρ) .int 171 = some 9 := cT h rfl
theorem cI_171 (h : 171 < n) : mj_ai (n, s, sgD, ρ) M 171 = some 9 := cI h rfl
theorem cN_172 : mj_new (172, s, sgD, ρ) 12 = (173, s + 24, sgD, cP ρ 172 []) := cN rfl
theorem cO_172 (h : 172 < n) : mj_isO (n, s, sgD, ρ) 172 12 = true := cO h rfl
theorem cA_173 : mj_newA (173, s, sgD, ρ) .int 6172 = (174, s + 6172, sgD, ρ) := cA rfl
theorem cT_173 (h : 173 < n) : mj_ty (n, s, sgD, ρ) .int 173 = some 6172 := cT h rfl
theorem cI_173 (h : 173 < n) : mj_ai (n, s, sgD, ρ) M 173 = some 6172 := cI h rfl
theorem cA_174 : mj_newA (174, s, sgD, ρ) .int 9 = (175, s + 9, sgD, ρ) := cA rfl
theorem cT_174 (h : 174 < n) : mj_ty (n, s, sgD, ρ) .int 174 = some 9 := cT h rfl
theorem cI_174 (h : 174 < n) : mj_ai (n, s, sgD, ρ) M 174 = some 9 := cI h rfl
theorem cA_175 : mj_newA (175, s, sgD, ρ) .int 6172 = (176, s + 6172, sgD, ρ) := cA rfl
theorem cT_175 (h : 175 < n) : mj_ty (n, s, sgD, ρ) .int 175 = some 6172 := cT h rfl
theorem cI_175 (h : 175 < n) : mj_ai (n, s, sgD, ρ) M 175 = some 6172 := cI h rfl
theorem cA_176 : mj_newA (176, s, sgD, ρ) .int 3840 = (177, s + 3840, sgD, ρ) := cA rfl
theorem cT_176 (h : 176 < n) : mj_ty (n, s, sgD, ρ) .int 176 = some 3840 := cT h rfl
theorem cI_176 (h : 176 < n) : mj_ai (n, s, sgD, ρ) M 176 = some 3840 := cI h rfl
theorem cA_177 : mj_newA (177, s, sgD, ρ) .int 1600 = (178, s + 1600, sgD, ρ) := cA rfl
theorem cT_177 (h : 177 < n) : mj_ty (n, s, sgD, ρ) .int 177 = some 1600 := cT h rfl
theorem cI_177 (h : 177 < n) : mj_ai (n, s, sgD, ρ) M 177 = some 1600 := cI h rfl
theorem cA_178 : mj_newA (178, s, sgD, ρ) .int 1600 = (179, s + 1600, sgD, ρ) := cA rfl
theorem cT_178 (h : 178 < n) : mj_ty (n, s, sgD, ρ) .int 178 = some 1600 := cT h rfl
theorem cI_178 (h : 178 < n) : mj_ai (n, s, sgD, ρ) M 178 = some 1600 := cI h rfl
theorem cA_179 : mj_newA (179, s, sgD, ρ) .int 160 = (180, s + 160, sgD, ρ) := cA rfl
theorem cT_179 (h : 179 < n) : mj_ty (n, s, sgD, ρ) .int 179 = some 160 := cT h rfl
theorem cI_179 (h : 179 < n) : mj_ai (n, s, sgD, ρ) M 179 = some 160 := cI h rfl
theorem cA_180 : mj_newA (180, s, sgD, ρ) .int 6172 = (181, s + 6172, sgD, ρ) := cA rfl
theorem cT_180 (h : 180 < n) : mj_ty (n, s, sgD, ρ) .int 180 = some 6172 := cT h rfl
theorem cI_180 (h : 180 < n) : mj_ai (n, s, sgD, ρ) M 180 = some 6172 := cI h rfl
theorem cA_181 : mj_newA (181, s, sgD, ρ) .boolean 4 = (182, s + 4, sgD, ρ) := cA rfl
theorem cT_181 (h : 181 < n) : mj_ty (n, s, sgD, ρ) .boolean 181 = some 4 := cT h rfl
theorem cA_182 : mj_newA (182, s, sgD, ρ) .int 4 = (183, s + 4, sgD, ρ) := cA rfl
theorem cT_182 (h : 182 < n) : mj_ty (n, s, sgD, ρ) .int 182 = some 4 := cT h rfl
theorem cI_182 (h : 182 < n) : mj_ai (n, s, sgD, ρ) M 182 = some 4 := cI h rfl
theorem cA_183 : mj_newA (183, s, sgD, ρ) .int 640 = (184, s + 640, sgD, ρ) := cA rfl
theorem cT_183 (h : 183 < n) : mj_ty (n, s, sgD, ρ) .int 183 = some 640 := cT h rfl
theorem cI_183 (h : 183 < n) : mj_ai (n, s, sgD, ρ) M 183 = some 640 := cI h rfl
theorem cA_184 : mj_newA (184, s, sgD, ρ) .int 60 = (185, s + 60, sgD, ρ) := cA rfl
theorem cT_184 (h : 184 < n) : mj_ty (n, s, sgD, ρ) .int 184 = some 60 := cT h rfl
theorem cI_184 (h : 184 < n) : mj_ai (n, s, sgD, ρ) M 184 = some 60 := cI h rfl
end ini2
