section ops
variable {d k pc n : Nat} {L st : List mj_V} {G : mj_G} {M : mj_M} {Q : Option mj_V → mj_G → mj_M → Prop} {l0 l1 l2 l3 l4 l5 l6 l7 l8 l9 l10 : mj_V} {x y z c off : Int} {a b j : Nat}
theorem op_go {i : Instr} {pc' : Nat} {L' st' : List mj_V} {G' : mj_G} {M' : mj_M} (h : mj_code k pc = some (i, n)) (hs : mj_step k pc L st G M i n = some (.inl (pc', L', st', G', M'))) : mj_Rn d k pc L st G M Q = mj_Rn d k pc' L' st' G' M' Q := by
  rw [mj_Rn_eq, mj_st1, h]; dsimp only; rw [hs]; rfl
theorem op_iconst (h : mj_code k pc = some (.iconst c, n)) : mj_Rn d k pc L st G M Q = mj_Rn d k (pc + n) L (.inl c :: st) G M Q := op_go h rfl
theorem op_bipush (h : mj_code k pc = some (.bipush c, n)) : mj_Rn d k pc L st G M Q = mj_Rn d k (pc + n) L (.inl c :: st) G M Q := op_go h rfl
theorem op_sipush (h : mj_code k pc = some (.sipush c, n)) : mj_Rn d k pc L st G M Q = mj_Rn d k (pc + n) L (.inl c :: st) G M Q := op_go h rfl
theorem op_lconst {q : Fin 2} (h : mj_code k pc = some (.lconst q, n)) : mj_Rn d k pc L st G M Q = mj_Rn d k (pc + n) L (.inr (.inr q.val) :: st) G M Q := op_go h rfl
theorem op_iload_n {q : Fin 4} (h : mj_code k pc = some (.iload_n q, n)) (hl : L[q.val]? = some (.inl x)) : mj_Rn d k pc L st G M Q = mj_Rn d k (pc + n) L (.inl x :: st) G M Q := op_go h (by rw [mj_step, hl]; rfl)
theorem op_iload (h : mj_code k pc = some (.iload j, n)) (hl : L[j]? = some (.inl x)) : mj_Rn d k pc L st G M Q = mj_Rn d k (pc + n) L (.inl x :: st) G M Q := op_go h (by rw [mj_step, hl]; rfl)
theorem op_aload_n {q : Fin 4} (h : mj_code k pc = some (.aload_n q, n)) (hl : L[q.val]? = some (.inr (.inl a))) : mj_Rn d k pc L st G M Q = mj_Rn d k (pc + n) L (.inr (.inl a) :: st) G M Q := op_go h (by rw [mj_step, hl]; rfl)
theorem op_aload (h : mj_code k pc = some (.aload j, n)) (hl : L[j]? = some (.inr (.inl a))) : mj_Rn d k pc L st G M Q = mj_Rn d k (pc + n) L (.inr (.inl a) :: st) G M Q := op_go h (by rw [mj_step, hl]; rfl)
theorem op_istore_n {q : Fin 4} (h : mj_code k pc = some (.istore_n q, n)) (hl : q.val < L.length) : mj_Rn d k pc L (.inl x :: st) G M Q = mj_Rn d k (pc + n) (L.set q.val (.inl x)) st G M Q := op_go h (by rw [mj_step]; exact if_pos hl)
theorem op_istore (h : mj_code k pc = some (.istore j, n)) (hl : j < L.length) : mj_Rn d k pc L (.inl x :: st) G M Q = mj_Rn d k (pc + n) (L.set j (.inl x)) st G M Q := op_go h (by rw [mj_step]; exact if_pos hl)
theorem op_astore_n {q : Fin 4} (h : mj_code k pc = some (.astore_n q, n)) (hl : q.val < L.length) : mj_Rn d k pc L (.inr (.inl a) :: st) G M Q = mj_Rn d k (pc + n) (L.set q.val (.inr (.inl a))) st G M Q := op_go h (by rw [mj_step]; exact if_pos hl)
theorem op_astore (h : mj_code k pc = some (.astore j, n)) (hl : j < L.length) : mj_Rn d k pc L (.inr (.inl a) :: st) G M Q = mj_Rn d k (pc + n) (L.set j (.inr (.inl a))) st G M Q := op_go h (by rw [mj_step]; exact if_pos hl)
theorem op_iinc (h : mj_code k pc = some (.iinc j c, n)) (hl : L[j]? = some (.inl x)) : mj_Rn d k pc L st G M Q = mj_Rn d k (pc + n) (L.set j (.inl (mj_w (x + c)))) st G M Q := op_go h (by rw [mj_step, hl]; rfl)
theorem op_dupI (h : mj_code k pc = some (.dup, n)) : mj_Rn d k pc L (.inl x :: st) G M Q = mj_Rn d k (pc + n) L (.inl x :: .inl x :: st) G M Q := op_go h rfl
theorem op_dupA (h : mj_code k pc = some (.dup, n)) : mj_Rn d k pc L (.inr (.inl a) :: st) G M Q = mj_Rn d k (pc + n) L (.inr (.inl a) :: .inr (.inl a) :: st) G M Q := op_go h rfl
theorem op_dup2 (h : mj_code k pc = some (.dup2, n)) : mj_Rn d k pc L (.inl x :: .inr (.inl a) :: st) G M Q = mj_Rn d k (pc + n) L (.inl x :: .inr (.inl a) :: .inl x :: .inr (.inl a) :: st) G M Q := op_go h rfl
theorem op_popI (h : mj_code k pc = some (.pop, n)) : mj_Rn d k pc L (.inl x :: st) G M Q = mj_Rn d k (pc + n) L st G M Q := op_go h rfl
theorem op_iadd (h : mj_code k pc = some (.iadd, n)) : mj_Rn d k pc L (.inl y :: .inl x :: st) G M Q = mj_Rn d k (pc + n) L (.inl (mj_w (x + y)) :: st) G M Q := op_go h rfl
theorem op_isub (h : mj_code k pc = some (.isub, n)) : mj_Rn d k pc L (.inl y :: .inl x :: st) G M Q = mj_Rn d k (pc + n) L (.inl (mj_w (x - y)) :: st) G M Q := op_go h rfl
theorem op_imul (h : mj_code k pc = some (.imul, n)) : mj_Rn d k pc L (.inl y :: .inl x :: st) G M Q = mj_Rn d k (pc + n) L (.inl (mj_w (x * y)) :: st) G M Q := op_go h rfl
theorem op_iand (h : mj_code k pc = some (.iand, n)) : mj_Rn d k pc L (.inl y :: .inl x :: st) G M Q = mj_Rn d k (pc + n) L (.inl (mj_and x y) :: st) G M Q := op_go h rfl
theorem op_ior (h : mj_code k pc = some (.ior, n)) : mj_Rn d k pc L (.inl y :: .inl x :: st) G M Q = mj_Rn d k (pc + n) L (.inl (mj_or x y) :: st) G M Q := op_go h rfl
theorem op_ishl (h : mj_code k pc = some (.ishl, n)) : mj_Rn d k pc L (.inl y :: .inl x :: st) G M Q = mj_Rn d k (pc + n) L (.inl (mj_shl x y) :: st) G M Q := op_go h rfl
theorem op_ishr (h : mj_code k pc = some (.ishr, n)) : mj_Rn d k pc L (.inl y :: .inl x :: st) G M Q = mj_Rn d k (pc + n) L (.inl (mj_shr x y) :: st) G M Q := op_go h rfl
theorem op_iushr (h : mj_code k pc = some (.iushr, n)) : mj_Rn d k pc L (.inl y :: .inl x :: st) G M Q = mj_Rn d k (pc + n) L (.inl (mj_ushr x y) :: st) G M Q := op_go h rfl
theorem op_ineg (h : mj_code k pc = some (.ineg, n)) : mj_Rn d k pc L (.inl x :: st) G M Q = mj_Rn d k (pc + n) L (.inl (mj_w (-x)) :: st) G M Q := op_go h rfl
theorem op_idiv (h : mj_code k pc = some (.idiv, n)) : mj_Rn d k pc L (.inl y :: .inl x :: st) G M Q = (y ≠ 0 ∧ mj_Rn d k (pc + n) L (.inl (mj_w (x.tdiv y)) :: st) G M Q) := by
  rw [mj_Rn_eq, mj_st1, h]; dsimp only [mj_step]; by_cases hy : y = 0 <;> simp [hy, mj_pr, mj_nx]
theorem op_irem (h : mj_code k pc = some (.irem, n)) : mj_Rn d k pc L (.inl y :: .inl x :: st) G M Q = (y ≠ 0 ∧ mj_Rn d k (pc + n) L (.inl (x.tmod y) :: st) G M Q) := by
  rw [mj_Rn_eq, mj_st1, h]; dsimp only [mj_step]; by_cases hy : y = 0 <;> simp [hy, mj_pr, mj_nx]
theorem op_land (h : mj_code k pc = some (.land, n)) : mj_Rn d k pc L (.inr (.inr y) :: .inr (.inr x) :: st) G M Q = mj_Rn d k (pc + n) L (.inr (.inr (mj_landl x y)) :: st) G M Q := op_go h rfl
theorem op_lor (h : mj_code k pc = some (.lor, n)) : mj_Rn d k pc L (.inr (.inr y) :: .inr (.inr x) :: st) G M Q = mj_Rn d k (pc + n) L (.inr (.inr (mj_lorl x y)) :: st) G M Q := op_go h rfl
theorem op_lshl (h : mj_code k pc = some (.lshl, n)) : mj_Rn d k pc L (.inl y :: .inr (.inr x) :: st) G M Q = mj_Rn d k (pc + n) L (.inr (.inr (mj_lshl x y)) :: st) G M Q := op_go h rfl
theorem op_lcmp (h : mj_code k pc = some (.lcmp, n)) : mj_Rn d k pc L (.inr (.inr y) :: .inr (.inr x) :: st) G M Q = mj_Rn d k (pc + n) L (.inl (if y < x then 1 else if x = y then 0 else -1) :: st) G M Q := op_go h rfl
theorem op_goto {t : Nat} (h : mj_code k pc = some (.goto off, n)) (ht : mj_tgt pc off = t) : mj_Rn d k pc L st G M Q = mj_Rn d k t L st G M Q := by subst ht; exact op_go h rfl
theorem op_br {t : Nat} {i : Instr} {A B : Prop} {L' st' : List mj_V} {C : ClassFile.Cond} (h : mj_code k pc = some (i, n)) (ht : mj_tgt pc off = t) (hs : mj_step k pc L st G M i n = mj_br C x y (mj_nx (mj_tgt pc off) L' st' G M) (mj_nx (pc + n) L' st' G M)) :
    mj_Rn d k pc L st G M Q = mj_br C x y (mj_Rn d k t L' st' G M Q) (mj_Rn d k (pc + n) L' st' G M Q) := by
  subst ht
  rw [mj_Rn_eq, mj_st1, h]; dsimp only; rw [hs]
  cases C <;> simp only [mj_br] <;> split <;> rfl
theorem br_and {c A B : Prop} [Decidable c] : (if c then A else B) = ((c → A) ∧ (¬ c → B)) := by by_cases h : c <;> simp [h]
theorem br_and' {c A B : Prop} [Decidable c] : (if c then A else B) = ((¬ c → B) ∧ (c → A)) := by by_cases h : c <;> simp [h]
theorem op_eq {t : Nat} (h : mj_code k pc = some (.if_icmp .eq off, n)) (ht : mj_tgt pc off = t) : mj_Rn d k pc L (.inl y :: .inl x :: st) G M Q = ((x = y → mj_Rn d k t L st G M Q) ∧ (¬ x = y → mj_Rn d k (pc + n) L st G M Q)) := (op_br (A := True) (B := True) (C := .eq) (x := x) (y := y) (L' := L) (st' := st) h ht rfl).trans br_and
theorem op_ne {t : Nat} (h : mj_code k pc = some (.if_icmp .ne off, n)) (ht : mj_tgt pc off = t) : mj_Rn d k pc L (.inl y :: .inl x :: st) G M Q = ((¬ x = y → mj_Rn d k t L st G M Q) ∧ (x = y → mj_Rn d k (pc + n) L st G M Q)) := (op_br (A := True) (B := True) (C := .ne) (x := x) (y := y) (L' := L) (st' := st) h ht rfl).trans br_and'
theorem op_lt {t : Nat} (h : mj_code k pc = some (.if_icmp .lt off, n)) (ht : mj_tgt pc off = t) : mj_Rn d k pc L (.inl y :: .inl x :: st) G M Q = ((x < y → mj_Rn d k t L st G M Q) ∧ (¬ x < y → mj_Rn d k (pc + n) L st G M Q)) := (op_br (A := True) (B := True) (C := .lt) (x := x) (y := y) (L' := L) (st' := st) h ht rfl).trans br_and
theorem op_ge {t : Nat} (h : mj_code k pc = some (.if_icmp .ge off, n)) (ht : mj_tgt pc off = t) : mj_Rn d k pc L (.inl y :: .inl x :: st) G M Q = ((¬ x < y → mj_Rn d k t L st G M Q) ∧ (x < y → mj_Rn d k (pc + n) L st G M Q)) := (op_br (A := True) (B := True) (C := .ge) (x := x) (y := y) (L' := L) (st' := st) h ht rfl).trans br_and'
theorem op_gt {t : Nat} (h : mj_code k pc = some (.if_icmp .gt off, n)) (ht : mj_tgt pc off = t) : mj_Rn d k pc L (.inl y :: .inl x :: st) G M Q = ((y < x → mj_Rn d k t L st G M Q) ∧ (¬ y < x → mj_Rn d k (pc + n) L st G M Q)) := (op_br (A := True) (B := True) (C := .gt) (x := x) (y := y) (L' := L) (st' := st) h ht rfl).trans br_and
theorem op_le {t : Nat} (h : mj_code k pc = some (.if_icmp .le off, n)) (ht : mj_tgt pc off = t) : mj_Rn d k pc L (.inl y :: .inl x :: st) G M Q = ((¬ y < x → mj_Rn d k t L st G M Q) ∧ (y < x → mj_Rn d k (pc + n) L st G M Q)) := (op_br (A := True) (B := True) (C := .le) (x := x) (y := y) (L' := L) (st' := st) h ht rfl).trans br_and'
theorem op_eq0 {t : Nat} (h : mj_code k pc = some (.ifCond .eq off, n)) (ht : mj_tgt pc off = t) : mj_Rn d k pc L (.inl x :: st) G M Q = ((x = 0 → mj_Rn d k t L st G M Q) ∧ (¬ x = 0 → mj_Rn d k (pc + n) L st G M Q)) := (op_br (A := True) (B := True) (C := .eq) (x := x) (y := 0) (L' := L) (st' := st) h ht rfl).trans br_and
theorem op_ne0 {t : Nat} (h : mj_code k pc = some (.ifCond .ne off, n)) (ht : mj_tgt pc off = t) : mj_Rn d k pc L (.inl x :: st) G M Q = ((¬ x = 0 → mj_Rn d k t L st G M Q) ∧ (x = 0 → mj_Rn d k (pc + n) L st G M Q)) := (op_br (A := True) (B := True) (C := .ne) (x := x) (y := 0) (L' := L) (st' := st) h ht rfl).trans br_and'
theorem op_lt0 {t : Nat} (h : mj_code k pc = some (.ifCond .lt off, n)) (ht : mj_tgt pc off = t) : mj_Rn d k pc L (.inl x :: st) G M Q = ((x < 0 → mj_Rn d k t L st G M Q) ∧ (¬ x < 0 → mj_Rn d k (pc + n) L st G M Q)) := (op_br (A := True) (B := True) (C := .lt) (x := x) (y := 0) (L' := L) (st' := st) h ht rfl).trans br_and
theorem op_ge0 {t : Nat} (h : mj_code k pc = some (.ifCond .ge off, n)) (ht : mj_tgt pc off = t) : mj_Rn d k pc L (.inl x :: st) G M Q = ((¬ x < 0 → mj_Rn d k t L st G M Q) ∧ (x < 0 → mj_Rn d k (pc + n) L st G M Q)) := (op_br (A := True) (B := True) (C := .ge) (x := x) (y := 0) (L' := L) (st' := st) h ht rfl).trans br_and'
theorem op_gt0 {t : Nat} (h : mj_code k pc = some (.ifCond .gt off, n)) (ht : mj_tgt pc off = t) : mj_Rn d k pc L (.inl x :: st) G M Q = ((0 < x → mj_Rn d k t L st G M Q) ∧ (¬ 0 < x → mj_Rn d k (pc + n) L st G M Q)) := (op_br (A := True) (B := True) (C := .gt) (x := x) (y := 0) (L' := L) (st' := st) h ht rfl).trans br_and
theorem op_le0 {t : Nat} (h : mj_code k pc = some (.ifCond .le off, n)) (ht : mj_tgt pc off = t) : mj_Rn d k pc L (.inl x :: st) G M Q = ((¬ 0 < x → mj_Rn d k t L st G M Q) ∧ (0 < x → mj_Rn d k (pc + n) L st G M Q)) := (op_br (A := True) (B := True) (C := .le) (x := x) (y := 0) (L' := L) (st' := st) h ht rfl).trans br_and'
theorem mj_at_le {o : Option Nat} {P : Nat → Prop} : (∃ len, o = some len ∧ P len) = (match o with | some len => P len | none => False) := by cases o <;> simp
theorem op_iaload (h : mj_code k pc = some (.iaload, n)) : mj_Rn d k pc L (.inl x :: .inr (.inl a) :: st) G M Q = (∃ len, mj_ai G M a = some len ∧ (0 ≤ x ∧ x < len) ∧ mj_Rn d k (pc + n) L (.inl (M a x.toNat) :: st) G M Q) := by
  rw [mj_Rn_eq, mj_st1, h]; dsimp only [mj_step]
  cases mj_ai G M a with
  | none => simp [mj_pr]
  | some len => by_cases hc : 0 ≤ x ∧ x < (len : Int) <;> simp [hc, mj_pr, mj_nx]
theorem op_baload (h : mj_code k pc = some (.baload, n)) : mj_Rn d k pc L (.inl x :: .inr (.inl a) :: st) G M Q = (∃ len, mj_ty G .boolean a = some len ∧ (0 ≤ x ∧ x < len) ∧ mj_Rn d k (pc + n) L (.inl (M a x.toNat) :: st) G M Q) := by
  rw [mj_Rn_eq, mj_st1, h]; dsimp only [mj_step]
  cases mj_ty G .boolean a with
  | none => simp [mj_pr]
  | some len => by_cases hc : 0 ≤ x ∧ x < (len : Int) <;> simp [hc, mj_pr, mj_nx]
theorem op_laload (h : mj_code k pc = some (.laload, n)) : mj_Rn d k pc L (.inl x :: .inr (.inl a) :: st) G M Q = (∃ len, mj_ty G .long a = some len ∧ (0 ≤ x ∧ x < len) ∧ mj_Rn d k (pc + n) L (.inr (.inr (M a x.toNat)) :: st) G M Q) := by
  rw [mj_Rn_eq, mj_st1, h]; dsimp only [mj_step]
  cases mj_ty G .long a with
  | none => simp [mj_pr]
  | some len => by_cases hc : 0 ≤ x ∧ x < (len : Int) <;> simp [hc, mj_pr, mj_nx]
theorem op_aaload (h : mj_code k pc = some (.aaload, n)) : mj_Rn d k pc L (.inl x :: .inr (.inl a) :: st) G M Q = (∃ len, mj_ty G (.array .int) a = some len ∧ (0 ≤ x ∧ x < len) ∧ mj_Rn d k (pc + n) L (.inr (.inl (G.2.2.2 a x.toNat)) :: st) G M Q) := by
  rw [mj_Rn_eq, mj_st1, h]; dsimp only [mj_step]
  cases mj_ty G (.array .int) a with
  | none => simp [mj_pr]
  | some len => by_cases hc : 0 ≤ x ∧ x < (len : Int) <;> simp [hc, mj_pr, mj_nx]
theorem op_iastore (h : mj_code k pc = some (.iastore, n)) : mj_Rn d k pc L (.inl y :: .inl x :: .inr (.inl a) :: st) G M Q = (∃ len, mj_ty G .int a = some len ∧ (0 ≤ x ∧ x < len) ∧ mj_Rn d k (pc + n) L st G (mj_up M a x.toNat y) Q) := by
  rw [mj_Rn_eq, mj_st1, h]; dsimp only [mj_step]
  cases mj_ty G .int a with
  | none => simp [mj_pr]
  | some len => by_cases hc : 0 ≤ x ∧ x < (len : Int) <;> simp [hc, mj_pr, mj_nx]
theorem op_bastore (h : mj_code k pc = some (.bastore, n)) : mj_Rn d k pc L (.inl y :: .inl x :: .inr (.inl a) :: st) G M Q = (∃ len, mj_ty G .boolean a = some len ∧ (0 ≤ x ∧ x < len ∧ 0 ≤ y ∧ y ≤ 1) ∧ mj_Rn d k (pc + n) L st G (mj_up M a x.toNat y) Q) := by
  rw [mj_Rn_eq, mj_st1, h]; dsimp only [mj_step]
  cases mj_ty G .boolean a with
  | none => simp [mj_pr]
  | some len => by_cases hc : 0 ≤ x ∧ x < (len : Int) ∧ 0 ≤ y ∧ y ≤ 1 <;> simp [hc, mj_pr, mj_nx]
theorem op_lastore (h : mj_code k pc = some (.lastore, n)) : mj_Rn d k pc L (.inr (.inr y) :: .inl x :: .inr (.inl a) :: st) G M Q = (∃ len, mj_ty G .long a = some len ∧ (0 ≤ x ∧ x < len) ∧ mj_Rn d k (pc + n) L st G (mj_up M a x.toNat y) Q) := by
  rw [mj_Rn_eq, mj_st1, h]; dsimp only [mj_step]
  cases mj_ty G .long a with
  | none => simp [mj_pr]
  | some len => by_cases hc : 0 ≤ x ∧ x < (len : Int) <;> simp [hc, mj_pr, mj_nx]
theorem op_alen (h : mj_code k pc = some (.arraylength, n)) : mj_Rn d k pc L (.inr (.inl a) :: st) G M Q = (∃ len, mj_ai G M a = some len ∧ mj_Rn d k (pc + n) L (.inl len :: st) G M Q) := by
  rw [mj_Rn_eq, mj_st1, h]; dsimp only [mj_step]
  cases mj_ai G M a with
  | none => simp [mj_pr]
  | some len => simp [mj_pr, mj_nx]
theorem op_getI {idx ci : Nat} (h : mj_code k pc = some (.getfield idx, n)) (hq : mj_pool (mj_oc k) idx = (ci, j)) (hf : (mj_ff ci j).1 < 2) : mj_Rn d k pc L (.inr (.inl a) :: st) G M Q = (mj_isO G a ci = true ∧ mj_Rn d k (pc + n) L (.inl (M a j) :: st) G M Q) := by
  rw [mj_Rn_eq, mj_st1, h]; dsimp only [mj_step]; rw [hq]; dsimp only
  rw [if_neg (show ¬ (mj_ff ci j).1 = 2 by omega), if_neg (show ¬ (mj_ff ci j).1 = 9 by omega)]
  by_cases hc : mj_isO G a ci = true <;> simp [hc, mj_pr, mj_nx]
theorem op_getA {idx ci : Nat} (h : mj_code k pc = some (.getfield idx, n)) (hq : mj_pool (mj_oc k) idx = (ci, j)) (hf : (mj_ff ci j).1 = 2) : mj_Rn d k pc L (.inr (.inl a) :: st) G M Q = (mj_isO G a ci = true ∧ G.2.2.2 a j ≠ 9999 ∧ mj_Rn d k (pc + n) L (.inr (.inl (G.2.2.2 a j)) :: st) G M Q) := by
  rw [mj_Rn_eq, mj_st1, h]; dsimp only [mj_step]; rw [hq]; dsimp only
  rw [if_pos hf]
  by_cases hc : mj_isO G a ci = true <;> by_cases h2 : G.2.2.2 a j = 9999 <;> simp [hc, h2, mj_pr, mj_nx]
theorem op_putI {idx ci : Nat} (h : mj_code k pc = some (.putfield idx, n)) (hq : mj_pool (mj_oc k) idx = (ci, j)) (hf : (mj_ff ci j).1 = 0 ∧ ((mj_ff ci j).2 = 0 ∨ ((mj_ff ci j).2 = 1 ∧ mj_kd k = 2 ∧ mj_oc k = ci))) : mj_Rn d k pc L (.inl x :: .inr (.inl a) :: st) G M Q = (mj_isO G a ci = true ∧ mj_Rn d k (pc + n) L st G (mj_up M a j x) Q) := by
  rw [mj_Rn_eq, mj_st1, h]; dsimp only [mj_step]; rw [hq]; dsimp only
  rw [if_pos (c := _ ∨ _) (Or.inl hf.1)]
  by_cases hc : mj_isO G a ci = true
  · rw [if_pos ⟨hc, hf.2⟩]; simp [hc, mj_pr, mj_nx]
  · rw [if_neg (fun q => hc q.1)]; simp [hc, mj_pr]
theorem op_putZ {idx ci : Nat} (h : mj_code k pc = some (.putfield idx, n)) (hq : mj_pool (mj_oc k) idx = (ci, j)) (hf : (mj_ff ci j).1 = 1 ∧ ((mj_ff ci j).2 = 0 ∨ ((mj_ff ci j).2 = 1 ∧ mj_kd k = 2 ∧ mj_oc k = ci))) : mj_Rn d k pc L (.inl x :: .inr (.inl a) :: st) G M Q = (mj_isO G a ci = true ∧ (0 ≤ x ∧ x ≤ 1) ∧ mj_Rn d k (pc + n) L st G (mj_up M a j x) Q) := by
  rw [mj_Rn_eq, mj_st1, h]; dsimp only [mj_step]; rw [hq]; dsimp only
  by_cases hc : mj_isO G a ci = true
  · rw [if_pos ⟨hc, hf.2⟩]
    by_cases hx : 0 ≤ x ∧ x ≤ 1
    · rw [if_pos (Or.inr ⟨hf.1, hx⟩)]; simp [hc, hx, mj_pr, mj_nx]
    · rw [if_neg (by rintro (q | q) <;> omega)]
      simp [hc, mj_pr, hx]
  · rw [if_neg (fun q => hc q.1)]; simp [hc, mj_pr]
theorem op_putA {idx ci : Nat} (h : mj_code k pc = some (.putfield idx, n)) (hq : mj_pool (mj_oc k) idx = (ci, j)) (hf : (mj_ff ci j).1 = 2 ∧ ((mj_ff ci j).2 = 0 ∨ ((mj_ff ci j).2 = 1 ∧ mj_kd k = 2 ∧ mj_oc k = ci))) : mj_Rn d k pc L (.inr (.inl b) :: .inr (.inl a) :: st) G M Q = (mj_isO G a ci = true ∧ b ≠ 9999 ∧ mj_Rn d k (pc + n) L st (G.1, G.2.1, G.2.2.1, mj_upP G.2.2.2 a j b) M Q) := by
  rw [mj_Rn_eq, mj_st1, h]; dsimp only [mj_step]; rw [hq]; dsimp only
  by_cases hc : mj_isO G a ci = true
  · rw [if_pos ⟨hc, hf.2⟩]
    by_cases hx : b = 9999
    · rw [if_neg (fun q => q.2 hx)]; simp [hx, mj_pr]
    · rw [if_pos ⟨hf.1, hx⟩]; simp [hc, hx, mj_pr, mj_nx]
  · rw [if_neg (fun q => hc q.1)]; simp [hc, mj_pr]
theorem op_getS {idx : Nat} (h : mj_code k pc = some (.getstatic idx, n)) (hq : (mj_pool (mj_oc k) idx).2 = 77) : mj_Rn d k pc L st G M Q = mj_Rn d k (pc + n) L (.inr (.inl 9001) :: st) G M Q := op_go h (by rw [mj_step, if_pos hq]; rfl)
theorem op_ldc {idx : Nat} (h : mj_code k pc = some (.ldc idx, n)) (hq : (mj_pool (mj_oc k) idx).1 = j) (hj : j < 4) : mj_Rn d k pc L st G M Q = mj_Rn d k (pc + n) L (.inr (.inl (9010 + j)) :: st) G M Q := op_go h (by subst hq; rw [mj_step, if_pos hj]; rfl)
theorem op_new {idx ci : Nat} (h : mj_code k pc = some (.new idx, n)) (hq : (mj_pool (mj_oc k) idx).1 = ci) (hj : ci < 13) : mj_Rn d k pc L st G M Q = mj_Rn d k (pc + n) L (.inr (.inl G.1) :: st) (mj_new G ci) (mj_upr M G.1 fun _ => 0) Q := op_go h (by subst hq; rw [mj_step]; exact if_pos hj)
theorem op_newI (h : mj_code k pc = some (.newarray .int, n)) (hx : 0 ≤ x ∧ x ≤ 10000) : mj_Rn d k pc L (.inl x :: st) G M Q = mj_Rn d k (pc + n) L (.inr (.inl G.1) :: st) (mj_newA G .int x.toNat) (mj_upr M G.1 fun _ => 0) Q := op_go h (by rw [mj_step]; exact if_pos hx)
theorem op_newZ (h : mj_code k pc = some (.newarray .boolean, n)) (hx : 0 ≤ x ∧ x ≤ 10000) : mj_Rn d k pc L (.inl x :: st) G M Q = mj_Rn d k (pc + n) L (.inr (.inl G.1) :: st) (mj_newA G .boolean x.toNat) (mj_upr M G.1 fun _ => 0) Q := op_go h (by rw [mj_step]; exact if_pos hx)
theorem op_newL (h : mj_code k pc = some (.newarray .long, n)) (hx : 0 ≤ x ∧ x ≤ 10000) : mj_Rn d k pc L (.inl x :: st) G M Q = mj_Rn d k (pc + n) L (.inr (.inl G.1) :: st) (mj_newA G .long x.toNat) (mj_upr M G.1 fun _ => 0) Q := op_go h (by rw [mj_step]; exact if_pos hx)
theorem op_newM {idx : Nat} (h : mj_code k pc = some (.multianewarray idx 2, n)) (hq : (mj_pool (mj_oc k) idx).1 = 100) (hx : (0 ≤ x ∧ x ≤ 10000) ∧ 0 ≤ y ∧ y ≤ 10000) : mj_Rn d k pc L (.inl x :: .inl y :: st) G M Q = mj_Rn d k (pc + n) L (.inr (.inl G.1) :: st) (mj_newM G y.toNat x.toNat) (mj_newMM G y.toNat M) Q := op_go h (by rw [mj_step]; exact if_pos ⟨rfl, hq, hx.1.1, hx.1.2, hx.2.1, hx.2.2⟩)
theorem op_iret (h : mj_code k pc = some (.ireturn, n)) (hr : mj_rt k = 1) : mj_Rn d k pc L [.inl x] G M Q = Q (some (.inl x)) G M := by
  rw [mj_Rn_eq, mj_st1, h]; dsimp only [mj_step]; rw [if_pos (Or.inl hr)]; rfl
theorem op_zret (h : mj_code k pc = some (.ireturn, n)) (hr : mj_rt k = 2) : mj_Rn d k pc L [.inl x] G M Q = ((0 ≤ x ∧ x ≤ 1) ∧ Q (some (.inl x)) G M) := by
  rw [mj_Rn_eq, mj_st1, h]; dsimp only [mj_step]
  by_cases hx : 0 ≤ x ∧ x ≤ 1
  · rw [if_pos (Or.inr ⟨hr, hx⟩)]; simp [hx, mj_pr]
  · rw [if_neg (by rintro (q | q) <;> omega)]
    simp [mj_pr, hx]
theorem op_vret (h : mj_code k pc = some (.return_, n)) (hr : mj_rt k = 0) : mj_Rn d k pc L [] G M Q = Q none G M := by
  rw [mj_Rn_eq, mj_st1, h]; dsimp only [mj_step]; rw [if_pos hr]; rfl
end ops
