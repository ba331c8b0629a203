/-! a small machine of numbers: ints and longs as Int, references as numbers of objects; it runs the lists of part 02 -/
abbrev mj_V := Int ⊕ (Nat ⊕ Int)
abbrev mj_D := Nat ⊕ (FieldType × Nat)
/-- how many objects, how many slots, what each is, its references -/
abbrev mj_G := Nat × Nat × (Nat → mj_D) × (Nat → Nat → Nat)
abbrev mj_M := Nat → Nat → Int
abbrev mj_R := (Nat × List mj_V × List mj_V × mj_G × mj_M) ⊕ ((Nat × List mj_V × List mj_V) ⊕ Option mj_V)
def mj_w (x : Int) : Int := Int.bmod x 4294967296
def mj_wl (x : Int) : Int := Int.bmod x 18446744073709551616
def mj_and (x y : Int) : Int := (Int32.ofInt x &&& Int32.ofInt y).toInt
def mj_or (x y : Int) : Int := (Int32.ofInt x ||| Int32.ofInt y).toInt
def mj_shl (x y : Int) : Int := (Int32.ofInt x <<< (Int32.ofInt y &&& 31)).toInt
def mj_shr (x y : Int) : Int := (Int32.ofInt x >>> (Int32.ofInt y &&& 31)).toInt
def mj_ushr (x y : Int) : Int := ((Int32.ofInt x).toUInt32 >>> ((Int32.ofInt y).toUInt32 &&& Int32.toUInt32 31)).toInt32.toInt
def mj_landl (x y : Int) : Int := (Int64.ofInt x &&& Int64.ofInt y).toInt
def mj_lorl (x y : Int) : Int := (Int64.ofInt x ||| Int64.ofInt y).toInt
def mj_lshl (x y : Int) : Int := (Int64.ofInt x <<< ((Int32.ofInt y).toInt64 &&& 63)).toInt
def mj_up (M : mj_M) (a i : Nat) (v : Int) : mj_M := fun b j => if b = a then (if j = i then v else M a j) else M b j
def mj_upr (M : mj_M) (a : Nat) (f : Nat → Int) : mj_M := fun b => if b = a then f else M b
def mj_upP (P : Nat → Nat → Nat) (a i : Nat) (v : Nat) : Nat → Nat → Nat := fun b j => if b = a then (if j = i then v else P a j) else P b j
def mj_at : List (Instr × Nat) → Nat → Option (Instr × Nat)
  | [], _ => none
  | (i, n) :: t, pc => if pc = 0 then some (i, n) else if pc < n then none else mj_at t (pc - n)
def mj_code (k pc : Nat) : Option (Instr × Nat) := mj_at (mj_cs.getD k []) pc
def mj_find : List (Nat × Nat × Nat) → Nat → Nat × Nat
  | [], _ => (9999, 9999)
  | (i, a, b) :: t, x => if x = i then (a, b) else mj_find t x
def mj_pool (oc idx : Nat) : Nat × Nat := mj_find (mj_pools.getD oc []) idx
def mj_in (k : Nat) : Nat × Nat × Nat × Nat × Nat := mj_inf.getD k (9999, 0, 0, 0, 0)
def mj_oc (k : Nat) : Nat := (mj_in k).1
def mj_na (k : Nat) : Nat := (mj_in k).2.1
def mj_ml (k : Nat) : Nat := (mj_in k).2.2.1
def mj_kd (k : Nat) : Nat := (mj_in k).2.2.2.1
def mj_rt (k : Nat) : Nat := (mj_in k).2.2.2.2
def mj_ff (ci j : Nat) : Nat × Nat := (mj_fk.getD ci []).getD j (9, 9)
def mj_nf (ci : Nat) : Nat := (mj_fk.getD ci []).length
def mj_br {α : Type} (c : ClassFile.Cond) (x y : Int) (a b : α) : α := match c with
  | .eq => if x = y then a else b
  | .ne => if x = y then b else a
  | .lt => if x < y then a else b
  | .ge => if x < y then b else a
  | .gt => if y < x then a else b
  | .le => if y < x then b else a
def mj_tgt (pc : Nat) (off : Int) : Nat := ((pc : Int) + off).toNat
def mj_tsw : List Int → Int → Int → Int → Int
  | [], _, _, d => d
  | o :: t, lo, x, d => if x = lo then o else mj_tsw t (lo + 1) x d
def mj_lsw : List (Int × Int) → Int → Int → Int
  | [], _, d => d
  | (a, o) :: t, x, d => if x = a then o else mj_lsw t x d
def mj_lng : mj_V → Bool
  | .inr (.inr _) => true
  | _ => false
/-- the length of an array of ints: one's own, or one of the two that are read alone (9000 the script, 9001 the prices) -/
def mj_ai (G : mj_G) (M : mj_M) (a : Nat) : Option Nat :=
  if a < G.1 then (match G.2.2.1 a with
    | .inr (.int, n) => some n
    | _ => none)
  else if a = 9000 then some (M 9002 0).toNat
  else if a = 9001 then some 6 else none
def mj_ty (G : mj_G) (ty : FieldType) (a : Nat) : Option Nat :=
  if a < G.1 then (match G.2.2.1 a with
    | .inr (t, n) => if t = ty then some n else none
    | _ => none)
  else none
def mj_isO (G : mj_G) (a ci : Nat) : Bool := decide (a < G.1) && (match G.2.2.1 a with
    | .inl c => c == ci
    | _ => false)
def mj_new (G : mj_G) (ci : Nat) : mj_G := (G.1 + 1, G.2.1 + mj_nf ci, (fun a => if a = G.1 then .inl ci else G.2.2.1 a), (fun a => if a = G.1 then (fun _ => 9999) else G.2.2.2 a))
def mj_newA (G : mj_G) (ty : FieldType) (n : Nat) : mj_G := (G.1 + 1, G.2.1 + n, (fun a => if a = G.1 then .inr (ty, n) else G.2.2.1 a), G.2.2.2)
def mj_newM (G : mj_G) (n m : Nat) : mj_G := (G.1 + 1 + n, G.2.1 + n + n * m, (fun a => if a = G.1 then .inr (.array .int, n) else if G.1 < a ∧ a ≤ G.1 + n then .inr (.int, m) else G.2.2.1 a), (fun a => if a = G.1 then (fun j => G.1 + 1 + j) else G.2.2.2 a))
def mj_newMM (G : mj_G) (n : Nat) (M : mj_M) : mj_M := fun a => if G.1 ≤ a ∧ a ≤ G.1 + n then (fun _ => 0) else M a
def mj_cpy (M : mj_M) (a b sp dp n : Nat) : mj_M := mj_upr M b (fun k => if dp ≤ k ∧ k < dp + n then M a (sp + (k - dp)) else M b k)
/-- how wide what lies below a call is -/
def mj_wt : List mj_V → Nat
  | [] => 0
  | v :: t => mj_wt t + (if mj_lng v = true then 2 else 1)
theorem mj_wt_nil : mj_wt [] = 0 := rfl
theorem mj_wt_i {x : Int} {t : List mj_V} : mj_wt (.inl x :: t) = mj_wt t + 1 := rfl
theorem mj_wt_r {a : Nat} {t : List mj_V} : mj_wt (.inr (.inl a) :: t) = mj_wt t + 1 := rfl
theorem mj_wt_l {x : Int} {t : List mj_V} : mj_wt (.inr (.inr x) :: t) = mj_wt t + 2 := rfl
def mj_slen : List Nat := [4, 5, 5, 4]
def mj_schr : List (List Int) := [[103, 101, 116, 115], [110, 101, 118, 101, 114], [97, 112, 97, 114, 116], [114, 119, 108, 116]]
def mj_nx (pc : Nat) (L st : List mj_V) (G : mj_G) (M : mj_M) : Option mj_R := some (.inl (pc, L, st, G, M))
def mj_call (k : Nat) (L st : List mj_V) (G : mj_G) (M : mj_M) (pc idx : Nat) (q : Nat × Nat) : Option mj_R :=
  if q.2 = 9 then (match st with
    | .inr (.inl _) :: st => if mj_wt st ≤ 8 then mj_nx (pc + 3) L st G M else none
    | _ => none)
  else if q.2 = 4 then (match st with
    | .inl n :: .inl dp :: .inr (.inl b) :: .inl sp :: .inr (.inl a) :: st =>
      (match mj_ty G .int a, mj_ty G .int b with
      | some la, some lb => if 0 ≤ sp ∧ 0 ≤ dp ∧ 0 ≤ n ∧ sp + n ≤ la ∧ dp + n ≤ lb ∧ mj_wt st ≤ 8 then mj_nx (pc + 3) L st G (mj_cpy M a b sp.toNat dp.toNat n.toNat) else none
      | _, _ => none)
    | _ => none)
  else if q.2 = 5 then (match st with
    | .inr (.inl s) :: st => if 9010 ≤ s ∧ s < 9014 ∧ mj_wt st ≤ 8 then mj_nx (pc + 3) L (.inl (mj_slen.getD (s - 9010) 0) :: st) G M else none
    | _ => none)
  else if q.2 = 6 then (match st with
    | .inl j :: .inr (.inl s) :: st => if 9010 ≤ s ∧ s < 9014 ∧ 0 ≤ j ∧ j < mj_slen.getD (s - 9010) 0 ∧ mj_wt st ≤ 8 then mj_nx (pc + 3) L (.inl ((mj_schr.getD (s - 9010) []).getD j.toNat 0) :: st) G M else none
    | _ => none)
  else if q.2 < 4 ∧ (q.2 = mj_kd q.1 ∨ (q.2 = 3 ∧ mj_kd q.1 = 2)) ∧ mj_na q.1 ≤ st.length ∧ mj_wt (st.drop (mj_na q.1)) ≤ 8 ∧ (st.take (mj_na q.1)).all (fun v => !mj_lng v) = true then
    (if q.2 = 1 then some (.inr (.inl (q.1, (st.take (mj_na q.1)).reverse, st.drop (mj_na q.1))))
     else (match (st.take (mj_na q.1)).reverse with
      | .inr (.inl a) :: as => if mj_isO G a (mj_oc q.1) = true then some (.inr (.inl (q.1, .inr (.inl a) :: as, st.drop (mj_na q.1)))) else none
      | _ => none))
  else none
def mj_step (k pc : Nat) (L st : List mj_V) (G : mj_G) (M : mj_M) (i : Instr) (n : Nat) : Option mj_R := match i with
  | .iconst c => mj_nx (pc + n) L (.inl c :: st) G M
  | .bipush c => mj_nx (pc + n) L (.inl c :: st) G M
  | .sipush c => mj_nx (pc + n) L (.inl c :: st) G M
  | .lconst c => mj_nx (pc + n) L (.inr (.inr c.val) :: st) G M
  | .iload_n j => (match L[j.val]? with
    | some (.inl x) => mj_nx (pc + n) L (.inl x :: st) G M
    | _ => none)
  | .iload j => (match L[j]? with
    | some (.inl x) => mj_nx (pc + n) L (.inl x :: st) G M
    | _ => none)
  | .aload_n j => (match L[j.val]? with
    | some (.inr (.inl x)) => mj_nx (pc + n) L (.inr (.inl x) :: st) G M
    | _ => none)
  | .aload j => (match L[j]? with
    | some (.inr (.inl x)) => mj_nx (pc + n) L (.inr (.inl x) :: st) G M
    | _ => none)
  | .istore_n j => (match st with
    | .inl x :: st => if j.val < L.length then mj_nx (pc + n) (L.set j.val (.inl x)) st G M else none
    | _ => none)
  | .istore j => (match st with
    | .inl x :: st => if j < L.length then mj_nx (pc + n) (L.set j (.inl x)) st G M else none
    | _ => none)
  | .astore_n j => (match st with
    | .inr (.inl x) :: st => if j.val < L.length then mj_nx (pc + n) (L.set j.val (.inr (.inl x))) st G M else none
    | _ => none)
  | .astore j => (match st with
    | .inr (.inl x) :: st => if j < L.length then mj_nx (pc + n) (L.set j (.inr (.inl x))) st G M else none
    | _ => none)
  | .iinc j c => (match L[j]? with
    | some (.inl x) => mj_nx (pc + n) (L.set j (.inl (mj_w (x + c)))) st G M
    | _ => none)
  | .dup => (match st with
    | .inl x :: st => mj_nx (pc + n) L (.inl x :: .inl x :: st) G M
    | .inr (.inl x) :: st => mj_nx (pc + n) L (.inr (.inl x) :: .inr (.inl x) :: st) G M
    | _ => none)
  | .dup2 => (match st with
    | .inl x :: .inr (.inl y) :: st => mj_nx (pc + n) L (.inl x :: .inr (.inl y) :: .inl x :: .inr (.inl y) :: st) G M
    | _ => none)
  | .pop => (match st with
    | .inl _ :: st => mj_nx (pc + n) L st G M
    | .inr (.inl _) :: st => mj_nx (pc + n) L st G M
    | _ => none)
  | .iadd => (match st with
    | .inl y :: .inl x :: st => mj_nx (pc + n) L (.inl (mj_w (x + y)) :: st) G M
    | _ => none)
  | .isub => (match st with
    | .inl y :: .inl x :: st => mj_nx (pc + n) L (.inl (mj_w (x - y)) :: st) G M
    | _ => none)
  | .imul => (match st with
    | .inl y :: .inl x :: st => mj_nx (pc + n) L (.inl (mj_w (x * y)) :: st) G M
    | _ => none)
  | .idiv => (match st with
    | .inl y :: .inl x :: st => if y = 0 then none else mj_nx (pc + n) L (.inl (mj_w (x.tdiv y)) :: st) G M
    | _ => none)
  | .irem => (match st with
    | .inl y :: .inl x :: st => if y = 0 then none else mj_nx (pc + n) L (.inl (x.tmod y) :: st) G M
    | _ => none)
  | .ineg => (match st with
    | .inl x :: st => mj_nx (pc + n) L (.inl (mj_w (-x)) :: st) G M
    | _ => none)
  | .iand => (match st with
    | .inl y :: .inl x :: st => mj_nx (pc + n) L (.inl (mj_and x y) :: st) G M
    | _ => none)
  | .ior => (match st with
    | .inl y :: .inl x :: st => mj_nx (pc + n) L (.inl (mj_or x y) :: st) G M
    | _ => none)
  | .ishl => (match st with
    | .inl y :: .inl x :: st => mj_nx (pc + n) L (.inl (mj_shl x y) :: st) G M
    | _ => none)
  | .ishr => (match st with
    | .inl y :: .inl x :: st => mj_nx (pc + n) L (.inl (mj_shr x y) :: st) G M
    | _ => none)
  | .iushr => (match st with
    | .inl y :: .inl x :: st => mj_nx (pc + n) L (.inl (mj_ushr x y) :: st) G M
    | _ => none)
  | .land => (match st with
    | .inr (.inr y) :: .inr (.inr x) :: st => mj_nx (pc + n) L (.inr (.inr (mj_landl x y)) :: st) G M
    | _ => none)
  | .lor => (match st with
    | .inr (.inr y) :: .inr (.inr x) :: st => mj_nx (pc + n) L (.inr (.inr (mj_lorl x y)) :: st) G M
    | _ => none)
  | .lshl => (match st with
    | .inl y :: .inr (.inr x) :: st => mj_nx (pc + n) L (.inr (.inr (mj_lshl x y)) :: st) G M
    | _ => none)
  | .lcmp => (match st with
    | .inr (.inr y) :: .inr (.inr x) :: st => mj_nx (pc + n) L (.inl (if y < x then 1 else if x = y then 0 else -1) :: st) G M
    | _ => none)
  | .ifCond c off => (match st with
    | .inl x :: st => mj_br c x 0 (mj_nx (mj_tgt pc off) L st G M) (mj_nx (pc + n) L st G M)
    | _ => none)
  | .if_icmp c off => (match st with
    | .inl y :: .inl x :: st => mj_br c x y (mj_nx (mj_tgt pc off) L st G M) (mj_nx (pc + n) L st G M)
    | _ => none)
  | .goto off => mj_nx (mj_tgt pc off) L st G M
  | .tableswitch d lo _ offs => (match st with
    | .inl x :: st => mj_nx (mj_tgt pc (mj_tsw offs.toList lo x d)) L st G M
    | _ => none)
  | .lookupswitch d ps => (match st with
    | .inl x :: st => mj_nx (mj_tgt pc (mj_lsw ps.toList x d)) L st G M
    | _ => none)
  | .iaload => (match st with
    | .inl j :: .inr (.inl a) :: st => (match mj_ai G M a with
      | some len => if 0 ≤ j ∧ j < len then mj_nx (pc + n) L (.inl (M a j.toNat) :: st) G M else none
      | none => none)
    | _ => none)
  | .baload => (match st with
    | .inl j :: .inr (.inl a) :: st => (match mj_ty G .boolean a with
      | some len => if 0 ≤ j ∧ j < len then mj_nx (pc + n) L (.inl (M a j.toNat) :: st) G M else none
      | none => none)
    | _ => none)
  | .laload => (match st with
    | .inl j :: .inr (.inl a) :: st => (match mj_ty G .long a with
      | some len => if 0 ≤ j ∧ j < len then mj_nx (pc + n) L (.inr (.inr (M a j.toNat)) :: st) G M else none
      | none => none)
    | _ => none)
  | .aaload => (match st with
    | .inl j :: .inr (.inl a) :: st => (match mj_ty G (.array .int) a with
      | some len => if 0 ≤ j ∧ j < len then mj_nx (pc + n) L (.inr (.inl (G.2.2.2 a j.toNat)) :: st) G M else none
      | none => none)
    | _ => none)
  | .iastore => (match st with
    | .inl v :: .inl j :: .inr (.inl a) :: st => (match mj_ty G .int a with
      | some len => if 0 ≤ j ∧ j < len then mj_nx (pc + n) L st G (mj_up M a j.toNat v) else none
      | none => none)
    | _ => none)
  | .bastore => (match st with
    | .inl v :: .inl j :: .inr (.inl a) :: st => (match mj_ty G .boolean a with
      | some len => if 0 ≤ j ∧ j < len ∧ 0 ≤ v ∧ v ≤ 1 then mj_nx (pc + n) L st G (mj_up M a j.toNat v) else none
      | none => none)
    | _ => none)
  | .lastore => (match st with
    | .inr (.inr v) :: .inl j :: .inr (.inl a) :: st => (match mj_ty G .long a with
      | some len => if 0 ≤ j ∧ j < len then mj_nx (pc + n) L st G (mj_up M a j.toNat v) else none
      | none => none)
    | _ => none)
  | .arraylength => (match st with
    | .inr (.inl a) :: st => (match mj_ai G M a with
      | some len => mj_nx (pc + n) L (.inl len :: st) G M
      | none => none)
    | _ => none)
  | .getfield idx => (match st with
    | .inr (.inl a) :: st =>
      let q := mj_pool (mj_oc k) idx
      if mj_isO G a q.1 = true then
        (if (mj_ff q.1 q.2).1 = 2 then (if G.2.2.2 a q.2 = 9999 then none else mj_nx (pc + n) L (.inr (.inl (G.2.2.2 a q.2)) :: st) G M)
         else if (mj_ff q.1 q.2).1 = 9 then none
         else mj_nx (pc + n) L (.inl (M a q.2) :: st) G M)
      else none
    | _ => none)
  | .putfield idx => (match st with
    | v :: .inr (.inl a) :: st =>
      let q := mj_pool (mj_oc k) idx
      if mj_isO G a q.1 = true ∧ ((mj_ff q.1 q.2).2 = 0 ∨ ((mj_ff q.1 q.2).2 = 1 ∧ mj_kd k = 2 ∧ mj_oc k = q.1)) then
        (match v with
         | .inl x => if (mj_ff q.1 q.2).1 = 0 ∨ ((mj_ff q.1 q.2).1 = 1 ∧ 0 ≤ x ∧ x ≤ 1) then mj_nx (pc + n) L st G (mj_up M a q.2 x) else none
         | .inr (.inl b) => if (mj_ff q.1 q.2).1 = 2 ∧ b ≠ 9999 then mj_nx (pc + n) L st (G.1, G.2.1, G.2.2.1, mj_upP G.2.2.2 a q.2 b) M else none
         | _ => none)
      else none
    | _ => none)
  | .getstatic idx => if (mj_pool (mj_oc k) idx).2 = 77 then mj_nx (pc + n) L (.inr (.inl 9001) :: st) G M else none
  | .ldc idx => if (mj_pool (mj_oc k) idx).1 < 4 then mj_nx (pc + n) L (.inr (.inl (9010 + (mj_pool (mj_oc k) idx).1)) :: st) G M else none
  | .new idx =>
      let q := mj_pool (mj_oc k) idx
      if q.1 < 13 then mj_nx (pc + n) L (.inr (.inl G.1) :: st) (mj_new G q.1) (mj_upr M G.1 fun _ => 0) else none
  | .newarray t => (match st with
    | .inl x :: st => if 0 ≤ x ∧ x ≤ 10000 then
        (match t with
         | .int => mj_nx (pc + n) L (.inr (.inl G.1) :: st) (mj_newA G .int x.toNat) (mj_upr M G.1 fun _ => 0)
         | .boolean => mj_nx (pc + n) L (.inr (.inl G.1) :: st) (mj_newA G .boolean x.toNat) (mj_upr M G.1 fun _ => 0)
         | .long => mj_nx (pc + n) L (.inr (.inl G.1) :: st) (mj_newA G .long x.toNat) (mj_upr M G.1 fun _ => 0)
         | _ => none)
      else none
    | _ => none)
  | .multianewarray idx d => (match st with
    | .inl m :: .inl c :: st => if d = 2 ∧ (mj_pool (mj_oc k) idx).1 = 100 ∧ 0 ≤ m ∧ m ≤ 10000 ∧ 0 ≤ c ∧ c ≤ 10000 then mj_nx (pc + n) L (.inr (.inl G.1) :: st) (mj_newM G c.toNat m.toNat) (mj_newMM G c.toNat M) else none
    | _ => none)
  | .invokevirtual idx => mj_call k L st G M pc idx (mj_pool (mj_oc k) idx)
  | .invokestatic idx => mj_call k L st G M pc idx (mj_pool (mj_oc k) idx)
  | .invokespecial idx => mj_call k L st G M pc idx (mj_pool (mj_oc k) idx)
  | .ireturn => (match st with
    | [.inl v] => if mj_rt k = 1 ∨ (mj_rt k = 2 ∧ 0 ≤ v ∧ v ≤ 1) then some (.inr (.inr (some (.inl v)))) else none
    | _ => none)
  | .return_ => (match st with
    | [] => if mj_rt k = 0 then some (.inr (.inr none)) else none
    | _ => none)
  | _ => none
def mj_ent (k : Nat) (args : List mj_V) : List mj_V := args ++ List.replicate (mj_ml k - args.length) (.inr (.inr 0))
def mj_go : Nat → Nat → Nat → Nat → List mj_V → List mj_V → mj_G → mj_M → Option (Option mj_V × mj_G × mj_M)
  | 0, _, _, _, _, _, _, _ => none
  | f + 1, d, k, pc, L, st, G, M => match mj_code k pc with
    | none => none
    | some (i, n) => match mj_step k pc L st G M i n with
      | none => none
      | some (.inl (pc', L', st', G', M')) => mj_go f d k pc' L' st' G' M'
      | some (.inr (.inl (k', args, st'))) => (match d with
        | 0 => none
        | d' + 1 => match mj_go f d' k' 0 (mj_ent k' args) [] G M with
          | none => none
          | some (r, G', M') => mj_go f d k (pc + 3) L (r.toList ++ st') G' M')
      | some (.inr (.inr r)) => some (r, G, M)
