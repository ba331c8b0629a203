section inv
variable {k pc n : Nat} {L st : List mj_V} {G : mj_G} {M : mj_M} {z : mj_R}
theorem inv_iconst {c : Int} (h : mj_step k pc L st G M (.iconst c) n = some z) : z = .inl (pc + n, L, .inl c :: st, G, M) := by
  simp only [mj_step, mj_nx] at h
  repeat' split at h
  all_goals first | (cases h; done) | (cases h; rfl)
theorem inv_bipush {c : Int} (h : mj_step k pc L st G M (.bipush c) n = some z) : z = .inl (pc + n, L, .inl c :: st, G, M) := by
  simp only [mj_step, mj_nx] at h
  repeat' split at h
  all_goals first | (cases h; done) | (cases h; rfl)
theorem inv_sipush {c : Int} (h : mj_step k pc L st G M (.sipush c) n = some z) : z = .inl (pc + n, L, .inl c :: st, G, M) := by
  simp only [mj_step, mj_nx] at h
  repeat' split at h
  all_goals first | (cases h; done) | (cases h; rfl)
theorem inv_lconst {c : Fin 2} (h : mj_step k pc L st G M (.lconst c) n = some z) : z = .inl (pc + n, L, .inr (.inr c.val) :: st, G, M) := by
  simp only [mj_step, mj_nx] at h
  repeat' split at h
  all_goals first | (cases h; done) | (cases h; rfl)
theorem inv_iload_n {j : Fin 4} (h : mj_step k pc L st G M (.iload_n j) n = some z) : ∃ (x : Int), L[j.val]? = some (.inl x) ∧ z = .inl (pc + n, L, .inl x :: st, G, M) := by
  simp only [mj_step, mj_nx] at h
  repeat' split at h
  all_goals first | (cases h; done) | (cases h; exact ⟨_, ‹_›, rfl⟩)
theorem inv_iload {j : Nat} (h : mj_step k pc L st G M (.iload j) n = some z) : ∃ (x : Int), L[j]? = some (.inl x) ∧ z = .inl (pc + n, L, .inl x :: st, G, M) := by
  simp only [mj_step, mj_nx] at h
  repeat' split at h
  all_goals first | (cases h; done) | (cases h; exact ⟨_, ‹_›, rfl⟩)
theorem inv_aload_n {j : Fin 4} (h : mj_step k pc L st G M (.aload_n j) n = some z) : ∃ (x : Nat), L[j.val]? = some (.inr (.inl x)) ∧ z = .inl (pc + n, L, .inr (.inl x) :: st, G, M) := by
  simp only [mj_step, mj_nx] at h
  repeat' split at h
  all_goals first | (cases h; done) | (cases h; exact ⟨_, ‹_›, rfl⟩)
theorem inv_aload {j : Nat} (h : mj_step k pc L st G M (.aload j) n = some z) : ∃ (x : Nat), L[j]? = some (.inr (.inl x)) ∧ z = .inl (pc + n, L, .inr (.inl x) :: st, G, M) := by
  simp only [mj_step, mj_nx] at h
  repeat' split at h
  all_goals first | (cases h; done) | (cases h; exact ⟨_, ‹_›, rfl⟩)
theorem inv_istore_n {j : Fin 4} (h : mj_step k pc L st G M (.istore_n j) n = some z) : ∃ (x : Int) (s2 : List mj_V), st = .inl x :: s2 ∧ j.val < L.length ∧ z = .inl (pc + n, L.set j.val (.inl x), s2, G, M) := by
  simp only [mj_step, mj_nx] at h
  repeat' split at h
  all_goals first | (cases h; done) | (cases h; exact ⟨_, _, rfl, ‹_›, rfl⟩)
theorem inv_istore {j : Nat} (h : mj_step k pc L st G M (.istore j) n = some z) : ∃ (x : Int) (s2 : List mj_V), st = .inl x :: s2 ∧ j < L.length ∧ z = .inl (pc + n, L.set j (.inl x), s2, G, M) := by
  simp only [mj_step, mj_nx] at h
  repeat' split at h
  all_goals first | (cases h; done) | (cases h; exact ⟨_, _, rfl, ‹_›, rfl⟩)
theorem inv_astore_n {j : Fin 4} (h : mj_step k pc L st G M (.astore_n j) n = some z) : ∃ (x : Nat) (s2 : List mj_V), st = .inr (.inl x) :: s2 ∧ j.val < L.length ∧ z = .inl (pc + n, L.set j.val (.inr (.inl x)), s2, G, M) := by
  simp only [mj_step, mj_nx] at h
  repeat' split at h
  all_goals first | (cases h; done) | (cases h; exact ⟨_, _, rfl, ‹_›, rfl⟩)
theorem inv_astore {j : Nat} (h : mj_step k pc L st G M (.astore j) n = some z) : ∃ (x : Nat) (s2 : List mj_V), st = .inr (.inl x) :: s2 ∧ j < L.length ∧ z = .inl (pc + n, L.set j (.inr (.inl x)), s2, G, M) := by
  simp only [mj_step, mj_nx] at h
  repeat' split at h
  all_goals first | (cases h; done) | (cases h; exact ⟨_, _, rfl, ‹_›, rfl⟩)
theorem inv_iinc {j : Nat} {c : Int} (h : mj_step k pc L st G M (.iinc j c) n = some z) : ∃ (x : Int), L[j]? = some (.inl x) ∧ z = .inl (pc + n, L.set j (.inl (mj_w (x + c))), st, G, M) := by
  simp only [mj_step, mj_nx] at h
  repeat' split at h
  all_goals first | (cases h; done) | (cases h; exact ⟨_, ‹_›, rfl⟩)
theorem inv_iadd  (h : mj_step k pc L st G M (.iadd) n = some z) : ∃ (x : Int) (y : Int) (s2 : List mj_V), st = .inl y :: .inl x :: s2 ∧ z = .inl (pc + n, L, .inl (mj_w (x + y)) :: s2, G, M) := by
  simp only [mj_step, mj_nx] at h
  repeat' split at h
  all_goals first | (cases h; done) | (cases h; exact ⟨_, _, _, rfl, rfl⟩)
theorem inv_isub  (h : mj_step k pc L st G M (.isub) n = some z) : ∃ (x : Int) (y : Int) (s2 : List mj_V), st = .inl y :: .inl x :: s2 ∧ z = .inl (pc + n, L, .inl (mj_w (x - y)) :: s2, G, M) := by
  simp only [mj_step, mj_nx] at h
  repeat' split at h
  all_goals first | (cases h; done) | (cases h; exact ⟨_, _, _, rfl, rfl⟩)
theorem inv_imul  (h : mj_step k pc L st G M (.imul) n = some z) : ∃ (x : Int) (y : Int) (s2 : List mj_V), st = .inl y :: .inl x :: s2 ∧ z = .inl (pc + n, L, .inl (mj_w (x * y)) :: s2, G, M) := by
  simp only [mj_step, mj_nx] at h
  repeat' split at h
  all_goals first | (cases h; done) | (cases h; exact ⟨_, _, _, rfl, rfl⟩)
theorem inv_iand  (h : mj_step k pc L st G M (.iand) n = some z) : ∃ (x : Int) (y : Int) (s2 : List mj_V), st = .inl y :: .inl x :: s2 ∧ z = .inl (pc + n, L, .inl (mj_and x y) :: s2, G, M) := by
  simp only [mj_step, mj_nx] at h
  repeat' split at h
  all_goals first | (cases h; done) | (cases h; exact ⟨_, _, _, rfl, rfl⟩)
theorem inv_ior  (h : mj_step k pc L st G M (.ior) n = some z) : ∃ (x : Int) (y : Int) (s2 : List mj_V), st = .inl y :: .inl x :: s2 ∧ z = .inl (pc + n, L, .inl (mj_or x y) :: s2, G, M) := by
  simp only [mj_step, mj_nx] at h
  repeat' split at h
  all_goals first | (cases h; done) | (cases h; exact ⟨_, _, _, rfl, rfl⟩)
theorem inv_ishl  (h : mj_step k pc L st G M (.ishl) n = some z) : ∃ (x : Int) (y : Int) (s2 : List mj_V), st = .inl y :: .inl x :: s2 ∧ z = .inl (pc + n, L, .inl (mj_shl x y) :: s2, G, M) := by
  simp only [mj_step, mj_nx] at h
  repeat' split at h
  all_goals first | (cases h; done) | (cases h; exact ⟨_, _, _, rfl, rfl⟩)
theorem inv_ishr  (h : mj_step k pc L st G M (.ishr) n = some z) : ∃ (x : Int) (y : Int) (s2 : List mj_V), st = .inl y :: .inl x :: s2 ∧ z = .inl (pc + n, L, .inl (mj_shr x y) :: s2, G, M) := by
  simp only [mj_step, mj_nx] at h
  repeat' split at h
  all_goals first | (cases h; done) | (cases h; exact ⟨_, _, _, rfl, rfl⟩)
theorem inv_iushr  (h : mj_step k pc L st G M (.iushr) n = some z) : ∃ (x : Int) (y : Int) (s2 : List mj_V), st = .inl y :: .inl x :: s2 ∧ z = .inl (pc + n, L, .inl (mj_ushr x y) :: s2, G, M) := by
  simp only [mj_step, mj_nx] at h
  repeat' split at h
  all_goals first | (cases h; done) | (cases h; exact ⟨_, _, _, rfl, rfl⟩)
theorem inv_idiv  (h : mj_step k pc L st G M (.idiv) n = some z) : ∃ (x : Int) (y : Int) (s2 : List mj_V), st = .inl y :: .inl x :: s2 ∧ ¬ y = 0 ∧ z = .inl (pc + n, L, .inl (mj_w (x.tdiv y)) :: s2, G, M) := by
  simp only [mj_step, mj_nx] at h
  repeat' split at h
  all_goals first | (cases h; done) | (cases h; exact ⟨_, _, _, rfl, ‹_›, rfl⟩)
theorem inv_irem  (h : mj_step k pc L st G M (.irem) n = some z) : ∃ (x : Int) (y : Int) (s2 : List mj_V), st = .inl y :: .inl x :: s2 ∧ ¬ y = 0 ∧ z = .inl (pc + n, L, .inl (x.tmod y) :: s2, G, M) := by
  simp only [mj_step, mj_nx] at h
  repeat' split at h
  all_goals first | (cases h; done) | (cases h; exact ⟨_, _, _, rfl, ‹_›, rfl⟩)
theorem inv_ineg  (h : mj_step k pc L st G M (.ineg) n = some z) : ∃ (x : Int) (s2 : List mj_V), st = .inl x :: s2 ∧ z = .inl (pc + n, L, .inl (mj_w (-x)) :: s2, G, M) := by
  simp only [mj_step, mj_nx] at h
  repeat' split at h
  all_goals first | (cases h; done) | (cases h; exact ⟨_, _, rfl, rfl⟩)
theorem inv_land  (h : mj_step k pc L st G M (.land) n = some z) : ∃ (x : Int) (y : Int) (s2 : List mj_V), st = .inr (.inr y) :: .inr (.inr x) :: s2 ∧ z = .inl (pc + n, L, .inr (.inr (mj_landl x y)) :: s2, G, M) := by
  simp only [mj_step, mj_nx] at h
  repeat' split at h
  all_goals first | (cases h; done) | (cases h; exact ⟨_, _, _, rfl, rfl⟩)
theorem inv_lor  (h : mj_step k pc L st G M (.lor) n = some z) : ∃ (x : Int) (y : Int) (s2 : List mj_V), st = .inr (.inr y) :: .inr (.inr x) :: s2 ∧ z = .inl (pc + n, L, .inr (.inr (mj_lorl x y)) :: s2, G, M) := by
  simp only [mj_step, mj_nx] at h
  repeat' split at h
  all_goals first | (cases h; done) | (cases h; exact ⟨_, _, _, rfl, rfl⟩)
theorem inv_lshl  (h : mj_step k pc L st G M (.lshl) n = some z) : ∃ (x : Int) (y : Int) (s2 : List mj_V), st = .inl y :: .inr (.inr x) :: s2 ∧ z = .inl (pc + n, L, .inr (.inr (mj_lshl x y)) :: s2, G, M) := by
  simp only [mj_step, mj_nx] at h
  repeat' split at h
  all_goals first | (cases h; done) | (cases h; exact ⟨_, _, _, rfl, rfl⟩)
theorem inv_lcmp (h : mj_step k pc L st G M .lcmp n = some z) : ∃ (x y : Int) (s2 : List mj_V), st = .inr (.inr y) :: .inr (.inr x) :: s2 ∧ z = .inl (pc + n, L, .inl (if y < x then 1 else if x = y then 0 else -1) :: s2, G, M) := by
  simp only [mj_step, mj_nx] at h
  split at h
  · cases h; exact ⟨_, _, _, rfl, rfl⟩
  · cases h
theorem inv_dup (h : mj_step k pc L st G M .dup n = some z) : ∃ (v : mj_V) (s2 : List mj_V), st = v :: s2 ∧ mj_lng v = false ∧ z = .inl (pc + n, L, v :: v :: s2, G, M) := by
  simp only [mj_step, mj_nx] at h
  split at h
  all_goals first | (cases h; done) | (cases h; exact ⟨_, _, rfl, rfl, rfl⟩)
theorem inv_dup2 (h : mj_step k pc L st G M .dup2 n = some z) : ∃ (x : Int) (a : Nat) (s2 : List mj_V), st = .inl x :: .inr (.inl a) :: s2 ∧ z = .inl (pc + n, L, .inl x :: .inr (.inl a) :: .inl x :: .inr (.inl a) :: s2, G, M) := by
  simp only [mj_step, mj_nx] at h
  split at h
  all_goals first | (cases h; done) | (cases h; exact ⟨_, _, _, rfl, rfl⟩)
theorem inv_pop (h : mj_step k pc L st G M .pop n = some z) : ∃ (v : mj_V) (s2 : List mj_V), st = v :: s2 ∧ mj_lng v = false ∧ z = .inl (pc + n, L, s2, G, M) := by
  simp only [mj_step, mj_nx] at h
  split at h
  all_goals first | (cases h; done) | (cases h; exact ⟨_, _, rfl, rfl, rfl⟩)
theorem inv_goto {off : Int} (h : mj_step k pc L st G M (.goto off) n = some z) : z = .inl (mj_tgt pc off, L, st, G, M) := by
  simp only [mj_step, mj_nx] at h
  cases h; rfl
theorem inv_ifCond {c : ClassFile.Cond} {off : Int} (h : mj_step k pc L st G M (.ifCond c off) n = some z) : ∃ (x : Int) (s2 : List mj_V), st = .inl x :: s2 ∧ z = mj_br c x 0 (.inl (mj_tgt pc off, L, s2, G, M)) (.inl (pc + n, L, s2, G, M)) := by
  simp only [mj_step, mj_nx] at h
  split at h
  · refine ⟨_, _, rfl, ?_⟩
    cases c <;> simp only [mj_br] at h ⊢ <;> split at h <;> rename_i hc <;> cases h <;> first | rw [if_pos hc] | rw [if_neg hc]
  · cases h
theorem inv_if_icmp {c : ClassFile.Cond} {off : Int} (h : mj_step k pc L st G M (.if_icmp c off) n = some z) : ∃ (x y : Int) (s2 : List mj_V), st = .inl y :: .inl x :: s2 ∧ z = mj_br c x y (.inl (mj_tgt pc off, L, s2, G, M)) (.inl (pc + n, L, s2, G, M)) := by
  simp only [mj_step, mj_nx] at h
  split at h
  · refine ⟨_, _, _, rfl, ?_⟩
    cases c <;> simp only [mj_br] at h ⊢ <;> split at h <;> rename_i hc <;> cases h <;> first | rw [if_pos hc] | rw [if_neg hc]
  · cases h
theorem inv_tableswitch {d lo hi : Int} {offs : Array Int} (h : mj_step k pc L st G M (.tableswitch d lo hi offs) n = some z) : ∃ (x : Int) (s2 : List mj_V), st = .inl x :: s2 ∧ z = .inl (mj_tgt pc (mj_tsw offs.toList lo x d), L, s2, G, M) := by
  simp only [mj_step, mj_nx] at h
  split at h
  all_goals first | (cases h; done) | (cases h; exact ⟨_, _, rfl, rfl⟩)
theorem inv_lookupswitch {d : Int} {qs : Array (Int × Int)} (h : mj_step k pc L st G M (.lookupswitch d qs) n = some z) : ∃ (x : Int) (s2 : List mj_V), st = .inl x :: s2 ∧ z = .inl (mj_tgt pc (mj_lsw qs.toList x d), L, s2, G, M) := by
  simp only [mj_step, mj_nx] at h
  split at h
  all_goals first | (cases h; done) | (cases h; exact ⟨_, _, rfl, rfl⟩)
theorem inv_iaload (h : mj_step k pc L st G M .iaload n = some z) : ∃ (x : Int) (a len : Nat) (s2 : List mj_V), st = .inl x :: .inr (.inl a) :: s2 ∧ mj_ai G M a = some len ∧ (0 ≤ x ∧ x < len) ∧ z = .inl (pc + n, L, .inl (M a x.toNat) :: s2, G, M) := by
  simp only [mj_step, mj_nx] at h
  repeat' split at h
  all_goals first | (cases h; done) | (cases h; exact ⟨_, _, _, _, rfl, ‹_›, ‹_›, rfl⟩)
theorem inv_baload (h : mj_step k pc L st G M .baload n = some z) : ∃ (x : Int) (a len : Nat) (s2 : List mj_V), st = .inl x :: .inr (.inl a) :: s2 ∧ mj_ty G .boolean a = some len ∧ (0 ≤ x ∧ x < len) ∧ z = .inl (pc + n, L, .inl (M a x.toNat) :: s2, G, M) := by
  simp only [mj_step, mj_nx] at h
  repeat' split at h
  all_goals first | (cases h; done) | (cases h; exact ⟨_, _, _, _, rfl, ‹_›, ‹_›, rfl⟩)
theorem inv_laload (h : mj_step k pc L st G M .laload n = some z) : ∃ (x : Int) (a len : Nat) (s2 : List mj_V), st = .inl x :: .inr (.inl a) :: s2 ∧ mj_ty G .long a = some len ∧ (0 ≤ x ∧ x < len) ∧ z = .inl (pc + n, L, .inr (.inr (M a x.toNat)) :: s2, G, M) := by
  simp only [mj_step, mj_nx] at h
  repeat' split at h
  all_goals first | (cases h; done) | (cases h; exact ⟨_, _, _, _, rfl, ‹_›, ‹_›, rfl⟩)
theorem inv_aaload (h : mj_step k pc L st G M .aaload n = some z) : ∃ (x : Int) (a len : Nat) (s2 : List mj_V), st = .inl x :: .inr (.inl a) :: s2 ∧ mj_ty G (.array .int) a = some len ∧ (0 ≤ x ∧ x < len) ∧ z = .inl (pc + n, L, .inr (.inl (G.2.2.2 a x.toNat)) :: s2, G, M) := by
  simp only [mj_step, mj_nx] at h
  repeat' split at h
  all_goals first | (cases h; done) | (cases h; exact ⟨_, _, _, _, rfl, ‹_›, ‹_›, rfl⟩)
theorem inv_iastore (h : mj_step k pc L st G M .iastore n = some z) : ∃ (x y : Int) (a len : Nat) (s2 : List mj_V), st = .inl y :: .inl x :: .inr (.inl a) :: s2 ∧ mj_ty G .int a = some len ∧ (0 ≤ x ∧ x < len) ∧ z = .inl (pc + n, L, s2, G, mj_up M a x.toNat y) := by
  simp only [mj_step, mj_nx] at h
  repeat' split at h
  all_goals first | (cases h; done) | (cases h; exact ⟨_, _, _, _, _, rfl, ‹_›, ‹_›, rfl⟩)
theorem inv_bastore (h : mj_step k pc L st G M .bastore n = some z) : ∃ (x y : Int) (a len : Nat) (s2 : List mj_V), st = .inl y :: .inl x :: .inr (.inl a) :: s2 ∧ mj_ty G .boolean a = some len ∧ (0 ≤ x ∧ x < len ∧ 0 ≤ y ∧ y ≤ 1) ∧ z = .inl (pc + n, L, s2, G, mj_up M a x.toNat y) := by
  simp only [mj_step, mj_nx] at h
  repeat' split at h
  all_goals first | (cases h; done) | (cases h; exact ⟨_, _, _, _, _, rfl, ‹_›, ‹_›, rfl⟩)
theorem inv_lastore (h : mj_step k pc L st G M .lastore n = some z) : ∃ (x y : Int) (a len : Nat) (s2 : List mj_V), st = .inr (.inr y) :: .inl x :: .inr (.inl a) :: s2 ∧ mj_ty G .long a = some len ∧ (0 ≤ x ∧ x < len) ∧ z = .inl (pc + n, L, s2, G, mj_up M a x.toNat y) := by
  simp only [mj_step, mj_nx] at h
  repeat' split at h
  all_goals first | (cases h; done) | (cases h; exact ⟨_, _, _, _, _, rfl, ‹_›, ‹_›, rfl⟩)
theorem inv_arraylength (h : mj_step k pc L st G M .arraylength n = some z) : ∃ (a len : Nat) (s2 : List mj_V), st = .inr (.inl a) :: s2 ∧ mj_ai G M a = some len ∧ z = .inl (pc + n, L, .inl len :: s2, G, M) := by
  simp only [mj_step, mj_nx] at h
  repeat' split at h
  all_goals first | (cases h; done) | (cases h; exact ⟨_, _, _, rfl, ‹_›, rfl⟩)
theorem inv_getfield {idx : Nat} (h : mj_step k pc L st G M (.getfield idx) n = some z) : ∃ (a ci j : Nat) (s2 : List mj_V), st = .inr (.inl a) :: s2 ∧ mj_pool (mj_oc k) idx = (ci, j) ∧ mj_isO G a ci = true ∧
    (((mj_ff ci j).1 = 2 ∧ G.2.2.2 a j ≠ 9999 ∧ z = .inl (pc + n, L, .inr (.inl (G.2.2.2 a j)) :: s2, G, M)) ∨ ((mj_ff ci j).1 ≠ 2 ∧ z = .inl (pc + n, L, .inl (M a j) :: s2, G, M))) := by
  simp only [mj_step, mj_nx] at h
  repeat' split at h
  all_goals first | (cases h; done) | (cases h; exact ⟨_, _, _, _, rfl, rfl, ‹_›, Or.inl ⟨‹_›, ‹_›, rfl⟩⟩) | (cases h; exact ⟨_, _, _, _, rfl, rfl, ‹_›, Or.inr ⟨‹_›, rfl⟩⟩)
theorem inv_putfield {idx : Nat} (h : mj_step k pc L st G M (.putfield idx) n = some z) : ∃ (v : mj_V) (a ci j : Nat) (s2 : List mj_V), st = v :: .inr (.inl a) :: s2 ∧ mj_pool (mj_oc k) idx = (ci, j) ∧ mj_isO G a ci = true ∧ ((mj_ff ci j).2 = 0 ∨ ((mj_ff ci j).2 = 1 ∧ mj_kd k = 2 ∧ mj_oc k = ci)) ∧
    ((∃ x, v = .inl x ∧ ((mj_ff ci j).1 = 0 ∨ ((mj_ff ci j).1 = 1 ∧ 0 ≤ x ∧ x ≤ 1)) ∧ z = .inl (pc + n, L, s2, G, mj_up M a j x)) ∨ (∃ b, v = .inr (.inl b) ∧ ((mj_ff ci j).1 = 2 ∧ b ≠ 9999) ∧ z = .inl (pc + n, L, s2, (G.1, G.2.1, G.2.2.1, mj_upP G.2.2.2 a j b), M))) := by
  simp only [mj_step, mj_nx] at h
  split at h
  case h_1 v a s2 =>
    split at h
    case isTrue hc =>
      refine ⟨_, _, _, _, _, rfl, rfl, hc.1, hc.2, ?_⟩
      split at h
      · split at h
        · cases h; exact Or.inl ⟨_, rfl, ‹_›, rfl⟩
        · cases h
      · split at h
        · cases h; exact Or.inr ⟨_, rfl, ‹_›, rfl⟩
        · cases h
      · cases h
    case isFalse => cases h
  case h_2 => cases h
theorem inv_getstatic {idx : Nat} (h : mj_step k pc L st G M (.getstatic idx) n = some z) : z = .inl (pc + n, L, .inr (.inl 9001) :: st, G, M) := by
  simp only [mj_step, mj_nx] at h
  split at h
  · cases h; rfl
  · cases h
theorem inv_ldc {idx : Nat} (h : mj_step k pc L st G M (.ldc idx) n = some z) : (mj_pool (mj_oc k) idx).1 < 4 ∧ z = .inl (pc + n, L, .inr (.inl (9010 + (mj_pool (mj_oc k) idx).1)) :: st, G, M) := by
  simp only [mj_step, mj_nx] at h
  split at h
  · cases h; exact ⟨‹_›, rfl⟩
  · cases h
theorem inv_new {idx : Nat} (h : mj_step k pc L st G M (.new idx) n = some z) : (mj_pool (mj_oc k) idx).1 < 13 ∧ z = .inl (pc + n, L, .inr (.inl G.1) :: st, mj_new G (mj_pool (mj_oc k) idx).1, mj_upr M G.1 fun _ => 0) := by
  simp only [mj_step, mj_nx] at h
  split at h
  · cases h; exact ⟨‹_›, rfl⟩
  · cases h
theorem inv_newarray {t : ArrayType} (h : mj_step k pc L st G M (.newarray t) n = some z) : ∃ (x : Int) (s2 : List mj_V) (ty : FieldType), st = .inl x :: s2 ∧ (0 ≤ x ∧ x ≤ 10000) ∧ ((t = .int ∧ ty = .int) ∨ (t = .boolean ∧ ty = .boolean) ∨ (t = .long ∧ ty = .long)) ∧ z = .inl (pc + n, L, .inr (.inl G.1) :: s2, mj_newA G ty x.toNat, mj_upr M G.1 fun _ => 0) := by
  simp only [mj_step, mj_nx] at h
  repeat' split at h
  all_goals first | (cases h; done) | (cases h; exact ⟨_, _, .int, rfl, ‹_›, Or.inl ⟨rfl, rfl⟩, rfl⟩) | (cases h; exact ⟨_, _, .boolean, rfl, ‹_›, Or.inr (Or.inl ⟨rfl, rfl⟩), rfl⟩) | (cases h; exact ⟨_, _, .long, rfl, ‹_›, Or.inr (Or.inr ⟨rfl, rfl⟩), rfl⟩)
theorem inv_multianewarray {idx d : Nat} (h : mj_step k pc L st G M (.multianewarray idx d) n = some z) : ∃ (x y : Int) (s2 : List mj_V), st = .inl x :: .inl y :: s2 ∧ (d = 2 ∧ (mj_pool (mj_oc k) idx).1 = 100 ∧ 0 ≤ x ∧ x ≤ 10000 ∧ 0 ≤ y ∧ y ≤ 10000) ∧ z = .inl (pc + n, L, .inr (.inl G.1) :: s2, mj_newM G y.toNat x.toNat, mj_newMM G y.toNat M) := by
  simp only [mj_step, mj_nx] at h
  repeat' split at h
  all_goals first | (cases h; done) | (cases h; exact ⟨_, _, _, rfl, ‹_›, rfl⟩)
theorem inv_ireturn (h : mj_step k pc L st G M .ireturn n = some z) : ∃ x : Int, st = [.inl x] ∧ (mj_rt k = 1 ∨ (mj_rt k = 2 ∧ 0 ≤ x ∧ x ≤ 1)) ∧ z = .inr (.inr (some (.inl x))) := by
  simp only [mj_step] at h
  repeat' split at h
  all_goals first | (cases h; done) | (cases h; exact ⟨_, rfl, ‹_›, rfl⟩)
theorem inv_return_ (h : mj_step k pc L st G M .return_ n = some z) : st = [] ∧ mj_rt k = 0 ∧ z = .inr (.inr none) := by
  simp only [mj_step] at h
  repeat' split at h
  all_goals first | (cases h; done) | (cases h; exact ⟨rfl, ‹_›, rfl⟩)
theorem inv_call {idx : Nat} {q : Nat × Nat} (h : mj_call k L st G M pc idx q = some z) :
    (∃ (a : Nat) (s2 : List mj_V), q.2 = 9 ∧ st = .inr (.inl a) :: s2 ∧ mj_wt s2 ≤ 8 ∧ z = .inl (pc + 3, L, s2, G, M)) ∨
    (∃ (x y w : Int) (a b la lb : Nat) (s2 : List mj_V), q.2 = 4 ∧ st = .inl w :: .inl y :: .inr (.inl b) :: .inl x :: .inr (.inl a) :: s2 ∧ mj_ty G .int a = some la ∧ mj_ty G .int b = some lb ∧ (0 ≤ x ∧ 0 ≤ y ∧ 0 ≤ w ∧ x + w ≤ la ∧ y + w ≤ lb ∧ mj_wt s2 ≤ 8) ∧ z = .inl (pc + 3, L, s2, G, mj_cpy M a b x.toNat y.toNat w.toNat)) ∨
    (∃ (a : Nat) (s2 : List mj_V), q.2 = 5 ∧ st = .inr (.inl a) :: s2 ∧ (9010 ≤ a ∧ a < 9014 ∧ mj_wt s2 ≤ 8) ∧ z = .inl (pc + 3, L, .inl (mj_slen.getD (a - 9010) 0) :: s2, G, M)) ∨
    (∃ (x : Int) (a : Nat) (s2 : List mj_V), q.2 = 6 ∧ st = .inl x :: .inr (.inl a) :: s2 ∧ (9010 ≤ a ∧ a < 9014 ∧ 0 ≤ x ∧ x < mj_slen.getD (a - 9010) 0 ∧ mj_wt s2 ≤ 8) ∧ z = .inl (pc + 3, L, .inl ((mj_schr.getD (a - 9010) []).getD x.toNat 0) :: s2, G, M)) ∨
    (∃ (as s2 : List mj_V), (q.2 < 4 ∧ (q.2 = mj_kd q.1 ∨ (q.2 = 3 ∧ mj_kd q.1 = 2))) ∧ st = as.reverse ++ s2 ∧ as.length = mj_na q.1 ∧ mj_wt s2 ≤ 8 ∧ (∀ v ∈ as, mj_lng v = false) ∧ (q.2 = 1 ∨ ∃ a t, as = .inr (.inl a) :: t ∧ mj_isO G a (mj_oc q.1) = true) ∧ z = .inr (.inl (q.1, as, s2))) := by
  unfold mj_call at h
  split at h
  case isTrue h9 =>
    refine Or.inl ?_
    simp only [mj_nx] at h
    repeat' split at h
    all_goals first | (cases h; done) | (cases h; exact ⟨_, _, h9, rfl, ‹_›, rfl⟩)
  case isFalse h9 =>
  split at h
  case isTrue h4 =>
    refine Or.inr (Or.inl ?_)
    simp only [mj_nx] at h
    repeat' split at h
    all_goals first | (cases h; done) | (cases h; exact ⟨_, _, _, _, _, _, _, _, h4, rfl, ‹_›, ‹_›, ‹_›, rfl⟩)
  case isFalse h4 =>
  split at h
  case isTrue h5 =>
    refine Or.inr (Or.inr (Or.inl ?_))
    simp only [mj_nx] at h
    repeat' split at h
    all_goals first | (cases h; done) | (cases h; exact ⟨_, _, h5, rfl, ‹_›, rfl⟩)
  case isFalse h5 =>
  split at h
  case isTrue h6 =>
    refine Or.inr (Or.inr (Or.inr (Or.inl ?_)))
    simp only [mj_nx] at h
    repeat' split at h
    all_goals first | (cases h; done) | (cases h; exact ⟨_, _, _, h6, rfl, ‹_›, rfl⟩)
  case isFalse h6 =>
  split at h
  case isFalse => cases h
  case isTrue hc =>
    refine Or.inr (Or.inr (Or.inr (Or.inr ?_)))
    obtain ⟨c1, c2, c3, c4, c5⟩ := hc
    have hst : st = (st.take (mj_na q.1)).reverse.reverse ++ st.drop (mj_na q.1) := by rw [List.reverse_reverse, List.take_append_drop]
    have hlen : ((st.take (mj_na q.1)).reverse).length = mj_na q.1 := by rw [List.length_reverse, List.length_take]; omega
    have hdl : mj_wt (st.drop (mj_na q.1)) ≤ 8 := c4
    have hal : ∀ v ∈ (st.take (mj_na q.1)).reverse, mj_lng v = false := by
      intro v hv
      rw [List.all_eq_true] at c5
      have := c5 v (List.mem_reverse.mp hv)
      simpa using this
    split at h
    case isTrue h1 =>
      cases h
      exact ⟨_, _, ⟨c1, c2⟩, hst, hlen, hdl, hal, Or.inl h1, rfl⟩
    case isFalse h1 =>
      split at h
      case h_1 a t hat =>
        split at h
        case isTrue ho =>
          cases h
          rw [hat] at hst hlen hal
          exact ⟨_, _, ⟨c1, c2⟩, hst, hlen, hdl, hal, Or.inr ⟨a, t, rfl, ho⟩, rfl⟩
        case isFalse => cases h
      case h_2 => cases h
end inv
