/-- what the machine's state gives of the tables, of what is read alone -/
def mj_sf_q (X : mj_Cx) (s : State) : Prop :=
  va_K (mj_dd X) mj_cl (mj_tyl X) s ∧ va_T .int (mj_ax X 9000) (mj_L X) (fun j => .int (mj_xs X j)) (mj_A X) s s.heap ∧ va_T .int (mj_ax X 9001) 6 (fun j => .int (Int32.ofInt (mj_prc.getD j 0))) (mj_A X) s s.heap ∧ va_Z "TokenHeart" "PRICE" "[I" (.ref (mj_ax X 9001)) (mj_A X) s s.heap ∧
  (va_Nw (.fieldLinkNest "TokenHeart$Acts" 132 "TokenHeart" "PRICE" "[I" "TokenHeart") s ∧ va_Nw (.fieldLinkNest "TokenHeart$Parting" 103 "TokenHeart" "PRICE" "[I" "TokenHeart") s) ∧
  (va_Nw (.methodLinkNest "TokenHeart$State" 27 ⟨"TokenHeart$Runners", "<init>", "()V"⟩ "TokenHeart") s ∧ va_Nw (.methodLinkNest "TokenHeart$State" 34 ⟨"TokenHeart$Wishes", "<init>", "()V"⟩ "TokenHeart") s) ∧
  (Cond.arrayOver (.array .int)).before #[] s = true ∧
  (vk_R "TokenHeart$Script" 52 "gets" (mj_ax X 9010) s ∧ vk_R "TokenHeart$Script" 58 "never" (mj_ax X 9011) s ∧ vk_R "TokenHeart$Script" 60 "apart" (mj_ax X 9012) s ∧ vk_R "TokenHeart$Script" 88 "rwlt" (mj_ax X 9013) s) ∧
  ∃ adV : Nat → Nat, vk_S 4 mj_slen (mj_schr.map (fun q => q.map Int32.ofInt)) (fun i => mj_ax X (9010 + i)) adV (mj_A X) s s.heap ∧ va_Z "java/lang/String" "COMPACT_STRINGS" "Z" (.int 1) (mj_A X) s s.heap ∧ va_Zq "jdk/internal/util/Preconditions" "SIOOBE_FORMATTER" "Ljava/util/function/BiFunction;" (mj_A X) s s.heap
theorem mj_sf_mv_q {X : mj_Cx} {s U : State} (h : mj_sf_q X s) (hW : s.WarmedH U.vm) (hq : ∀ a : Nat, a < s.heap.size → ¬ mj_A X a → U.heap[a]? = s.heap[a]?) : mj_sf_q X U := by
  obtain ⟨h1, h2, h3, h4, ⟨h5, h6⟩, ⟨h7, h8⟩, h9, ⟨r1, r2, r3, r4⟩, adV, h10, h11, h12⟩ := h
  exact ⟨h1.moved hW.alike, (h2.kept hq).moved hW.alike, (h3.kept hq).moved hW.alike, (h4.kept hq).moved hW.alike, ⟨h5.warmF hW, h6.warmF hW⟩, ⟨h7.warmM hW, h8.warmM hW⟩, Jvm.Stand.arrayOver_alikeB hW.alike h9, ⟨r1.warm hW, r2.warm hW, r3.warm hW, r4.warm hW⟩, adV, (h10.kept hq).moved hW.alike, (h11.kept hq).moved hW.alike, (h12.kept hq).moved hW.alike⟩
/-- a method's frame: its machine, code, words -/
def mj_Fx_q (p : Program) (s : State) (m : MethodId) (args : Array Value) (meth : Method) (c : Code) (X : mj_Cx) (k : Nat) : Prop :=
  p.tables.exec = Jvm.exec ∧ c.code = mj_by k ∧ c.maxLocals = mj_ml k ∧ s.vm.findClass (mj_own k) = some m.cls ∧ (∀ w ∈ mj_tb, w.before args s = true) ∧ mj_sf_q X s ∧ (mj_kd k = 2 → meth.name = "<init>") ∧ mj_owns.getD (mj_oc k) "" = mj_own k
section ss
variable {p : Program} {l : Launch} {e : Env} {R : Room} {s : State} {m : MethodId} {args : Array Value} {below : List Frame} {meth : Method} {c : Code} {Q : State → Prop} {X : mj_Cx} {n0 s0 : Nat}
theorem mj_tgt0_q {pc : Nat} {off : Int} (h : 0 ≤ (pc : Int) + off) : (pc : Int) + off = (mj_tgt pc off : Int) := by unfold mj_tgt; omega
def so_slenP_q : Prop := ∀ {p : Program} {l : Launch} {e : Env} {R : Room} {s : State} {m : MethodId} {args : Array Value} {below : List Frame} {meth : Method} {c : Code} {Q : State → Prop} {X : mj_Cx} {n0 s0 : Nat} {cc : ByteArray} {pc idx a : Nat} {L st : List mj_V} {G : mj_G} {M : mj_M} {own : String} (hx : p.tables.exec = Jvm.exec) (hb : c.code = cc) (hts : ∀ w ∈ mj_tb, w.before args s = true) (hown : s.vm.findClass own = some m.cls) (hsf : mj_sf_q X s) (hd : decode cc pc = .ok (.invokevirtual idx, 3)) (hlink : (Cond.methodLink own idx mj_SL).before args s = true) (hL : L.length = c.maxLocals) (hR : 8 ≤ R.frames ∧ 512 ≤ R.locals ∧ G.1 - n0 ≤ R.cells ∧ G.2.1 - s0 ≤ R.slots) (ha : 9010 ≤ a ∧ a < 9014) (hst : mj_wt st ≤ 8)
    (kk : (∀ (H : Heap) (locs : List Loc) (ls : Array Slot), mj_h X s n0 s0 (G) (M) (L) (.inl (mj_slen.getD (a - 9010) 0) :: st) H locs ls → W p l e R s m args below meth c H locs (G.1 - n0) (G.2.1 - s0) Q (F0 m (pc + 3) ls ((.inl (mj_slen.getD (a - 9010) 0) :: st : List mj_V).map (mj_val X))))), (∀ (H : Heap) (locs : List Loc) (ls : Array Slot), mj_h X s n0 s0 (G) (M) (L) (.inr (.inl a) :: st) H locs ls → W p l e R s m args below meth c H locs (G.1 - n0) (G.2.1 - s0) Q (F0 m (pc) ls ((.inr (.inl a) :: st : List mj_V).map (mj_val X))))
def so_schrP_q : Prop := ∀ {p : Program} {l : Launch} {e : Env} {R : Room} {s : State} {m : MethodId} {args : Array Value} {below : List Frame} {meth : Method} {c : Code} {Q : State → Prop} {X : mj_Cx} {n0 s0 : Nat} {cc : ByteArray} {pc idx a : Nat} {x : Int} {L st : List mj_V} {G : mj_G} {M : mj_M} {own : String} (hx : p.tables.exec = Jvm.exec) (hb : c.code = cc) (hts : ∀ w ∈ mj_tb, w.before args s = true) (hown : s.vm.findClass own = some m.cls) (hsf : mj_sf_q X s) (hd : decode cc pc = .ok (.invokevirtual idx, 3)) (hlink : (Cond.methodLink own idx mj_SC).before args s = true) (hL : L.length = c.maxLocals) (hR : 8 ≤ R.frames ∧ 512 ≤ R.locals ∧ G.1 - n0 ≤ R.cells ∧ G.2.1 - s0 ≤ R.slots) (ha : 9010 ≤ a ∧ a < 9014) (hi : 0 ≤ x ∧ x < mj_slen.getD (a - 9010) 0) (hst : mj_wt st ≤ 8)
    (kk : (∀ (H : Heap) (locs : List Loc) (ls : Array Slot), mj_h X s n0 s0 (G) (M) (L) (.inl ((mj_schr.getD (a - 9010) List.nil).getD x.toNat 0) :: st) H locs ls → W p l e R s m args below meth c H locs (G.1 - n0) (G.2.1 - s0) Q (F0 m (pc + 3) ls ((.inl ((mj_schr.getD (a - 9010) List.nil).getD x.toNat 0) :: st : List mj_V).map (mj_val X))))), (∀ (H : Heap) (locs : List Loc) (ls : Array Slot), mj_h X s n0 s0 (G) (M) (L) (.inl x :: .inr (.inl a) :: st) H locs ls → W p l e R s m args below meth c H locs (G.1 - n0) (G.2.1 - s0) Q (F0 m (pc) ls ((.inl x :: .inr (.inl a) :: st : List mj_V).map (mj_val X))))
theorem mj_tsw_ok_q {d : Int} : ∀ (l : List Int) (lo x : Int), ((x < lo ∨ lo + l.length ≤ x) → mj_tsw l lo x d = d) ∧ (lo ≤ x → x < lo + l.length → l[(x - lo).toNat]? = some (mj_tsw l lo x d)) := by
  intro l
  induction l with
  | nil => intro lo x; exact ⟨fun _ => rfl, fun h1 h2 => by simp at h2; omega⟩
  | cons q t ih =>
    intro lo x
    have hl : ((q :: t).length : Int) = t.length + 1 := by simp
    unfold mj_tsw
    refine ⟨fun h => ?_, fun h1 h2 => ?_⟩
    · rw [if_neg (by omega)]
      exact (ih (lo + 1) x).1 (by omega)
    · by_cases hx : x = lo
      · rw [if_pos hx, hx, Int.sub_self]; rfl
      · rw [if_neg hx, ← (ih (lo + 1) x).2 (by omega) (by omega), show (x - lo).toNat = (x - (lo + 1)).toNat + 1 by omega, List.getElem?_cons_succ]
theorem mj_lsw_ok_q {d x : Int} : ∀ (l : List (Int × Int)), Op.lookupswitch.offset l d x = mj_lsw l x d := by
  intro l
  induction l with
  | nil => simp [Op.lookupswitch.offset, mj_lsw]
  | cons q t ih =>
    obtain ⟨a, b⟩ := q
    by_cases h : x = a
    · simp [Op.lookupswitch.offset, mj_lsw, h]
    · have h' : ¬ a = x := fun w => h w.symm
      simp [Op.lookupswitch.offset, mj_lsw, h, h'] at ih ⊢
      exact ih
variable {k pc n : Nat} {L st L' st' : List mj_V} {G G' : mj_G} {M M' : mj_M} {pc' : Nat}
theorem mj_z1_q {a b c d e : _} {a' b' c' d' e' : _} (h : (Sum.inl (a, b, c, d, e) : mj_R) = Sum.inl (a', b', c', d', e')) : a = a' ∧ b = b' ∧ c = c' ∧ d = d' ∧ e = e' := by cases h; exact ⟨rfl, rfl, rfl, rfl, rfl⟩

theorem ss_iconst_q {c0 : Int} (F : mj_Fx_q p s m args meth c X k) (hn0 : s.heap.size = mj_N X + n0) (hL : L.length = mj_ml k) (hR : 8 ≤ R.frames ∧ 512 ≤ R.locals ∧ G'.1 - n0 ≤ R.cells ∧ G'.2.1 - s0 ≤ R.slots) (h9 : G'.1 ≤ 9000) (hs : mj_step k pc L st G M (.iconst c0) n = some (.inl (pc', L', st', G', M'))) (hd : decode (mj_by k) pc = .ok (.iconst c0, n)) (hm : mj_sem k pc (.iconst c0) n = true) (kk : (∀ (H : Heap) (locs : List Loc) (ls : Array Slot), mj_h X s n0 s0 (G') (M') (L') (st') H locs ls → W p l e R s m args below meth c H locs ((G').1 - n0) ((G').2.1 - s0) Q (F0 m (pc') ls ((st' : List mj_V).map (mj_val X))))) : (∀ (H : Heap) (locs : List Loc) (ls : Array Slot), mj_h X s n0 s0 (G) (M) (L) (st) H locs ls → W p l e R s m args below meth c H locs (G.1 - n0) (G.2.1 - s0) Q (F0 m (pc) ls ((st : List mj_V).map (mj_val X)))) := by
  obtain hz := inv_iconst hs
  cases hz
  have hn : n = 1 := by simp [mj_sem] at hm; exact hm.1
  subst hn
  exact so_iconst F.1 F.2.1 hd (by simp [mj_sem] at hm; exact hm) kk
theorem ss_bipush_q {c0 : Int} (F : mj_Fx_q p s m args meth c X k) (hn0 : s.heap.size = mj_N X + n0) (hL : L.length = mj_ml k) (hR : 8 ≤ R.frames ∧ 512 ≤ R.locals ∧ G'.1 - n0 ≤ R.cells ∧ G'.2.1 - s0 ≤ R.slots) (h9 : G'.1 ≤ 9000) (hs : mj_step k pc L st G M (.bipush c0) n = some (.inl (pc', L', st', G', M'))) (hd : decode (mj_by k) pc = .ok (.bipush c0, n)) (hm : mj_sem k pc (.bipush c0) n = true) (kk : (∀ (H : Heap) (locs : List Loc) (ls : Array Slot), mj_h X s n0 s0 (G') (M') (L') (st') H locs ls → W p l e R s m args below meth c H locs ((G').1 - n0) ((G').2.1 - s0) Q (F0 m (pc') ls ((st' : List mj_V).map (mj_val X))))) : (∀ (H : Heap) (locs : List Loc) (ls : Array Slot), mj_h X s n0 s0 (G) (M) (L) (st) H locs ls → W p l e R s m args below meth c H locs (G.1 - n0) (G.2.1 - s0) Q (F0 m (pc) ls ((st : List mj_V).map (mj_val X)))) := by
  obtain hz := inv_bipush hs
  cases hz
  have hn : n = 2 := by simp [mj_sem] at hm; exact hm.1.1
  subst hn
  exact so_bipush F.1 F.2.1 hd (by simp [mj_sem] at hm; exact hm.1) (by simp [mj_sem] at hm; exact hm.2) kk
theorem ss_sipush_q {c0 : Int} (F : mj_Fx_q p s m args meth c X k) (hn0 : s.heap.size = mj_N X + n0) (hL : L.length = mj_ml k) (hR : 8 ≤ R.frames ∧ 512 ≤ R.locals ∧ G'.1 - n0 ≤ R.cells ∧ G'.2.1 - s0 ≤ R.slots) (h9 : G'.1 ≤ 9000) (hs : mj_step k pc L st G M (.sipush c0) n = some (.inl (pc', L', st', G', M'))) (hd : decode (mj_by k) pc = .ok (.sipush c0, n)) (hm : mj_sem k pc (.sipush c0) n = true) (kk : (∀ (H : Heap) (locs : List Loc) (ls : Array Slot), mj_h X s n0 s0 (G') (M') (L') (st') H locs ls → W p l e R s m args below meth c H locs ((G').1 - n0) ((G').2.1 - s0) Q (F0 m (pc') ls ((st' : List mj_V).map (mj_val X))))) : (∀ (H : Heap) (locs : List Loc) (ls : Array Slot), mj_h X s n0 s0 (G) (M) (L) (st) H locs ls → W p l e R s m args below meth c H locs (G.1 - n0) (G.2.1 - s0) Q (F0 m (pc) ls ((st : List mj_V).map (mj_val X)))) := by
  obtain hz := inv_sipush hs
  cases hz
  have hn : n = 3 := by simp [mj_sem] at hm; exact hm.1.1
  subst hn
  exact so_sipush F.1 F.2.1 hd (by simp [mj_sem] at hm; exact hm.1) (by simp [mj_sem] at hm; exact hm.2) kk
theorem ss_lconst_q {c0 : Fin 2} (F : mj_Fx_q p s m args meth c X k) (hn0 : s.heap.size = mj_N X + n0) (hL : L.length = mj_ml k) (hR : 8 ≤ R.frames ∧ 512 ≤ R.locals ∧ G'.1 - n0 ≤ R.cells ∧ G'.2.1 - s0 ≤ R.slots) (h9 : G'.1 ≤ 9000) (hs : mj_step k pc L st G M (.lconst c0) n = some (.inl (pc', L', st', G', M'))) (hd : decode (mj_by k) pc = .ok (.lconst c0, n)) (hm : mj_sem k pc (.lconst c0) n = true) (kk : (∀ (H : Heap) (locs : List Loc) (ls : Array Slot), mj_h X s n0 s0 (G') (M') (L') (st') H locs ls → W p l e R s m args below meth c H locs ((G').1 - n0) ((G').2.1 - s0) Q (F0 m (pc') ls ((st' : List mj_V).map (mj_val X))))) : (∀ (H : Heap) (locs : List Loc) (ls : Array Slot), mj_h X s n0 s0 (G) (M) (L) (st) H locs ls → W p l e R s m args below meth c H locs (G.1 - n0) (G.2.1 - s0) Q (F0 m (pc) ls ((st : List mj_V).map (mj_val X)))) := by
  obtain hz := inv_lconst hs
  cases hz
  have hn : n = 1 := by simpa [mj_sem] using hm
  subst hn
  exact so_lconst F.1 F.2.1 hd kk
theorem ss_iload_n_q {j : Fin 4} (F : mj_Fx_q p s m args meth c X k) (hn0 : s.heap.size = mj_N X + n0) (hL : L.length = mj_ml k) (hR : 8 ≤ R.frames ∧ 512 ≤ R.locals ∧ G'.1 - n0 ≤ R.cells ∧ G'.2.1 - s0 ≤ R.slots) (h9 : G'.1 ≤ 9000) (hs : mj_step k pc L st G M (.iload_n j) n = some (.inl (pc', L', st', G', M'))) (hd : decode (mj_by k) pc = .ok (.iload_n j, n)) (hm : mj_sem k pc (.iload_n j) n = true) (kk : (∀ (H : Heap) (locs : List Loc) (ls : Array Slot), mj_h X s n0 s0 (G') (M') (L') (st') H locs ls → W p l e R s m args below meth c H locs ((G').1 - n0) ((G').2.1 - s0) Q (F0 m (pc') ls ((st' : List mj_V).map (mj_val X))))) : (∀ (H : Heap) (locs : List Loc) (ls : Array Slot), mj_h X s n0 s0 (G) (M) (L) (st) H locs ls → W p l e R s m args below meth c H locs (G.1 - n0) (G.2.1 - s0) Q (F0 m (pc) ls ((st : List mj_V).map (mj_val X)))) := by
  obtain ⟨x, hl, hz⟩ := inv_iload_n hs
  cases hz
  have hn : n = 1 := by simpa [mj_sem] using hm
  subst hn
  exact so_iload_n F.1 F.2.1 hd hl kk
theorem ss_iload_q {j : Nat} (F : mj_Fx_q p s m args meth c X k) (hn0 : s.heap.size = mj_N X + n0) (hL : L.length = mj_ml k) (hR : 8 ≤ R.frames ∧ 512 ≤ R.locals ∧ G'.1 - n0 ≤ R.cells ∧ G'.2.1 - s0 ≤ R.slots) (h9 : G'.1 ≤ 9000) (hs : mj_step k pc L st G M (.iload j) n = some (.inl (pc', L', st', G', M'))) (hd : decode (mj_by k) pc = .ok (.iload j, n)) (hm : mj_sem k pc (.iload j) n = true) (kk : (∀ (H : Heap) (locs : List Loc) (ls : Array Slot), mj_h X s n0 s0 (G') (M') (L') (st') H locs ls → W p l e R s m args below meth c H locs ((G').1 - n0) ((G').2.1 - s0) Q (F0 m (pc') ls ((st' : List mj_V).map (mj_val X))))) : (∀ (H : Heap) (locs : List Loc) (ls : Array Slot), mj_h X s n0 s0 (G) (M) (L) (st) H locs ls → W p l e R s m args below meth c H locs (G.1 - n0) (G.2.1 - s0) Q (F0 m (pc) ls ((st : List mj_V).map (mj_val X)))) := by
  obtain ⟨x, hl, hz⟩ := inv_iload hs
  cases hz
  have hn : n = 2 := by simpa [mj_sem] using hm
  subst hn
  exact so_iload F.1 F.2.1 hd hl kk
theorem ss_aload_n_q {j : Fin 4} (F : mj_Fx_q p s m args meth c X k) (hn0 : s.heap.size = mj_N X + n0) (hL : L.length = mj_ml k) (hR : 8 ≤ R.frames ∧ 512 ≤ R.locals ∧ G'.1 - n0 ≤ R.cells ∧ G'.2.1 - s0 ≤ R.slots) (h9 : G'.1 ≤ 9000) (hs : mj_step k pc L st G M (.aload_n j) n = some (.inl (pc', L', st', G', M'))) (hd : decode (mj_by k) pc = .ok (.aload_n j, n)) (hm : mj_sem k pc (.aload_n j) n = true) (kk : (∀ (H : Heap) (locs : List Loc) (ls : Array Slot), mj_h X s n0 s0 (G') (M') (L') (st') H locs ls → W p l e R s m args below meth c H locs ((G').1 - n0) ((G').2.1 - s0) Q (F0 m (pc') ls ((st' : List mj_V).map (mj_val X))))) : (∀ (H : Heap) (locs : List Loc) (ls : Array Slot), mj_h X s n0 s0 (G) (M) (L) (st) H locs ls → W p l e R s m args below meth c H locs (G.1 - n0) (G.2.1 - s0) Q (F0 m (pc) ls ((st : List mj_V).map (mj_val X)))) := by
  obtain ⟨x, hl, hz⟩ := inv_aload_n hs
  cases hz
  have hn : n = 1 := by simpa [mj_sem] using hm
  subst hn
  exact so_aload_n F.1 F.2.1 hd hl kk
theorem ss_aload_q {j : Nat} (F : mj_Fx_q p s m args meth c X k) (hn0 : s.heap.size = mj_N X + n0) (hL : L.length = mj_ml k) (hR : 8 ≤ R.frames ∧ 512 ≤ R.locals ∧ G'.1 - n0 ≤ R.cells ∧ G'.2.1 - s0 ≤ R.slots) (h9 : G'.1 ≤ 9000) (hs : mj_step k pc L st G M (.aload j) n = some (.inl (pc', L', st', G', M'))) (hd : decode (mj_by k) pc = .ok (.aload j, n)) (hm : mj_sem k pc (.aload j) n = true) (kk : (∀ (H : Heap) (locs : List Loc) (ls : Array Slot), mj_h X s n0 s0 (G') (M') (L') (st') H locs ls → W p l e R s m args below meth c H locs ((G').1 - n0) ((G').2.1 - s0) Q (F0 m (pc') ls ((st' : List mj_V).map (mj_val X))))) : (∀ (H : Heap) (locs : List Loc) (ls : Array Slot), mj_h X s n0 s0 (G) (M) (L) (st) H locs ls → W p l e R s m args below meth c H locs (G.1 - n0) (G.2.1 - s0) Q (F0 m (pc) ls ((st : List mj_V).map (mj_val X)))) := by
  obtain ⟨x, hl, hz⟩ := inv_aload hs
  cases hz
  have hn : n = 2 := by simpa [mj_sem] using hm
  subst hn
  exact so_aload F.1 F.2.1 hd hl kk
theorem ss_istore_n_q {j : Fin 4} (F : mj_Fx_q p s m args meth c X k) (hn0 : s.heap.size = mj_N X + n0) (hL : L.length = mj_ml k) (hR : 8 ≤ R.frames ∧ 512 ≤ R.locals ∧ G'.1 - n0 ≤ R.cells ∧ G'.2.1 - s0 ≤ R.slots) (h9 : G'.1 ≤ 9000) (hs : mj_step k pc L st G M (.istore_n j) n = some (.inl (pc', L', st', G', M'))) (hd : decode (mj_by k) pc = .ok (.istore_n j, n)) (hm : mj_sem k pc (.istore_n j) n = true) (kk : (∀ (H : Heap) (locs : List Loc) (ls : Array Slot), mj_h X s n0 s0 (G') (M') (L') (st') H locs ls → W p l e R s m args below meth c H locs ((G').1 - n0) ((G').2.1 - s0) Q (F0 m (pc') ls ((st' : List mj_V).map (mj_val X))))) : (∀ (H : Heap) (locs : List Loc) (ls : Array Slot), mj_h X s n0 s0 (G) (M) (L) (st) H locs ls → W p l e R s m args below meth c H locs (G.1 - n0) (G.2.1 - s0) Q (F0 m (pc) ls ((st : List mj_V).map (mj_val X)))) := by
  obtain ⟨x, s2, rfl, hl, hz⟩ := inv_istore_n hs
  cases hz
  have hn : n = 1 := by simpa [mj_sem] using hm
  subst hn
  exact so_istore_n F.1 F.2.1 hd hl kk
theorem ss_istore_q {j : Nat} (F : mj_Fx_q p s m args meth c X k) (hn0 : s.heap.size = mj_N X + n0) (hL : L.length = mj_ml k) (hR : 8 ≤ R.frames ∧ 512 ≤ R.locals ∧ G'.1 - n0 ≤ R.cells ∧ G'.2.1 - s0 ≤ R.slots) (h9 : G'.1 ≤ 9000) (hs : mj_step k pc L st G M (.istore j) n = some (.inl (pc', L', st', G', M'))) (hd : decode (mj_by k) pc = .ok (.istore j, n)) (hm : mj_sem k pc (.istore j) n = true) (kk : (∀ (H : Heap) (locs : List Loc) (ls : Array Slot), mj_h X s n0 s0 (G') (M') (L') (st') H locs ls → W p l e R s m args below meth c H locs ((G').1 - n0) ((G').2.1 - s0) Q (F0 m (pc') ls ((st' : List mj_V).map (mj_val X))))) : (∀ (H : Heap) (locs : List Loc) (ls : Array Slot), mj_h X s n0 s0 (G) (M) (L) (st) H locs ls → W p l e R s m args below meth c H locs (G.1 - n0) (G.2.1 - s0) Q (F0 m (pc) ls ((st : List mj_V).map (mj_val X)))) := by
  obtain ⟨x, s2, rfl, hl, hz⟩ := inv_istore hs
  cases hz
  have hn : n = 2 := by simpa [mj_sem] using hm
  subst hn
  exact so_istore F.1 F.2.1 hd hl kk
theorem ss_astore_n_q {j : Fin 4} (F : mj_Fx_q p s m args meth c X k) (hn0 : s.heap.size = mj_N X + n0) (hL : L.length = mj_ml k) (hR : 8 ≤ R.frames ∧ 512 ≤ R.locals ∧ G'.1 - n0 ≤ R.cells ∧ G'.2.1 - s0 ≤ R.slots) (h9 : G'.1 ≤ 9000) (hs : mj_step k pc L st G M (.astore_n j) n = some (.inl (pc', L', st', G', M'))) (hd : decode (mj_by k) pc = .ok (.astore_n j, n)) (hm : mj_sem k pc (.astore_n j) n = true) (kk : (∀ (H : Heap) (locs : List Loc) (ls : Array Slot), mj_h X s n0 s0 (G') (M') (L') (st') H locs ls → W p l e R s m args below meth c H locs ((G').1 - n0) ((G').2.1 - s0) Q (F0 m (pc') ls ((st' : List mj_V).map (mj_val X))))) : (∀ (H : Heap) (locs : List Loc) (ls : Array Slot), mj_h X s n0 s0 (G) (M) (L) (st) H locs ls → W p l e R s m args below meth c H locs (G.1 - n0) (G.2.1 - s0) Q (F0 m (pc) ls ((st : List mj_V).map (mj_val X)))) := by
  obtain ⟨x, s2, rfl, hl, hz⟩ := inv_astore_n hs
  cases hz
  have hn : n = 1 := by simpa [mj_sem] using hm
  subst hn
  exact so_astore_n F.1 F.2.1 hd hl kk
theorem ss_astore_q {j : Nat} (F : mj_Fx_q p s m args meth c X k) (hn0 : s.heap.size = mj_N X + n0) (hL : L.length = mj_ml k) (hR : 8 ≤ R.frames ∧ 512 ≤ R.locals ∧ G'.1 - n0 ≤ R.cells ∧ G'.2.1 - s0 ≤ R.slots) (h9 : G'.1 ≤ 9000) (hs : mj_step k pc L st G M (.astore j) n = some (.inl (pc', L', st', G', M'))) (hd : decode (mj_by k) pc = .ok (.astore j, n)) (hm : mj_sem k pc (.astore j) n = true) (kk : (∀ (H : Heap) (locs : List Loc) (ls : Array Slot), mj_h X s n0 s0 (G') (M') (L') (st') H locs ls → W p l e R s m args below meth c H locs ((G').1 - n0) ((G').2.1 - s0) Q (F0 m (pc') ls ((st' : List mj_V).map (mj_val X))))) : (∀ (H : Heap) (locs : List Loc) (ls : Array Slot), mj_h X s n0 s0 (G) (M) (L) (st) H locs ls → W p l e R s m args below meth c H locs (G.1 - n0) (G.2.1 - s0) Q (F0 m (pc) ls ((st : List mj_V).map (mj_val X)))) := by
  obtain ⟨x, s2, rfl, hl, hz⟩ := inv_astore hs
  cases hz
  have hn : n = 2 := by simpa [mj_sem] using hm
  subst hn
  exact so_astore F.1 F.2.1 hd hl kk
theorem ss_iinc_q {j : Nat} {c0 : Int} (F : mj_Fx_q p s m args meth c X k) (hn0 : s.heap.size = mj_N X + n0) (hL : L.length = mj_ml k) (hR : 8 ≤ R.frames ∧ 512 ≤ R.locals ∧ G'.1 - n0 ≤ R.cells ∧ G'.2.1 - s0 ≤ R.slots) (h9 : G'.1 ≤ 9000) (hs : mj_step k pc L st G M (.iinc j c0) n = some (.inl (pc', L', st', G', M'))) (hd : decode (mj_by k) pc = .ok (.iinc j c0, n)) (hm : mj_sem k pc (.iinc j c0) n = true) (kk : (∀ (H : Heap) (locs : List Loc) (ls : Array Slot), mj_h X s n0 s0 (G') (M') (L') (st') H locs ls → W p l e R s m args below meth c H locs ((G').1 - n0) ((G').2.1 - s0) Q (F0 m (pc') ls ((st' : List mj_V).map (mj_val X))))) : (∀ (H : Heap) (locs : List Loc) (ls : Array Slot), mj_h X s n0 s0 (G) (M) (L) (st) H locs ls → W p l e R s m args below meth c H locs (G.1 - n0) (G.2.1 - s0) Q (F0 m (pc) ls ((st : List mj_V).map (mj_val X)))) := by
  obtain ⟨x, hl, hz⟩ := inv_iinc hs
  cases hz
  have hn : n = 3 := by simpa [mj_sem] using hm
  subst hn
  exact so_iinc F.1 F.2.1 hd hl kk
theorem ss_iadd_q  (F : mj_Fx_q p s m args meth c X k) (hn0 : s.heap.size = mj_N X + n0) (hL : L.length = mj_ml k) (hR : 8 ≤ R.frames ∧ 512 ≤ R.locals ∧ G'.1 - n0 ≤ R.cells ∧ G'.2.1 - s0 ≤ R.slots) (h9 : G'.1 ≤ 9000) (hs : mj_step k pc L st G M (.iadd) n = some (.inl (pc', L', st', G', M'))) (hd : decode (mj_by k) pc = .ok (.iadd, n)) (hm : mj_sem k pc (.iadd) n = true) (kk : (∀ (H : Heap) (locs : List Loc) (ls : Array Slot), mj_h X s n0 s0 (G') (M') (L') (st') H locs ls → W p l e R s m args below meth c H locs ((G').1 - n0) ((G').2.1 - s0) Q (F0 m (pc') ls ((st' : List mj_V).map (mj_val X))))) : (∀ (H : Heap) (locs : List Loc) (ls : Array Slot), mj_h X s n0 s0 (G) (M) (L) (st) H locs ls → W p l e R s m args below meth c H locs (G.1 - n0) (G.2.1 - s0) Q (F0 m (pc) ls ((st : List mj_V).map (mj_val X)))) := by
  obtain ⟨x, y, s2, rfl, hz⟩ := inv_iadd hs
  cases hz
  have hn : n = 1 := by simpa [mj_sem] using hm
  subst hn
  exact so_iadd F.1 F.2.1 hd kk
theorem ss_isub_q  (F : mj_Fx_q p s m args meth c X k) (hn0 : s.heap.size = mj_N X + n0) (hL : L.length = mj_ml k) (hR : 8 ≤ R.frames ∧ 512 ≤ R.locals ∧ G'.1 - n0 ≤ R.cells ∧ G'.2.1 - s0 ≤ R.slots) (h9 : G'.1 ≤ 9000) (hs : mj_step k pc L st G M (.isub) n = some (.inl (pc', L', st', G', M'))) (hd : decode (mj_by k) pc = .ok (.isub, n)) (hm : mj_sem k pc (.isub) n = true) (kk : (∀ (H : Heap) (locs : List Loc) (ls : Array Slot), mj_h X s n0 s0 (G') (M') (L') (st') H locs ls → W p l e R s m args below meth c H locs ((G').1 - n0) ((G').2.1 - s0) Q (F0 m (pc') ls ((st' : List mj_V).map (mj_val X))))) : (∀ (H : Heap) (locs : List Loc) (ls : Array Slot), mj_h X s n0 s0 (G) (M) (L) (st) H locs ls → W p l e R s m args below meth c H locs (G.1 - n0) (G.2.1 - s0) Q (F0 m (pc) ls ((st : List mj_V).map (mj_val X)))) := by
  obtain ⟨x, y, s2, rfl, hz⟩ := inv_isub hs
  cases hz
  have hn : n = 1 := by simpa [mj_sem] using hm
  subst hn
  exact so_isub F.1 F.2.1 hd kk
theorem ss_imul_q  (F : mj_Fx_q p s m args meth c X k) (hn0 : s.heap.size = mj_N X + n0) (hL : L.length = mj_ml k) (hR : 8 ≤ R.frames ∧ 512 ≤ R.locals ∧ G'.1 - n0 ≤ R.cells ∧ G'.2.1 - s0 ≤ R.slots) (h9 : G'.1 ≤ 9000) (hs : mj_step k pc L st G M (.imul) n = some (.inl (pc', L', st', G', M'))) (hd : decode (mj_by k) pc = .ok (.imul, n)) (hm : mj_sem k pc (.imul) n = true) (kk : (∀ (H : Heap) (locs : List Loc) (ls : Array Slot), mj_h X s n0 s0 (G') (M') (L') (st') H locs ls → W p l e R s m args below meth c H locs ((G').1 - n0) ((G').2.1 - s0) Q (F0 m (pc') ls ((st' : List mj_V).map (mj_val X))))) : (∀ (H : Heap) (locs : List Loc) (ls : Array Slot), mj_h X s n0 s0 (G) (M) (L) (st) H locs ls → W p l e R s m args below meth c H locs (G.1 - n0) (G.2.1 - s0) Q (F0 m (pc) ls ((st : List mj_V).map (mj_val X)))) := by
  obtain ⟨x, y, s2, rfl, hz⟩ := inv_imul hs
  cases hz
  have hn : n = 1 := by simpa [mj_sem] using hm
  subst hn
  exact so_imul F.1 F.2.1 hd kk
theorem ss_iand_q  (F : mj_Fx_q p s m args meth c X k) (hn0 : s.heap.size = mj_N X + n0) (hL : L.length = mj_ml k) (hR : 8 ≤ R.frames ∧ 512 ≤ R.locals ∧ G'.1 - n0 ≤ R.cells ∧ G'.2.1 - s0 ≤ R.slots) (h9 : G'.1 ≤ 9000) (hs : mj_step k pc L st G M (.iand) n = some (.inl (pc', L', st', G', M'))) (hd : decode (mj_by k) pc = .ok (.iand, n)) (hm : mj_sem k pc (.iand) n = true) (kk : (∀ (H : Heap) (locs : List Loc) (ls : Array Slot), mj_h X s n0 s0 (G') (M') (L') (st') H locs ls → W p l e R s m args below meth c H locs ((G').1 - n0) ((G').2.1 - s0) Q (F0 m (pc') ls ((st' : List mj_V).map (mj_val X))))) : (∀ (H : Heap) (locs : List Loc) (ls : Array Slot), mj_h X s n0 s0 (G) (M) (L) (st) H locs ls → W p l e R s m args below meth c H locs (G.1 - n0) (G.2.1 - s0) Q (F0 m (pc) ls ((st : List mj_V).map (mj_val X)))) := by
  obtain ⟨x, y, s2, rfl, hz⟩ := inv_iand hs
  cases hz
  have hn : n = 1 := by simpa [mj_sem] using hm
  subst hn
  exact so_iand F.1 F.2.1 hd kk
theorem ss_ior_q  (F : mj_Fx_q p s m args meth c X k) (hn0 : s.heap.size = mj_N X + n0) (hL : L.length = mj_ml k) (hR : 8 ≤ R.frames ∧ 512 ≤ R.locals ∧ G'.1 - n0 ≤ R.cells ∧ G'.2.1 - s0 ≤ R.slots) (h9 : G'.1 ≤ 9000) (hs : mj_step k pc L st G M (.ior) n = some (.inl (pc', L', st', G', M'))) (hd : decode (mj_by k) pc = .ok (.ior, n)) (hm : mj_sem k pc (.ior) n = true) (kk : (∀ (H : Heap) (locs : List Loc) (ls : Array Slot), mj_h X s n0 s0 (G') (M') (L') (st') H locs ls → W p l e R s m args below meth c H locs ((G').1 - n0) ((G').2.1 - s0) Q (F0 m (pc') ls ((st' : List mj_V).map (mj_val X))))) : (∀ (H : Heap) (locs : List Loc) (ls : Array Slot), mj_h X s n0 s0 (G) (M) (L) (st) H locs ls → W p l e R s m args below meth c H locs (G.1 - n0) (G.2.1 - s0) Q (F0 m (pc) ls ((st : List mj_V).map (mj_val X)))) := by
  obtain ⟨x, y, s2, rfl, hz⟩ := inv_ior hs
  cases hz
  have hn : n = 1 := by simpa [mj_sem] using hm
  subst hn
  exact so_ior F.1 F.2.1 hd kk
theorem ss_ishl_q  (F : mj_Fx_q p s m args meth c X k) (hn0 : s.heap.size = mj_N X + n0) (hL : L.length = mj_ml k) (hR : 8 ≤ R.frames ∧ 512 ≤ R.locals ∧ G'.1 - n0 ≤ R.cells ∧ G'.2.1 - s0 ≤ R.slots) (h9 : G'.1 ≤ 9000) (hs : mj_step k pc L st G M (.ishl) n = some (.inl (pc', L', st', G', M'))) (hd : decode (mj_by k) pc = .ok (.ishl, n)) (hm : mj_sem k pc (.ishl) n = true) (kk : (∀ (H : Heap) (locs : List Loc) (ls : Array Slot), mj_h X s n0 s0 (G') (M') (L') (st') H locs ls → W p l e R s m args below meth c H locs ((G').1 - n0) ((G').2.1 - s0) Q (F0 m (pc') ls ((st' : List mj_V).map (mj_val X))))) : (∀ (H : Heap) (locs : List Loc) (ls : Array Slot), mj_h X s n0 s0 (G) (M) (L) (st) H locs ls → W p l e R s m args below meth c H locs (G.1 - n0) (G.2.1 - s0) Q (F0 m (pc) ls ((st : List mj_V).map (mj_val X)))) := by
  obtain ⟨x, y, s2, rfl, hz⟩ := inv_ishl hs
  cases hz
  have hn : n = 1 := by simpa [mj_sem] using hm
  subst hn
  exact so_ishl F.1 F.2.1 hd kk
theorem ss_ishr_q  (F : mj_Fx_q p s m args meth c X k) (hn0 : s.heap.size = mj_N X + n0) (hL : L.length = mj_ml k) (hR : 8 ≤ R.frames ∧ 512 ≤ R.locals ∧ G'.1 - n0 ≤ R.cells ∧ G'.2.1 - s0 ≤ R.slots) (h9 : G'.1 ≤ 9000) (hs : mj_step k pc L st G M (.ishr) n = some (.inl (pc', L', st', G', M'))) (hd : decode (mj_by k) pc = .ok (.ishr, n)) (hm : mj_sem k pc (.ishr) n = true) (kk : (∀ (H : Heap) (locs : List Loc) (ls : Array Slot), mj_h X s n0 s0 (G') (M') (L') (st') H locs ls → W p l e R s m args below meth c H locs ((G').1 - n0) ((G').2.1 - s0) Q (F0 m (pc') ls ((st' : List mj_V).map (mj_val X))))) : (∀ (H : Heap) (locs : List Loc) (ls : Array Slot), mj_h X s n0 s0 (G) (M) (L) (st) H locs ls → W p l e R s m args below meth c H locs (G.1 - n0) (G.2.1 - s0) Q (F0 m (pc) ls ((st : List mj_V).map (mj_val X)))) := by
  obtain ⟨x, y, s2, rfl, hz⟩ := inv_ishr hs
  cases hz
  have hn : n = 1 := by simpa [mj_sem] using hm
  subst hn
  exact so_ishr F.1 F.2.1 hd kk
theorem ss_iushr_q  (F : mj_Fx_q p s m args meth c X k) (hn0 : s.heap.size = mj_N X + n0) (hL : L.length = mj_ml k) (hR : 8 ≤ R.frames ∧ 512 ≤ R.locals ∧ G'.1 - n0 ≤ R.cells ∧ G'.2.1 - s0 ≤ R.slots) (h9 : G'.1 ≤ 9000) (hs : mj_step k pc L st G M (.iushr) n = some (.inl (pc', L', st', G', M'))) (hd : decode (mj_by k) pc = .ok (.iushr, n)) (hm : mj_sem k pc (.iushr) n = true) (kk : (∀ (H : Heap) (locs : List Loc) (ls : Array Slot), mj_h X s n0 s0 (G') (M') (L') (st') H locs ls → W p l e R s m args below meth c H locs ((G').1 - n0) ((G').2.1 - s0) Q (F0 m (pc') ls ((st' : List mj_V).map (mj_val X))))) : (∀ (H : Heap) (locs : List Loc) (ls : Array Slot), mj_h X s n0 s0 (G) (M) (L) (st) H locs ls → W p l e R s m args below meth c H locs (G.1 - n0) (G.2.1 - s0) Q (F0 m (pc) ls ((st : List mj_V).map (mj_val X)))) := by
  obtain ⟨x, y, s2, rfl, hz⟩ := inv_iushr hs
  cases hz
  have hn : n = 1 := by simpa [mj_sem] using hm
  subst hn
  exact so_iushr F.1 F.2.1 hd kk
theorem ss_idiv_q  (F : mj_Fx_q p s m args meth c X k) (hn0 : s.heap.size = mj_N X + n0) (hL : L.length = mj_ml k) (hR : 8 ≤ R.frames ∧ 512 ≤ R.locals ∧ G'.1 - n0 ≤ R.cells ∧ G'.2.1 - s0 ≤ R.slots) (h9 : G'.1 ≤ 9000) (hs : mj_step k pc L st G M (.idiv) n = some (.inl (pc', L', st', G', M'))) (hd : decode (mj_by k) pc = .ok (.idiv, n)) (hm : mj_sem k pc (.idiv) n = true) (kk : (∀ (H : Heap) (locs : List Loc) (ls : Array Slot), mj_h X s n0 s0 (G') (M') (L') (st') H locs ls → W p l e R s m args below meth c H locs ((G').1 - n0) ((G').2.1 - s0) Q (F0 m (pc') ls ((st' : List mj_V).map (mj_val X))))) : (∀ (H : Heap) (locs : List Loc) (ls : Array Slot), mj_h X s n0 s0 (G) (M) (L) (st) H locs ls → W p l e R s m args below meth c H locs (G.1 - n0) (G.2.1 - s0) Q (F0 m (pc) ls ((st : List mj_V).map (mj_val X)))) := by
  obtain ⟨x, y, s2, rfl, hy, hz⟩ := inv_idiv hs
  cases hz
  have hn : n = 1 := by simpa [mj_sem] using hm
  subst hn
  exact so_idiv F.1 F.2.1 hy hd kk
theorem ss_irem_q  (F : mj_Fx_q p s m args meth c X k) (hn0 : s.heap.size = mj_N X + n0) (hL : L.length = mj_ml k) (hR : 8 ≤ R.frames ∧ 512 ≤ R.locals ∧ G'.1 - n0 ≤ R.cells ∧ G'.2.1 - s0 ≤ R.slots) (h9 : G'.1 ≤ 9000) (hs : mj_step k pc L st G M (.irem) n = some (.inl (pc', L', st', G', M'))) (hd : decode (mj_by k) pc = .ok (.irem, n)) (hm : mj_sem k pc (.irem) n = true) (kk : (∀ (H : Heap) (locs : List Loc) (ls : Array Slot), mj_h X s n0 s0 (G') (M') (L') (st') H locs ls → W p l e R s m args below meth c H locs ((G').1 - n0) ((G').2.1 - s0) Q (F0 m (pc') ls ((st' : List mj_V).map (mj_val X))))) : (∀ (H : Heap) (locs : List Loc) (ls : Array Slot), mj_h X s n0 s0 (G) (M) (L) (st) H locs ls → W p l e R s m args below meth c H locs (G.1 - n0) (G.2.1 - s0) Q (F0 m (pc) ls ((st : List mj_V).map (mj_val X)))) := by
  obtain ⟨x, y, s2, rfl, hy, hz⟩ := inv_irem hs
  cases hz
  have hn : n = 1 := by simpa [mj_sem] using hm
  subst hn
  exact so_irem F.1 F.2.1 hy hd kk
theorem ss_ineg_q  (F : mj_Fx_q p s m args meth c X k) (hn0 : s.heap.size = mj_N X + n0) (hL : L.length = mj_ml k) (hR : 8 ≤ R.frames ∧ 512 ≤ R.locals ∧ G'.1 - n0 ≤ R.cells ∧ G'.2.1 - s0 ≤ R.slots) (h9 : G'.1 ≤ 9000) (hs : mj_step k pc L st G M (.ineg) n = some (.inl (pc', L', st', G', M'))) (hd : decode (mj_by k) pc = .ok (.ineg, n)) (hm : mj_sem k pc (.ineg) n = true) (kk : (∀ (H : Heap) (locs : List Loc) (ls : Array Slot), mj_h X s n0 s0 (G') (M') (L') (st') H locs ls → W p l e R s m args below meth c H locs ((G').1 - n0) ((G').2.1 - s0) Q (F0 m (pc') ls ((st' : List mj_V).map (mj_val X))))) : (∀ (H : Heap) (locs : List Loc) (ls : Array Slot), mj_h X s n0 s0 (G) (M) (L) (st) H locs ls → W p l e R s m args below meth c H locs (G.1 - n0) (G.2.1 - s0) Q (F0 m (pc) ls ((st : List mj_V).map (mj_val X)))) := by
  obtain ⟨x, s2, rfl, hz⟩ := inv_ineg hs
  cases hz
  have hn : n = 1 := by simpa [mj_sem] using hm
  subst hn
  exact so_ineg F.1 F.2.1 hd kk
theorem ss_land_q  (F : mj_Fx_q p s m args meth c X k) (hn0 : s.heap.size = mj_N X + n0) (hL : L.length = mj_ml k) (hR : 8 ≤ R.frames ∧ 512 ≤ R.locals ∧ G'.1 - n0 ≤ R.cells ∧ G'.2.1 - s0 ≤ R.slots) (h9 : G'.1 ≤ 9000) (hs : mj_step k pc L st G M (.land) n = some (.inl (pc', L', st', G', M'))) (hd : decode (mj_by k) pc = .ok (.land, n)) (hm : mj_sem k pc (.land) n = true) (kk : (∀ (H : Heap) (locs : List Loc) (ls : Array Slot), mj_h X s n0 s0 (G') (M') (L') (st') H locs ls → W p l e R s m args below meth c H locs ((G').1 - n0) ((G').2.1 - s0) Q (F0 m (pc') ls ((st' : List mj_V).map (mj_val X))))) : (∀ (H : Heap) (locs : List Loc) (ls : Array Slot), mj_h X s n0 s0 (G) (M) (L) (st) H locs ls → W p l e R s m args below meth c H locs (G.1 - n0) (G.2.1 - s0) Q (F0 m (pc) ls ((st : List mj_V).map (mj_val X)))) := by
  obtain ⟨x, y, s2, rfl, hz⟩ := inv_land hs
  cases hz
  have hn : n = 1 := by simpa [mj_sem] using hm
  subst hn
  exact so_land F.1 F.2.1 hd kk
theorem ss_lor_q  (F : mj_Fx_q p s m args meth c X k) (hn0 : s.heap.size = mj_N X + n0) (hL : L.length = mj_ml k) (hR : 8 ≤ R.frames ∧ 512 ≤ R.locals ∧ G'.1 - n0 ≤ R.cells ∧ G'.2.1 - s0 ≤ R.slots) (h9 : G'.1 ≤ 9000) (hs : mj_step k pc L st G M (.lor) n = some (.inl (pc', L', st', G', M'))) (hd : decode (mj_by k) pc = .ok (.lor, n)) (hm : mj_sem k pc (.lor) n = true) (kk : (∀ (H : Heap) (locs : List Loc) (ls : Array Slot), mj_h X s n0 s0 (G') (M') (L') (st') H locs ls → W p l e R s m args below meth c H locs ((G').1 - n0) ((G').2.1 - s0) Q (F0 m (pc') ls ((st' : List mj_V).map (mj_val X))))) : (∀ (H : Heap) (locs : List Loc) (ls : Array Slot), mj_h X s n0 s0 (G) (M) (L) (st) H locs ls → W p l e R s m args below meth c H locs (G.1 - n0) (G.2.1 - s0) Q (F0 m (pc) ls ((st : List mj_V).map (mj_val X)))) := by
  obtain ⟨x, y, s2, rfl, hz⟩ := inv_lor hs
  cases hz
  have hn : n = 1 := by simpa [mj_sem] using hm
  subst hn
  exact so_lor F.1 F.2.1 hd kk
theorem ss_lshl_q  (F : mj_Fx_q p s m args meth c X k) (hn0 : s.heap.size = mj_N X + n0) (hL : L.length = mj_ml k) (hR : 8 ≤ R.frames ∧ 512 ≤ R.locals ∧ G'.1 - n0 ≤ R.cells ∧ G'.2.1 - s0 ≤ R.slots) (h9 : G'.1 ≤ 9000) (hs : mj_step k pc L st G M (.lshl) n = some (.inl (pc', L', st', G', M'))) (hd : decode (mj_by k) pc = .ok (.lshl, n)) (hm : mj_sem k pc (.lshl) n = true) (kk : (∀ (H : Heap) (locs : List Loc) (ls : Array Slot), mj_h X s n0 s0 (G') (M') (L') (st') H locs ls → W p l e R s m args below meth c H locs ((G').1 - n0) ((G').2.1 - s0) Q (F0 m (pc') ls ((st' : List mj_V).map (mj_val X))))) : (∀ (H : Heap) (locs : List Loc) (ls : Array Slot), mj_h X s n0 s0 (G) (M) (L) (st) H locs ls → W p l e R s m args below meth c H locs (G.1 - n0) (G.2.1 - s0) Q (F0 m (pc) ls ((st : List mj_V).map (mj_val X)))) := by
  obtain ⟨x, y, s2, rfl, hz⟩ := inv_lshl hs
  cases hz
  have hn : n = 1 := by simpa [mj_sem] using hm
  subst hn
  exact so_lshl F.1 F.2.1 hd kk
theorem ss_lcmp_q  (F : mj_Fx_q p s m args meth c X k) (hn0 : s.heap.size = mj_N X + n0) (hL : L.length = mj_ml k) (hR : 8 ≤ R.frames ∧ 512 ≤ R.locals ∧ G'.1 - n0 ≤ R.cells ∧ G'.2.1 - s0 ≤ R.slots) (h9 : G'.1 ≤ 9000) (hs : mj_step k pc L st G M (.lcmp) n = some (.inl (pc', L', st', G', M'))) (hd : decode (mj_by k) pc = .ok (.lcmp, n)) (hm : mj_sem k pc (.lcmp) n = true) (kk : (∀ (H : Heap) (locs : List Loc) (ls : Array Slot), mj_h X s n0 s0 (G') (M') (L') (st') H locs ls → W p l e R s m args below meth c H locs ((G').1 - n0) ((G').2.1 - s0) Q (F0 m (pc') ls ((st' : List mj_V).map (mj_val X))))) : (∀ (H : Heap) (locs : List Loc) (ls : Array Slot), mj_h X s n0 s0 (G) (M) (L) (st) H locs ls → W p l e R s m args below meth c H locs (G.1 - n0) (G.2.1 - s0) Q (F0 m (pc) ls ((st : List mj_V).map (mj_val X)))) := by
  obtain ⟨x, y, s2, rfl, hz⟩ := inv_lcmp hs
  cases hz
  have hn : n = 1 := by simpa [mj_sem] using hm
  subst hn
  exact so_lcmp F.1 F.2.1 hd kk
theorem ss_dup_q  (F : mj_Fx_q p s m args meth c X k) (hn0 : s.heap.size = mj_N X + n0) (hL : L.length = mj_ml k) (hR : 8 ≤ R.frames ∧ 512 ≤ R.locals ∧ G'.1 - n0 ≤ R.cells ∧ G'.2.1 - s0 ≤ R.slots) (h9 : G'.1 ≤ 9000) (hs : mj_step k pc L st G M (.dup) n = some (.inl (pc', L', st', G', M'))) (hd : decode (mj_by k) pc = .ok (.dup, n)) (hm : mj_sem k pc (.dup) n = true) (kk : (∀ (H : Heap) (locs : List Loc) (ls : Array Slot), mj_h X s n0 s0 (G') (M') (L') (st') H locs ls → W p l e R s m args below meth c H locs ((G').1 - n0) ((G').2.1 - s0) Q (F0 m (pc') ls ((st' : List mj_V).map (mj_val X))))) : (∀ (H : Heap) (locs : List Loc) (ls : Array Slot), mj_h X s n0 s0 (G) (M) (L) (st) H locs ls → W p l e R s m args below meth c H locs (G.1 - n0) (G.2.1 - s0) Q (F0 m (pc) ls ((st : List mj_V).map (mj_val X)))) := by
  obtain ⟨v, s2, rfl, hv, hz⟩ := inv_dup hs
  cases hz
  have hn : n = 1 := by simpa [mj_sem] using hm
  subst hn
  exact so_dup F.1 F.2.1 hv hd kk
theorem ss_dup2_q  (F : mj_Fx_q p s m args meth c X k) (hn0 : s.heap.size = mj_N X + n0) (hL : L.length = mj_ml k) (hR : 8 ≤ R.frames ∧ 512 ≤ R.locals ∧ G'.1 - n0 ≤ R.cells ∧ G'.2.1 - s0 ≤ R.slots) (h9 : G'.1 ≤ 9000) (hs : mj_step k pc L st G M (.dup2) n = some (.inl (pc', L', st', G', M'))) (hd : decode (mj_by k) pc = .ok (.dup2, n)) (hm : mj_sem k pc (.dup2) n = true) (kk : (∀ (H : Heap) (locs : List Loc) (ls : Array Slot), mj_h X s n0 s0 (G') (M') (L') (st') H locs ls → W p l e R s m args below meth c H locs ((G').1 - n0) ((G').2.1 - s0) Q (F0 m (pc') ls ((st' : List mj_V).map (mj_val X))))) : (∀ (H : Heap) (locs : List Loc) (ls : Array Slot), mj_h X s n0 s0 (G) (M) (L) (st) H locs ls → W p l e R s m args below meth c H locs (G.1 - n0) (G.2.1 - s0) Q (F0 m (pc) ls ((st : List mj_V).map (mj_val X)))) := by
  obtain ⟨x, a, s2, rfl, hz⟩ := inv_dup2 hs
  cases hz
  have hn : n = 1 := by simpa [mj_sem] using hm
  subst hn
  exact so_dup2 F.1 F.2.1 rfl rfl hd kk
theorem ss_pop_q  (F : mj_Fx_q p s m args meth c X k) (hn0 : s.heap.size = mj_N X + n0) (hL : L.length = mj_ml k) (hR : 8 ≤ R.frames ∧ 512 ≤ R.locals ∧ G'.1 - n0 ≤ R.cells ∧ G'.2.1 - s0 ≤ R.slots) (h9 : G'.1 ≤ 9000) (hs : mj_step k pc L st G M (.pop) n = some (.inl (pc', L', st', G', M'))) (hd : decode (mj_by k) pc = .ok (.pop, n)) (hm : mj_sem k pc (.pop) n = true) (kk : (∀ (H : Heap) (locs : List Loc) (ls : Array Slot), mj_h X s n0 s0 (G') (M') (L') (st') H locs ls → W p l e R s m args below meth c H locs ((G').1 - n0) ((G').2.1 - s0) Q (F0 m (pc') ls ((st' : List mj_V).map (mj_val X))))) : (∀ (H : Heap) (locs : List Loc) (ls : Array Slot), mj_h X s n0 s0 (G) (M) (L) (st) H locs ls → W p l e R s m args below meth c H locs (G.1 - n0) (G.2.1 - s0) Q (F0 m (pc) ls ((st : List mj_V).map (mj_val X)))) := by
  obtain ⟨v, s2, rfl, hv, hz⟩ := inv_pop hs
  cases hz
  have hn : n = 1 := by simpa [mj_sem] using hm
  subst hn
  exact so_pop F.1 F.2.1 hv hd kk
theorem ss_goto_q {off : Int} (F : mj_Fx_q p s m args meth c X k) (hn0 : s.heap.size = mj_N X + n0) (hL : L.length = mj_ml k) (hR : 8 ≤ R.frames ∧ 512 ≤ R.locals ∧ G'.1 - n0 ≤ R.cells ∧ G'.2.1 - s0 ≤ R.slots) (h9 : G'.1 ≤ 9000) (hs : mj_step k pc L st G M (.goto off) n = some (.inl (pc', L', st', G', M'))) (hd : decode (mj_by k) pc = .ok (.goto off, n)) (hm : mj_sem k pc (.goto off) n = true) (kk : (∀ (H : Heap) (locs : List Loc) (ls : Array Slot), mj_h X s n0 s0 (G') (M') (L') (st') H locs ls → W p l e R s m args below meth c H locs ((G').1 - n0) ((G').2.1 - s0) Q (F0 m (pc') ls ((st' : List mj_V).map (mj_val X))))) : (∀ (H : Heap) (locs : List Loc) (ls : Array Slot), mj_h X s n0 s0 (G) (M) (L) (st) H locs ls → W p l e R s m args below meth c H locs (G.1 - n0) (G.2.1 - s0) Q (F0 m (pc) ls ((st : List mj_V).map (mj_val X)))) := by
  obtain hz := inv_goto hs
  cases hz
  have hn : n = 3 := by simp [mj_sem] at hm; exact hm.1
  subst hn
  exact so_goto F.1 F.2.1 hd (by simp [mj_sem] at hm; exact hm) kk
theorem ss_ifCond_q {C : ClassFile.Cond} {off : Int} (F : mj_Fx_q p s m args meth c X k) (hn0 : s.heap.size = mj_N X + n0) (hL : L.length = mj_ml k) (hR : 8 ≤ R.frames ∧ 512 ≤ R.locals ∧ G'.1 - n0 ≤ R.cells ∧ G'.2.1 - s0 ≤ R.slots) (h9 : G'.1 ≤ 9000) (hs : mj_step k pc L st G M (.ifCond C off) n = some (.inl (pc', L', st', G', M'))) (hd : decode (mj_by k) pc = .ok (.ifCond C off, n)) (hm : mj_sem k pc (.ifCond C off) n = true) (kk : (∀ (H : Heap) (locs : List Loc) (ls : Array Slot), mj_h X s n0 s0 (G') (M') (L') (st') H locs ls → W p l e R s m args below meth c H locs ((G').1 - n0) ((G').2.1 - s0) Q (F0 m (pc') ls ((st' : List mj_V).map (mj_val X))))) : (∀ (H : Heap) (locs : List Loc) (ls : Array Slot), mj_h X s n0 s0 (G) (M) (L) (st) H locs ls → W p l e R s m args below meth c H locs (G.1 - n0) (G.2.1 - s0) Q (F0 m (pc) ls ((st : List mj_V).map (mj_val X)))) := by
  obtain ⟨x, s2, rfl, hz⟩ := inv_ifCond hs
  have hn : n = 3 := by simp [mj_sem] at hm; exact hm.1
  subst hn
  have h0 : 0 ≤ (pc : Int) + off := by simp [mj_sem] at hm; exact hm
  cases C <;> simp only [mj_br] at hz
  case eq =>
    refine so_eq0 F.1 F.2.1 hd h0 (fun q => ?_) (fun q => ?_)
    · rw [if_pos q] at hz; cases hz; exact kk
    · rw [if_neg q] at hz; cases hz; exact kk
  case ne =>
    refine so_ne0 F.1 F.2.1 hd h0 (fun q => ?_) (fun q => ?_)
    · rw [if_pos q] at hz; cases hz; exact kk
    · rw [if_neg q] at hz; cases hz; exact kk
  case lt =>
    refine so_lt0 F.1 F.2.1 hd h0 (fun q => ?_) (fun q => ?_)
    · rw [if_pos q] at hz; cases hz; exact kk
    · rw [if_neg q] at hz; cases hz; exact kk
  case ge =>
    refine so_ge0 F.1 F.2.1 hd h0 (fun q => ?_) (fun q => ?_)
    · rw [if_pos q] at hz; cases hz; exact kk
    · rw [if_neg q] at hz; cases hz; exact kk
  case gt =>
    refine so_gt0 F.1 F.2.1 hd h0 (fun q => ?_) (fun q => ?_)
    · rw [if_pos q] at hz; cases hz; exact kk
    · rw [if_neg q] at hz; cases hz; exact kk
  case le =>
    refine so_le0 F.1 F.2.1 hd h0 (fun q => ?_) (fun q => ?_)
    · rw [if_pos q] at hz; cases hz; exact kk
    · rw [if_neg q] at hz; cases hz; exact kk
theorem ss_if_icmp_q {C : ClassFile.Cond} {off : Int} (F : mj_Fx_q p s m args meth c X k) (hn0 : s.heap.size = mj_N X + n0) (hL : L.length = mj_ml k) (hR : 8 ≤ R.frames ∧ 512 ≤ R.locals ∧ G'.1 - n0 ≤ R.cells ∧ G'.2.1 - s0 ≤ R.slots) (h9 : G'.1 ≤ 9000) (hs : mj_step k pc L st G M (.if_icmp C off) n = some (.inl (pc', L', st', G', M'))) (hd : decode (mj_by k) pc = .ok (.if_icmp C off, n)) (hm : mj_sem k pc (.if_icmp C off) n = true) (kk : (∀ (H : Heap) (locs : List Loc) (ls : Array Slot), mj_h X s n0 s0 (G') (M') (L') (st') H locs ls → W p l e R s m args below meth c H locs ((G').1 - n0) ((G').2.1 - s0) Q (F0 m (pc') ls ((st' : List mj_V).map (mj_val X))))) : (∀ (H : Heap) (locs : List Loc) (ls : Array Slot), mj_h X s n0 s0 (G) (M) (L) (st) H locs ls → W p l e R s m args below meth c H locs (G.1 - n0) (G.2.1 - s0) Q (F0 m (pc) ls ((st : List mj_V).map (mj_val X)))) := by
  obtain ⟨x, y, s2, rfl, hz⟩ := inv_if_icmp hs
  have hn : n = 3 := by simp [mj_sem] at hm; exact hm.1
  subst hn
  have h0 : 0 ≤ (pc : Int) + off := by simp [mj_sem] at hm; exact hm
  cases C <;> simp only [mj_br] at hz
  case eq =>
    refine so_eq F.1 F.2.1 hd h0 (fun q => ?_) (fun q => ?_)
    · rw [if_pos q] at hz; cases hz; exact kk
    · rw [if_neg q] at hz; cases hz; exact kk
  case ne =>
    refine so_ne F.1 F.2.1 hd h0 (fun q => ?_) (fun q => ?_)
    · rw [if_pos q] at hz; cases hz; exact kk
    · rw [if_neg q] at hz; cases hz; exact kk
  case lt =>
    refine so_lt F.1 F.2.1 hd h0 (fun q => ?_) (fun q => ?_)
    · rw [if_pos q] at hz; cases hz; exact kk
    · rw [if_neg q] at hz; cases hz; exact kk
  case ge =>
    refine so_ge F.1 F.2.1 hd h0 (fun q => ?_) (fun q => ?_)
    · rw [if_pos q] at hz; cases hz; exact kk
    · rw [if_neg q] at hz; cases hz; exact kk
  case gt =>
    refine so_gt F.1 F.2.1 hd h0 (fun q => ?_) (fun q => ?_)
    · rw [if_pos q] at hz; cases hz; exact kk
    · rw [if_neg q] at hz; cases hz; exact kk
  case le =>
    refine so_le F.1 F.2.1 hd h0 (fun q => ?_) (fun q => ?_)
    · rw [if_pos q] at hz; cases hz; exact kk
    · rw [if_neg q] at hz; cases hz; exact kk
theorem ss_tableswitch_q {d lo hi : Int} {offs : Array Int} (F : mj_Fx_q p s m args meth c X k) (hn0 : s.heap.size = mj_N X + n0) (hL : L.length = mj_ml k) (hR : 8 ≤ R.frames ∧ 512 ≤ R.locals ∧ G'.1 - n0 ≤ R.cells ∧ G'.2.1 - s0 ≤ R.slots) (h9 : G'.1 ≤ 9000) (hs : mj_step k pc L st G M (.tableswitch d lo hi offs) n = some (.inl (pc', L', st', G', M'))) (hd : decode (mj_by k) pc = .ok (.tableswitch d lo hi offs, n)) (hm : mj_sem k pc (.tableswitch d lo hi offs) n = true) (kk : (∀ (H : Heap) (locs : List Loc) (ls : Array Slot), mj_h X s n0 s0 (G') (M') (L') (st') H locs ls → W p l e R s m args below meth c H locs ((G').1 - n0) ((G').2.1 - s0) Q (F0 m (pc') ls ((st' : List mj_V).map (mj_val X))))) : (∀ (H : Heap) (locs : List Loc) (ls : Array Slot), mj_h X s n0 s0 (G) (M) (L) (st) H locs ls → W p l e R s m args below meth c H locs (G.1 - n0) (G.2.1 - s0) Q (F0 m (pc) ls ((st : List mj_V).map (mj_val X)))) := by
  obtain ⟨x, s2, rfl, hz⟩ := inv_tableswitch hs
  cases hz
  have hm : ((offs.toList.length : Int) = hi - lo + 1 ∧ mj_i32 lo ∧ mj_i32 hi ∧ 0 ≤ (pc : Int) + d) ∧ ∀ o ∈ offs.toList, 0 ≤ (pc : Int) + o := by
    simp only [mj_sem, Bool.and_eq_true, List.all_eq_true, decide_eq_true_eq] at hm
    exact ⟨⟨hm.1.1.1.1, hm.1.1.1.2, hm.1.1.2, hm.1.2⟩, hm.2⟩
  obtain ⟨⟨h1, h2, h3, h4⟩, h5⟩ := hm
  intro H locs ls h
  have hX : mj_i32 x := (mj_h_1 h).1
  obtain ⟨t1, t2⟩ := mj_tsw_ok_q (d := d) offs.toList lo x
  by_cases hin : lo ≤ x ∧ x ≤ hi
  · have h6 := t2 hin.1 (by omega)
    refine lv_tableIn F.1 F.2.1 hd (by rw [mj_toI hX]; omega) (by rw [mj_toI hX]; omega) (by rw [mj_toI hX, ← Array.getElem?_toList]; exact h6) (mj_tgt0_q (h5 _ (List.mem_of_getElem? h6))) (kk H locs ls (mj_h_pop h))
  · have h6 := t1 (by omega)
    rw [h6] at kk
    exact lv_tableOut F.1 F.2.1 hd (by rw [mj_toI hX]; omega) (mj_tgt0_q h4) (kk H locs ls (mj_h_pop h))
theorem ss_lookupswitch_q {d : Int} {qs : Array (Int × Int)} (F : mj_Fx_q p s m args meth c X k) (hn0 : s.heap.size = mj_N X + n0) (hL : L.length = mj_ml k) (hR : 8 ≤ R.frames ∧ 512 ≤ R.locals ∧ G'.1 - n0 ≤ R.cells ∧ G'.2.1 - s0 ≤ R.slots) (h9 : G'.1 ≤ 9000) (hs : mj_step k pc L st G M (.lookupswitch d qs) n = some (.inl (pc', L', st', G', M'))) (hd : decode (mj_by k) pc = .ok (.lookupswitch d qs, n)) (hm : mj_sem k pc (.lookupswitch d qs) n = true) (kk : (∀ (H : Heap) (locs : List Loc) (ls : Array Slot), mj_h X s n0 s0 (G') (M') (L') (st') H locs ls → W p l e R s m args below meth c H locs ((G').1 - n0) ((G').2.1 - s0) Q (F0 m (pc') ls ((st' : List mj_V).map (mj_val X))))) : (∀ (H : Heap) (locs : List Loc) (ls : Array Slot), mj_h X s n0 s0 (G) (M) (L) (st) H locs ls → W p l e R s m args below meth c H locs (G.1 - n0) (G.2.1 - s0) Q (F0 m (pc) ls ((st : List mj_V).map (mj_val X)))) := by
  obtain ⟨x, s2, rfl, hz⟩ := inv_lookupswitch hs
  cases hz
  have hm : (qs.toList.zip (qs.toList.drop 1)).all (fun (a, next) => a.1 < next.1) = true ∧ 0 ≤ (pc : Int) + d ∧ ∀ q ∈ qs.toList, 0 ≤ (pc : Int) + q.2 := by
    simp only [mj_sem, Bool.and_eq_true] at hm
    refine ⟨hm.1.1, of_decide_eq_true hm.1.2, fun q hq => ?_⟩
    exact of_decide_eq_true (List.all_eq_true.mp hm.2 q hq)
  obtain ⟨h1, h2, h3⟩ := hm
  intro H locs ls h
  have hX : mj_i32 x := (mj_h_1 h).1
  have hp : 0 ≤ (pc : Int) + mj_lsw qs.toList x d := by
    have key : ∀ l : List (Int × Int), (∀ q ∈ l, 0 ≤ (pc : Int) + q.2) → 0 ≤ (pc : Int) + mj_lsw l x d := by
      intro l
      induction l with
      | nil => intro _; exact h2
      | cons q t ih =>
        obtain ⟨a, b⟩ := q
        intro hl
        unfold mj_lsw
        split
        · exact hl (a, b) List.mem_cons_self
        · exact ih (fun q hq => hl q (List.mem_cons_of_mem _ hq))
    exact key _ h3
  exact lv_lookup F.1 F.2.1 hd h1 (by rw [mj_toI hX]; exact mj_lsw_ok_q qs.toList) (mj_tgt0_q hp) (kk H locs ls (mj_h_pop h))
theorem ss_iaload_q  (F : mj_Fx_q p s m args meth c X k) (hn0 : s.heap.size = mj_N X + n0) (hL : L.length = mj_ml k) (hR : 8 ≤ R.frames ∧ 512 ≤ R.locals ∧ G'.1 - n0 ≤ R.cells ∧ G'.2.1 - s0 ≤ R.slots) (h9 : G'.1 ≤ 9000) (hs : mj_step k pc L st G M (.iaload) n = some (.inl (pc', L', st', G', M'))) (hd : decode (mj_by k) pc = .ok (.iaload, n)) (hm : mj_sem k pc (.iaload) n = true) (kk : (∀ (H : Heap) (locs : List Loc) (ls : Array Slot), mj_h X s n0 s0 (G') (M') (L') (st') H locs ls → W p l e R s m args below meth c H locs ((G').1 - n0) ((G').2.1 - s0) Q (F0 m (pc') ls ((st' : List mj_V).map (mj_val X))))) : (∀ (H : Heap) (locs : List Loc) (ls : Array Slot), mj_h X s n0 s0 (G) (M) (L) (st) H locs ls → W p l e R s m args below meth c H locs (G.1 - n0) (G.2.1 - s0) Q (F0 m (pc) ls ((st : List mj_V).map (mj_val X)))) := by
  obtain ⟨x, a, len, s2, rfl, ha, hi, hz⟩ := inv_iaload hs
  cases hz
  have hn : n = 1 := by simpa [mj_sem] using hm
  subst hn
  exact so_iald F.1 F.2.1 F.2.2.2.2.1 mj_U F.2.2.2.1 F.2.2.2.2.2.1.1 F.2.2.2.2.2.1.2.1 F.2.2.2.2.2.1.2.2.1 hd ha hi kk
theorem ss_arraylength_q  (F : mj_Fx_q p s m args meth c X k) (hn0 : s.heap.size = mj_N X + n0) (hL : L.length = mj_ml k) (hR : 8 ≤ R.frames ∧ 512 ≤ R.locals ∧ G'.1 - n0 ≤ R.cells ∧ G'.2.1 - s0 ≤ R.slots) (h9 : G'.1 ≤ 9000) (hs : mj_step k pc L st G M (.arraylength) n = some (.inl (pc', L', st', G', M'))) (hd : decode (mj_by k) pc = .ok (.arraylength, n)) (hm : mj_sem k pc (.arraylength) n = true) (kk : (∀ (H : Heap) (locs : List Loc) (ls : Array Slot), mj_h X s n0 s0 (G') (M') (L') (st') H locs ls → W p l e R s m args below meth c H locs ((G').1 - n0) ((G').2.1 - s0) Q (F0 m (pc') ls ((st' : List mj_V).map (mj_val X))))) : (∀ (H : Heap) (locs : List Loc) (ls : Array Slot), mj_h X s n0 s0 (G) (M) (L) (st) H locs ls → W p l e R s m args below meth c H locs (G.1 - n0) (G.2.1 - s0) Q (F0 m (pc) ls ((st : List mj_V).map (mj_val X)))) := by
  obtain ⟨a, len, s2, rfl, ha, hz⟩ := inv_arraylength hs
  cases hz
  have hn : n = 1 := by simpa [mj_sem] using hm
  subst hn
  exact so_alen F.1 F.2.1 F.2.2.2.2.1 mj_U F.2.2.2.1 F.2.2.2.2.2.1.1 F.2.2.2.2.2.1.2.1 F.2.2.2.2.2.1.2.2.1 hd ha kk
theorem ss_baload_q  (F : mj_Fx_q p s m args meth c X k) (hn0 : s.heap.size = mj_N X + n0) (hL : L.length = mj_ml k) (hR : 8 ≤ R.frames ∧ 512 ≤ R.locals ∧ G'.1 - n0 ≤ R.cells ∧ G'.2.1 - s0 ≤ R.slots) (h9 : G'.1 ≤ 9000) (hs : mj_step k pc L st G M (.baload) n = some (.inl (pc', L', st', G', M'))) (hd : decode (mj_by k) pc = .ok (.baload, n)) (hm : mj_sem k pc (.baload) n = true) (kk : (∀ (H : Heap) (locs : List Loc) (ls : Array Slot), mj_h X s n0 s0 (G') (M') (L') (st') H locs ls → W p l e R s m args below meth c H locs ((G').1 - n0) ((G').2.1 - s0) Q (F0 m (pc') ls ((st' : List mj_V).map (mj_val X))))) : (∀ (H : Heap) (locs : List Loc) (ls : Array Slot), mj_h X s n0 s0 (G) (M) (L) (st) H locs ls → W p l e R s m args below meth c H locs (G.1 - n0) (G.2.1 - s0) Q (F0 m (pc) ls ((st : List mj_V).map (mj_val X)))) := by
  obtain ⟨x, a, len, s2, rfl, ha, hi, hz⟩ := inv_baload hs
  cases hz
  have hn : n = 1 := by simpa [mj_sem] using hm
  subst hn
  exact so_bald F.1 F.2.1 F.2.2.2.2.1 mj_U F.2.2.2.1 F.2.2.2.2.2.1.1 hd ha hi kk
theorem ss_laload_q  (F : mj_Fx_q p s m args meth c X k) (hn0 : s.heap.size = mj_N X + n0) (hL : L.length = mj_ml k) (hR : 8 ≤ R.frames ∧ 512 ≤ R.locals ∧ G'.1 - n0 ≤ R.cells ∧ G'.2.1 - s0 ≤ R.slots) (h9 : G'.1 ≤ 9000) (hs : mj_step k pc L st G M (.laload) n = some (.inl (pc', L', st', G', M'))) (hd : decode (mj_by k) pc = .ok (.laload, n)) (hm : mj_sem k pc (.laload) n = true) (kk : (∀ (H : Heap) (locs : List Loc) (ls : Array Slot), mj_h X s n0 s0 (G') (M') (L') (st') H locs ls → W p l e R s m args below meth c H locs ((G').1 - n0) ((G').2.1 - s0) Q (F0 m (pc') ls ((st' : List mj_V).map (mj_val X))))) : (∀ (H : Heap) (locs : List Loc) (ls : Array Slot), mj_h X s n0 s0 (G) (M) (L) (st) H locs ls → W p l e R s m args below meth c H locs (G.1 - n0) (G.2.1 - s0) Q (F0 m (pc) ls ((st : List mj_V).map (mj_val X)))) := by
  obtain ⟨x, a, len, s2, rfl, ha, hi, hz⟩ := inv_laload hs
  cases hz
  have hn : n = 1 := by simpa [mj_sem] using hm
  subst hn
  exact so_lald F.1 F.2.1 F.2.2.2.2.1 mj_U F.2.2.2.1 F.2.2.2.2.2.1.1 hd ha hi kk
theorem ss_aaload_q  (F : mj_Fx_q p s m args meth c X k) (hn0 : s.heap.size = mj_N X + n0) (hL : L.length = mj_ml k) (hR : 8 ≤ R.frames ∧ 512 ≤ R.locals ∧ G'.1 - n0 ≤ R.cells ∧ G'.2.1 - s0 ≤ R.slots) (h9 : G'.1 ≤ 9000) (hs : mj_step k pc L st G M (.aaload) n = some (.inl (pc', L', st', G', M'))) (hd : decode (mj_by k) pc = .ok (.aaload, n)) (hm : mj_sem k pc (.aaload) n = true) (kk : (∀ (H : Heap) (locs : List Loc) (ls : Array Slot), mj_h X s n0 s0 (G') (M') (L') (st') H locs ls → W p l e R s m args below meth c H locs ((G').1 - n0) ((G').2.1 - s0) Q (F0 m (pc') ls ((st' : List mj_V).map (mj_val X))))) : (∀ (H : Heap) (locs : List Loc) (ls : Array Slot), mj_h X s n0 s0 (G) (M) (L) (st) H locs ls → W p l e R s m args below meth c H locs (G.1 - n0) (G.2.1 - s0) Q (F0 m (pc) ls ((st : List mj_V).map (mj_val X)))) := by
  obtain ⟨x, a, len, s2, rfl, ha, hi, hz⟩ := inv_aaload hs
  cases hz
  have hn : n = 1 := by simpa [mj_sem] using hm
  subst hn
  exact so_aald F.1 F.2.1 F.2.2.2.2.1 mj_U F.2.2.2.1 F.2.2.2.2.2.1.1 hd ha hi kk
theorem ss_iastore_q  (F : mj_Fx_q p s m args meth c X k) (hn0 : s.heap.size = mj_N X + n0) (hL : L.length = mj_ml k) (hR : 8 ≤ R.frames ∧ 512 ≤ R.locals ∧ G'.1 - n0 ≤ R.cells ∧ G'.2.1 - s0 ≤ R.slots) (h9 : G'.1 ≤ 9000) (hs : mj_step k pc L st G M (.iastore) n = some (.inl (pc', L', st', G', M'))) (hd : decode (mj_by k) pc = .ok (.iastore, n)) (hm : mj_sem k pc (.iastore) n = true) (kk : (∀ (H : Heap) (locs : List Loc) (ls : Array Slot), mj_h X s n0 s0 (G') (M') (L') (st') H locs ls → W p l e R s m args below meth c H locs ((G').1 - n0) ((G').2.1 - s0) Q (F0 m (pc') ls ((st' : List mj_V).map (mj_val X))))) : (∀ (H : Heap) (locs : List Loc) (ls : Array Slot), mj_h X s n0 s0 (G) (M) (L) (st) H locs ls → W p l e R s m args below meth c H locs (G.1 - n0) (G.2.1 - s0) Q (F0 m (pc) ls ((st : List mj_V).map (mj_val X)))) := by
  obtain ⟨x, y, a, len, s2, rfl, ha, hi, hz⟩ := inv_iastore hs
  cases hz
  have hn : n = 1 := by simpa [mj_sem] using hm
  subst hn
  exact so_iast F.1 F.2.1 F.2.2.2.2.1 mj_U F.2.2.2.1 F.2.2.2.2.2.1.1 hd ha hi kk
theorem ss_bastore_q  (F : mj_Fx_q p s m args meth c X k) (hn0 : s.heap.size = mj_N X + n0) (hL : L.length = mj_ml k) (hR : 8 ≤ R.frames ∧ 512 ≤ R.locals ∧ G'.1 - n0 ≤ R.cells ∧ G'.2.1 - s0 ≤ R.slots) (h9 : G'.1 ≤ 9000) (hs : mj_step k pc L st G M (.bastore) n = some (.inl (pc', L', st', G', M'))) (hd : decode (mj_by k) pc = .ok (.bastore, n)) (hm : mj_sem k pc (.bastore) n = true) (kk : (∀ (H : Heap) (locs : List Loc) (ls : Array Slot), mj_h X s n0 s0 (G') (M') (L') (st') H locs ls → W p l e R s m args below meth c H locs ((G').1 - n0) ((G').2.1 - s0) Q (F0 m (pc') ls ((st' : List mj_V).map (mj_val X))))) : (∀ (H : Heap) (locs : List Loc) (ls : Array Slot), mj_h X s n0 s0 (G) (M) (L) (st) H locs ls → W p l e R s m args below meth c H locs (G.1 - n0) (G.2.1 - s0) Q (F0 m (pc) ls ((st : List mj_V).map (mj_val X)))) := by
  obtain ⟨x, y, a, len, s2, rfl, ha, hi, hz⟩ := inv_bastore hs
  cases hz
  have hn : n = 1 := by simpa [mj_sem] using hm
  subst hn
  exact so_bast F.1 F.2.1 F.2.2.2.2.1 mj_U F.2.2.2.1 F.2.2.2.2.2.1.1 hd ha ⟨hi.1, hi.2.1⟩ hi.2.2 kk
theorem ss_lastore_q  (F : mj_Fx_q p s m args meth c X k) (hn0 : s.heap.size = mj_N X + n0) (hL : L.length = mj_ml k) (hR : 8 ≤ R.frames ∧ 512 ≤ R.locals ∧ G'.1 - n0 ≤ R.cells ∧ G'.2.1 - s0 ≤ R.slots) (h9 : G'.1 ≤ 9000) (hs : mj_step k pc L st G M (.lastore) n = some (.inl (pc', L', st', G', M'))) (hd : decode (mj_by k) pc = .ok (.lastore, n)) (hm : mj_sem k pc (.lastore) n = true) (kk : (∀ (H : Heap) (locs : List Loc) (ls : Array Slot), mj_h X s n0 s0 (G') (M') (L') (st') H locs ls → W p l e R s m args below meth c H locs ((G').1 - n0) ((G').2.1 - s0) Q (F0 m (pc') ls ((st' : List mj_V).map (mj_val X))))) : (∀ (H : Heap) (locs : List Loc) (ls : Array Slot), mj_h X s n0 s0 (G) (M) (L) (st) H locs ls → W p l e R s m args below meth c H locs (G.1 - n0) (G.2.1 - s0) Q (F0 m (pc) ls ((st : List mj_V).map (mj_val X)))) := by
  obtain ⟨x, y, a, len, s2, rfl, ha, hi, hz⟩ := inv_lastore hs
  cases hz
  have hn : n = 1 := by simpa [mj_sem] using hm
  subst hn
  exact so_last F.1 F.2.1 F.2.2.2.2.1 mj_U F.2.2.2.1 F.2.2.2.2.2.1.1 hd ha hi kk
theorem mj_ent1_q {idx : Nat} (h : (mj_pos (mj_oc k) idx).2 = 1) (ho : mj_owns.getD (mj_oc k) "" = mj_own k) (hts : ∀ w ∈ mj_tb, w.before args s = true) {ci j : Nat} (hq : mj_pool (mj_oc k) idx = (ci, j)) : ci < 13 ∧ j < mj_nf ci ∧ (Cond.fieldLink (mj_own k) idx (mj_cn ci) (mj_F ci j).2.1 (mj_F ci j).2.2.1).before args s = true := by
  have h1 := mj_ent_ok h (by decide)
  unfold mj_eck mj_ew at h1
  simp only [if_true, Bool.and_eq_true, hq, ho] at h1
  obtain ⟨⟨⟨⟨a1, a2⟩, -⟩, -⟩, -⟩ := h1
  have a3 : ci < 13 ∧ j < mj_nf ci := by simpa using a2
  exact ⟨a3.1, a3.2, hts _ (mj_hit_ok a1)⟩
theorem mj_ent2_q {idx : Nat} (h : (mj_pos (mj_oc k) idx).2 = 2) (ho : mj_owns.getD (mj_oc k) "" = mj_own k) (hts : ∀ w ∈ mj_tb, w.before args s = true) : (Cond.methodLink (mj_own k) idx (mj_tgm (mj_pool (mj_oc k) idx))) ∈ mj_tb ∧ (Cond.methodLink (mj_own k) idx (mj_tgm (mj_pool (mj_oc k) idx))).before args s = true ∧ (mj_pool (mj_oc k) idx).2 ≠ 3 := by
  have h1 := mj_ent_ok h (by decide)
  unfold mj_eck mj_ew at h1
  rw [if_neg (by decide), if_pos rfl] at h1
  simp only [Bool.and_eq_true, ho] at h1
  obtain ⟨⟨⟨⟨a1, -⟩, -⟩, -⟩, a5⟩ := h1
  exact ⟨mj_hit_ok a1, hts _ (mj_hit_ok a1), by simpa using a5⟩
theorem mj_ent3_q {idx : Nat} (h : (mj_pos (mj_oc k) idx).2 = 3) (ho : mj_owns.getD (mj_oc k) "" = mj_own k) (hts : ∀ w ∈ mj_tb, w.before args s = true) : (Cond.classLink (mj_own k) idx (if (mj_pool (mj_oc k) idx).1 = 100 then "[" ++ (FieldType.array .int).toString else mj_cn (mj_pool (mj_oc k) idx).1)).before args s = true := by
  have h1 := mj_ent_ok h (by decide)
  unfold mj_eck mj_ew at h1
  rw [if_neg (by decide), if_neg (by decide), if_pos rfl] at h1
  simp only [Bool.and_eq_true, ho] at h1
  exact hts _ (mj_hit_ok h1.1.1.1.1)
theorem mj_nar_q {x : Int} {ci j : Nat} (h : ((mj_ff ci j).1 = 0 ∧ mj_ft ci j = .int) ∨ ((mj_ff ci j).1 = 1 ∧ mj_ft ci j = .boolean) ∨ ((mj_ff ci j).1 = 2 ∧ (mj_ft ci j).isReference = true)) (hv : (mj_ff ci j).1 = 0 ∨ ((mj_ff ci j).1 = 1 ∧ 0 ≤ x ∧ x ≤ 1)) : narrow (mj_ft ci j) (mj_val X (.inl x)) = mj_val X (.inl x) ∧ fits (mj_ft ci j) (mj_val X (.inl x)) = true ∧ (mj_ff ci j).1 ≠ 2 := by
  rcases hv with h0 | ⟨h1, h2, h3⟩
  · rcases h with ⟨-, ht⟩ | ⟨q, -⟩ | ⟨q, -⟩
    · rw [ht]; exact ⟨rfl, rfl, by omega⟩
    · omega
    · omega
  · rcases h with ⟨q, -⟩ | ⟨-, ht⟩ | ⟨q, -⟩
    · omega
    · rw [ht]
      rcases (show x = 0 ∨ x = 1 by omega) with rfl | rfl
      · exact ⟨by show narrow .boolean (.int (Int32.ofInt 0)) = .int (Int32.ofInt 0); decide, by show fits .boolean (.int (Int32.ofInt 0)) = true; decide, by omega⟩
      · exact ⟨by show narrow .boolean (.int (Int32.ofInt 1)) = .int (Int32.ofInt 1); decide, by show fits .boolean (.int (Int32.ofInt 1)) = true; decide, by omega⟩
    · omega
theorem mj_narA_q {b : Nat} {ty : FieldType} (h : ty.isReference = true) : narrow ty (mj_val X (.inr (.inl b))) = mj_val X (.inr (.inl b)) ∧ fits ty (mj_val X (.inr (.inl b))) = true := by
  cases ty <;> first | exact ⟨rfl, rfl⟩ | cases h
theorem ss_getfield_q {idx : Nat} (F : mj_Fx_q p s m args meth c X k) (hn0 : s.heap.size = mj_N X + n0) (hL : L.length = mj_ml k) (hR : 8 ≤ R.frames ∧ 512 ≤ R.locals ∧ G'.1 - n0 ≤ R.cells ∧ G'.2.1 - s0 ≤ R.slots) (h9 : G'.1 ≤ 9000) (hs : mj_step k pc L st G M (.getfield idx) n = some (.inl (pc', L', st', G', M'))) (hd : decode (mj_by k) pc = .ok (.getfield idx, n)) (hm : mj_sem k pc (.getfield idx) n = true) (kk : (∀ (H : Heap) (locs : List Loc) (ls : Array Slot), mj_h X s n0 s0 (G') (M') (L') (st') H locs ls → W p l e R s m args below meth c H locs ((G').1 - n0) ((G').2.1 - s0) Q (F0 m (pc') ls ((st' : List mj_V).map (mj_val X))))) : (∀ (H : Heap) (locs : List Loc) (ls : Array Slot), mj_h X s n0 s0 (G) (M) (L) (st) H locs ls → W p l e R s m args below meth c H locs (G.1 - n0) (G.2.1 - s0) Q (F0 m (pc) ls ((st : List mj_V).map (mj_val X)))) := by
  obtain ⟨a, ci, j, s2, rfl, hq, ho, hz⟩ := inv_getfield hs
  have hm : n = 3 ∧ (mj_pos (mj_oc k) idx).2 = 1 := by simpa [mj_sem] using hm
  obtain ⟨rfl, ht⟩ := hm
  obtain ⟨e1, e2, e3⟩ := mj_ent1_q ht F.2.2.2.2.2.2.2 F.2.2.2.2.1 hq
  rcases hz with ⟨hf, hn, hz⟩ | ⟨hf, hz⟩
  · cases hz
    exact so_getA F.1 F.2.1 F.2.2.2.2.1 mj_U F.2.2.2.1 F.2.2.2.2.2.1.1 hd e1 e2 hf e3 ho hn kk
  · cases hz
    exact so_getI F.1 F.2.1 F.2.2.2.2.1 mj_U F.2.2.2.1 F.2.2.2.2.2.1.1 hd e1 e2 hf e3 ho kk
theorem ss_putfield_q {idx : Nat} (F : mj_Fx_q p s m args meth c X k) (hn0 : s.heap.size = mj_N X + n0) (hL : L.length = mj_ml k) (hR : 8 ≤ R.frames ∧ 512 ≤ R.locals ∧ G'.1 - n0 ≤ R.cells ∧ G'.2.1 - s0 ≤ R.slots) (h9 : G'.1 ≤ 9000) (hs : mj_step k pc L st G M (.putfield idx) n = some (.inl (pc', L', st', G', M'))) (hd : decode (mj_by k) pc = .ok (.putfield idx, n)) (hm : mj_sem k pc (.putfield idx) n = true) (hcn : mj_kd k = 2 → mj_cn (mj_oc k) = mj_own k) (kk : (∀ (H : Heap) (locs : List Loc) (ls : Array Slot), mj_h X s n0 s0 (G') (M') (L') (st') H locs ls → W p l e R s m args below meth c H locs ((G').1 - n0) ((G').2.1 - s0) Q (F0 m (pc') ls ((st' : List mj_V).map (mj_val X))))) : (∀ (H : Heap) (locs : List Loc) (ls : Array Slot), mj_h X s n0 s0 (G) (M) (L) (st) H locs ls → W p l e R s m args below meth c H locs (G.1 - n0) (G.2.1 - s0) Q (F0 m (pc) ls ((st : List mj_V).map (mj_val X)))) := by
  obtain ⟨v, a, ci, j, s2, rfl, hq, ho, hfn, hz⟩ := inv_putfield hs
  have hm : n = 3 ∧ (mj_pos (mj_oc k) idx).2 = 1 := by simpa [mj_sem] using hm
  obtain ⟨rfl, ht⟩ := hm
  obtain ⟨e1, e2, e3⟩ := mj_ent1_q ht F.2.2.2.2.2.2.2 F.2.2.2.2.1 hq
  obtain ⟨f1, f2, f3, f4, -⟩ := mj_f5 e1 e2
  have hfin : (mj_F ci j).2.2.2 = false ∨ ((mj_F ci j).2.2.2 = true ∧ meth.name = "<init>" ∧ mj_cn ci = mj_own k) := by
    rcases hfn with q | ⟨q1, q2, q3⟩
    · rcases f4 with ⟨-, w⟩ | ⟨w, -⟩
      · exact Or.inl w
      · omega
    · rcases f4 with ⟨w, -⟩ | ⟨-, w⟩
      · omega
      · exact Or.inr ⟨w, F.2.2.2.2.2.2.1 q2, by rw [← q3]; exact hcn q2⟩
  rcases hz with ⟨x, rfl, hv, hz⟩ | ⟨b, rfl, ⟨hv, hb9⟩, hz⟩
  · cases hz
    obtain ⟨g1, g2, g3⟩ := mj_nar_q (X := X) f3 hv
    exact so_putI F.1 F.2.1 F.2.2.2.2.1 mj_U F.2.2.2.1 F.2.2.2.2.2.1.1 hd e1 e2 g3 (fun k hk => (mj_f5 e1 hk).1) (mj_hnm e1) hfin g1 g2 e3 ho kk
  · cases hz
    have hr : (mj_ft ci j).isReference = true := by
      rcases f3 with ⟨q, -⟩ | ⟨q, -⟩ | ⟨-, q⟩
      · omega
      · omega
      · exact q
    obtain ⟨g1, g2⟩ := mj_narA_q (X := X) (b := b) hr
    exact so_putA F.1 F.2.1 F.2.2.2.2.1 mj_U F.2.2.2.1 F.2.2.2.2.2.1.1 hd e1 e2 hv (fun k hk => (mj_f5 e1 hk).1) (mj_hnm e1) hfin g1 g2 hb9 e3 ho kk
theorem ss_getstatic_q {idx : Nat} (F : mj_Fx_q p s m args meth c X k) (hn0 : s.heap.size = mj_N X + n0) (hL : L.length = mj_ml k) (hR : 8 ≤ R.frames ∧ 512 ≤ R.locals ∧ G'.1 - n0 ≤ R.cells ∧ G'.2.1 - s0 ≤ R.slots) (h9 : G'.1 ≤ 9000) (hs : mj_step k pc L st G M (.getstatic idx) n = some (.inl (pc', L', st', G', M'))) (hd : decode (mj_by k) pc = .ok (.getstatic idx, n)) (hm : mj_sem k pc (.getstatic idx) n = true) (kk : (∀ (H : Heap) (locs : List Loc) (ls : Array Slot), mj_h X s n0 s0 (G') (M') (L') (st') H locs ls → W p l e R s m args below meth c H locs ((G').1 - n0) ((G').2.1 - s0) Q (F0 m (pc') ls ((st' : List mj_V).map (mj_val X))))) : (∀ (H : Heap) (locs : List Loc) (ls : Array Slot), mj_h X s n0 s0 (G) (M) (L) (st) H locs ls → W p l e R s m args below meth c H locs (G.1 - n0) (G.2.1 - s0) Q (F0 m (pc) ls ((st : List mj_V).map (mj_val X)))) := by
  have hz := inv_getstatic hs
  cases hz
  have hm : n = 3 ∧ (mj_pos (mj_oc k) idx).2 = 6 := by simpa [mj_sem] using hm
  obtain ⟨rfl, ht⟩ := hm
  have h1 := mj_ent_ok ht (by decide)
  unfold mj_eck at h1
  simp only [Bool.and_eq_true] at h1
  have h2 : (mj_oc k = 7 ∧ idx = 132) ∨ (mj_oc k = 6 ∧ idx = 103) := by simpa using h1.1.2
  have ho := F.2.2.2.2.2.2.2
  obtain ⟨w1, w2⟩ := F.2.2.2.2.2.1.2.2.2.2.1
  rcases h2 with ⟨q1, rfl⟩ | ⟨q1, rfl⟩
  · rw [q1] at ho
    exact so_getS F.1 F.2.1 F.2.2.2.2.1 mj_U F.2.2.2.1 F.2.2.2.2.2.1.1 F.2.2.2.2.2.1.2.2.2.1 hd (by rw [← ho]; exact va_Nw.use rfl w1) kk
  · rw [q1] at ho
    exact so_getS F.1 F.2.1 F.2.2.2.2.1 mj_U F.2.2.2.1 F.2.2.2.2.2.1.1 F.2.2.2.2.2.1.2.2.2.1 hd (by rw [← ho]; exact va_Nw.use rfl w2) kk
theorem ss_ldc_q {idx : Nat} (F : mj_Fx_q p s m args meth c X k) (hn0 : s.heap.size = mj_N X + n0) (hL : L.length = mj_ml k) (hR : 8 ≤ R.frames ∧ 512 ≤ R.locals ∧ G'.1 - n0 ≤ R.cells ∧ G'.2.1 - s0 ≤ R.slots) (h9 : G'.1 ≤ 9000) (hs : mj_step k pc L st G M (.ldc idx) n = some (.inl (pc', L', st', G', M'))) (hd : decode (mj_by k) pc = .ok (.ldc idx, n)) (hm : mj_sem k pc (.ldc idx) n = true) (hidx : mj_own k = "TokenHeart$Script" ∧ (idx, (mj_pool (mj_oc k) idx).1) ∈ [(52, 0), (58, 1), (60, 2), (88, 3)]) (kk : (∀ (H : Heap) (locs : List Loc) (ls : Array Slot), mj_h X s n0 s0 (G') (M') (L') (st') H locs ls → W p l e R s m args below meth c H locs ((G').1 - n0) ((G').2.1 - s0) Q (F0 m (pc') ls ((st' : List mj_V).map (mj_val X))))) : (∀ (H : Heap) (locs : List Loc) (ls : Array Slot), mj_h X s n0 s0 (G) (M) (L) (st) H locs ls → W p l e R s m args below meth c H locs (G.1 - n0) (G.2.1 - s0) Q (F0 m (pc) ls ((st : List mj_V).map (mj_val X)))) := by
  obtain ⟨h4, hz⟩ := inv_ldc hs
  cases hz
  have hm : n = 2 ∧ (mj_pos (mj_oc k) idx).2 = 4 := by simpa [mj_sem] using hm
  obtain ⟨rfl, ht⟩ := hm
  intro H locs ls h
  obtain ⟨r1, r2, r3, r4⟩ := F.2.2.2.2.2.1.2.2.2.2.2.2.2.1
  have ho := F.2.2.2.1
  rw [hidx.1] at ho
  have k2 := kk H locs ls (mj_h_push h trivial)
  have hi := hidx.2
  simp only [List.mem_cons, Prod.mk.injEq, List.not_mem_nil, or_false] at hi
  rcases hi with ⟨rfl, q⟩ | ⟨rfl, q⟩ | ⟨rfl, q⟩ | ⟨rfl, q⟩
  · rw [q] at k2; exact va_ldcS F.1 F.2.1 ho r1 hd k2
  · rw [q] at k2; exact va_ldcS F.1 F.2.1 ho r2 hd k2
  · rw [q] at k2; exact va_ldcS F.1 F.2.1 ho r3 hd k2
  · rw [q] at k2; exact va_ldcS F.1 F.2.1 ho r4 hd k2
theorem ss_new_q {idx : Nat} (F : mj_Fx_q p s m args meth c X k) (hn0 : s.heap.size = mj_N X + n0) (hL : L.length = mj_ml k) (hR : 8 ≤ R.frames ∧ 512 ≤ R.locals ∧ G'.1 - n0 ≤ R.cells ∧ G'.2.1 - s0 ≤ R.slots) (h9 : G'.1 ≤ 9000) (hs : mj_step k pc L st G M (.new idx) n = some (.inl (pc', L', st', G', M'))) (hd : decode (mj_by k) pc = .ok (.new idx, n)) (hm : mj_sem k pc (.new idx) n = true) (kk : (∀ (H : Heap) (locs : List Loc) (ls : Array Slot), mj_h X s n0 s0 (G') (M') (L') (st') H locs ls → W p l e R s m args below meth c H locs ((G').1 - n0) ((G').2.1 - s0) Q (F0 m (pc') ls ((st' : List mj_V).map (mj_val X))))) : (∀ (H : Heap) (locs : List Loc) (ls : Array Slot), mj_h X s n0 s0 (G) (M) (L) (st) H locs ls → W p l e R s m args below meth c H locs (G.1 - n0) (G.2.1 - s0) Q (F0 m (pc) ls ((st : List mj_V).map (mj_val X)))) := by
  obtain ⟨h4, hz⟩ := inv_new hs
  cases hz
  have hm : n = 3 ∧ (mj_pos (mj_oc k) idx).2 = 3 := by simpa [mj_sem] using hm
  obtain ⟨rfl, ht⟩ := hm
  have h1 := mj_ent3_q ht F.2.2.2.2.2.2.2 F.2.2.2.2.1
  rw [if_neg (by omega)] at h1
  exact so_new F.1 F.2.1 F.2.2.2.2.1 mj_U F.2.2.2.1 F.2.2.2.2.2.1.1 hd h4 (fun k hk => (mj_f5 h4 hk).1) (fun k hk => (mj_f5 h4 hk).2.1) h1 (F.2.2.2.2.1 _ (mj_ins h4)) (F.2.2.2.2.1 _ (mj_ini h4)) hn0 h9 ⟨hR.2.2.1, hR.2.2.2⟩ kk
theorem ss_newarray_q {t : ArrayType} (F : mj_Fx_q p s m args meth c X k) (hn0 : s.heap.size = mj_N X + n0) (hL : L.length = mj_ml k) (hR : 8 ≤ R.frames ∧ 512 ≤ R.locals ∧ G'.1 - n0 ≤ R.cells ∧ G'.2.1 - s0 ≤ R.slots) (h9 : G'.1 ≤ 9000) (hs : mj_step k pc L st G M (.newarray t) n = some (.inl (pc', L', st', G', M'))) (hd : decode (mj_by k) pc = .ok (.newarray t, n)) (hm : mj_sem k pc (.newarray t) n = true) (kk : (∀ (H : Heap) (locs : List Loc) (ls : Array Slot), mj_h X s n0 s0 (G') (M') (L') (st') H locs ls → W p l e R s m args below meth c H locs ((G').1 - n0) ((G').2.1 - s0) Q (F0 m (pc') ls ((st' : List mj_V).map (mj_val X))))) : (∀ (H : Heap) (locs : List Loc) (ls : Array Slot), mj_h X s n0 s0 (G) (M) (L) (st) H locs ls → W p l e R s m args below meth c H locs (G.1 - n0) (G.2.1 - s0) Q (F0 m (pc) ls ((st : List mj_V).map (mj_val X)))) := by
  obtain ⟨x, s2, ty, rfl, hx, hty, hz⟩ := inv_newarray hs
  cases hz
  have hn : n = 2 := by simpa [mj_sem] using hm
  subst hn
  rcases hty with ⟨rfl, rfl⟩ | ⟨rfl, rfl⟩ | ⟨rfl, rfl⟩
  · exact so_newA F.1 F.2.1 F.2.2.2.2.1 mj_U F.2.2.2.1 F.2.2.2.2.2.1.1 hd rfl (Or.inl rfl) hx (fun _ _ => rfl) (by decide) rfl (fun q => q) (F.2.2.2.2.1 _ mj_w5) hn0 h9 ⟨hR.2.2.1, hR.2.2.2⟩ kk
  · exact so_newA F.1 F.2.1 F.2.2.2.2.1 mj_U F.2.2.2.1 F.2.2.2.2.2.1.1 hd rfl (Or.inr (Or.inl rfl)) hx (fun _ _ => rfl) (by decide) rfl (fun q => q) (F.2.2.2.2.1 _ mj_w6) hn0 h9 ⟨hR.2.2.1, hR.2.2.2⟩ kk
  · exact so_newA F.1 F.2.1 F.2.2.2.2.1 mj_U F.2.2.2.1 F.2.2.2.2.2.1.1 hd rfl (Or.inr (Or.inr (Or.inl rfl))) hx (fun _ _ => rfl) (by decide) rfl (fun q => q) (F.2.2.2.2.1 _ mj_w7) hn0 h9 ⟨hR.2.2.1, hR.2.2.2⟩ kk
theorem ss_multianewarray_q {idx d : Nat} (F : mj_Fx_q p s m args meth c X k) (hn0 : s.heap.size = mj_N X + n0) (hL : L.length = mj_ml k) (hR : 8 ≤ R.frames ∧ 512 ≤ R.locals ∧ G'.1 - n0 ≤ R.cells ∧ G'.2.1 - s0 ≤ R.slots) (h9 : G'.1 ≤ 9000) (hs : mj_step k pc L st G M (.multianewarray idx d) n = some (.inl (pc', L', st', G', M'))) (hd : decode (mj_by k) pc = .ok (.multianewarray idx d, n)) (hm : mj_sem k pc (.multianewarray idx d) n = true) (kk : (∀ (H : Heap) (locs : List Loc) (ls : Array Slot), mj_h X s n0 s0 (G') (M') (L') (st') H locs ls → W p l e R s m args below meth c H locs ((G').1 - n0) ((G').2.1 - s0) Q (F0 m (pc') ls ((st' : List mj_V).map (mj_val X))))) : (∀ (H : Heap) (locs : List Loc) (ls : Array Slot), mj_h X s n0 s0 (G) (M) (L) (st) H locs ls → W p l e R s m args below meth c H locs (G.1 - n0) (G.2.1 - s0) Q (F0 m (pc) ls ((st : List mj_V).map (mj_val X)))) := by
  obtain ⟨x, y, s2, rfl, ⟨rfl, hp, hx⟩, hz⟩ := inv_multianewarray hs
  cases hz
  have hm : n = 4 ∧ (mj_pos (mj_oc k) idx).2 = 3 := by simpa [mj_sem] using hm
  obtain ⟨rfl, ht⟩ := hm
  have h1 := mj_ent3_q ht F.2.2.2.2.2.2.2 F.2.2.2.2.1
  rw [if_pos hp] at h1
  exact so_newM F.1 F.2.1 F.2.2.2.2.1 mj_U F.2.2.2.1 F.2.2.2.2.2.1.1 hd ⟨hx.1, hx.2.1⟩ ⟨hx.2.2.1, hx.2.2.2⟩ h1 (by have := F.2.2.2.2.2.1.2.2.2.2.2.2.1; exact this) (F.2.2.2.2.1 _ mj_w5) hn0 h9 ⟨hR.2.2.1, hR.2.2.2⟩ kk
theorem ss_inv_q (hSL : so_slenP_q) (hSC : so_schrP_q) {i : Instr} {idx : Nat} (hi : mj_isInv i idx) (F : mj_Fx_q p s m args meth c X k) (hn0 : s.heap.size = mj_N X + n0) (hL : L.length = mj_ml k) (hR : 8 ≤ R.frames ∧ 512 ≤ R.locals ∧ G'.1 - n0 ≤ R.cells ∧ G'.2.1 - s0 ≤ R.slots) (h9 : G'.1 ≤ 9000) (hs : mj_step k pc L st G M i n = some (.inl (pc', L', st', G', M'))) (hd : decode (mj_by k) pc = .ok (i, n)) (hm : mj_sem k pc i n = true) (hk4 : (mj_pool (mj_oc k) idx).2 = 9 → i = .invokespecial idx) (hk5 : (mj_pool (mj_oc k) idx).2 = 4 → i = .invokestatic idx) (hk6 : ((mj_pool (mj_oc k) idx).2 = 5 ∨ (mj_pool (mj_oc k) idx).2 = 6) → i = .invokevirtual idx) (kk : (∀ (H : Heap) (locs : List Loc) (ls : Array Slot), mj_h X s n0 s0 (G') (M') (L') (st') H locs ls → W p l e R s m args below meth c H locs ((G').1 - n0) ((G').2.1 - s0) Q (F0 m (pc') ls ((st' : List mj_V).map (mj_val X))))) : (∀ (H : Heap) (locs : List Loc) (ls : Array Slot), mj_h X s n0 s0 (G) (M) (L) (st) H locs ls → W p l e R s m args below meth c H locs (G.1 - n0) (G.2.1 - s0) Q (F0 m (pc) ls ((st : List mj_V).map (mj_val X)))) := by
  have hm : n = 3 ∧ ((mj_pos (mj_oc k) idx).2 = 2 ∨ (mj_pos (mj_oc k) idx).2 = 5) := by
    rcases hi with rfl | rfl | rfl
    · have : n = 3 ∧ (mj_pos (mj_oc k) idx).2 = 2 := by simpa [mj_sem] using hm
      exact ⟨this.1, Or.inl this.2⟩
    · have : n = 3 ∧ (mj_pos (mj_oc k) idx).2 = 2 := by simpa [mj_sem] using hm
      exact ⟨this.1, Or.inl this.2⟩
    · simpa [mj_sem] using hm
  obtain ⟨rfl, ht⟩ := hm
  rw [mj_inv_st hi] at hs
  have hlen : L.length = c.maxLocals := by rw [hL, F.2.2.1]
  have lk : (mj_pool (mj_oc k) idx).2 ≠ 3 → (Cond.methodLink (mj_own k) idx (mj_tgm (mj_pool (mj_oc k) idx))).before args s = true := by
    intro h3
    rcases ht with ht | ht
    · exact (mj_ent2_q ht F.2.2.2.2.2.2.2 F.2.2.2.2.1).2.1
    · exfalso
      have h1 := mj_ent_ok ht (by decide)
      unfold mj_eck at h1
      simp only [Bool.and_eq_true] at h1
      have h2 := h1.1.1.2
      simp only [bne_self_eq_false, Bool.false_or, Bool.and_eq_true, decide_eq_true_eq] at h2
      exact h3 h2.1
  rcases inv_call hs with ⟨a, s2, q, rfl, hl4, hz⟩ | ⟨x, y, w, a, b, la, lb, s2, q, rfl, ha, hb', hc, hz⟩ | ⟨a, s2, q, rfl, hc, hz⟩ | ⟨x, a, s2, q, rfl, hc, hz⟩ | ⟨as, s2, -, -, -, -, -, -, hz⟩
  · cases hz
    have e := lk (by omega)
    have hi := hk4 q
    subst hi
    unfold mj_tgm at e
    rw [if_pos q] at e
    exact so_objI F.1 F.2.1 F.2.2.2.2.1 mj_U F.2.2.2.1 F.2.2.2.2.2.1.1 hd e (F.2.2.2.2.1 _ mj_w0) (F.2.2.2.2.1 _ mj_w1) hlen ⟨by omega, by omega⟩ hl4 kk
  · cases hz
    have e := lk (by omega)
    have hi := hk5 q
    subst hi
    unfold mj_tgm at e
    rw [if_neg (by omega), if_pos q] at e
    exact so_copy F.1 F.2.1 F.2.2.2.2.1 mj_U F.2.2.2.1 F.2.2.2.2.2.1.1 hd e (F.2.2.2.2.1 _ mj_w2) (F.2.2.2.2.1 _ mj_w3) (F.2.2.2.2.1 _ mj_w4) hlen ⟨by omega, by omega⟩ hc.2.2.2.2.2 ha hb' ⟨hc.1, hc.2.1, hc.2.2.1, hc.2.2.2.1, hc.2.2.2.2.1⟩ kk
  · cases hz
    have e := lk (by omega)
    have hi := hk6 (Or.inl q)
    subst hi
    unfold mj_tgm at e
    rw [if_neg (by omega), if_neg (by omega), if_pos q] at e
    exact hSL F.1 F.2.1 F.2.2.2.2.1 F.2.2.2.1 F.2.2.2.2.2.1 hd e hlen ⟨by omega, by omega, by omega, by omega⟩ ⟨hc.1, hc.2.1⟩ hc.2.2 kk
  · cases hz
    have e := lk (by omega)
    have hi := hk6 (Or.inr q)
    subst hi
    unfold mj_tgm at e
    rw [if_neg (by omega), if_neg (by omega), if_neg (by omega), if_pos q] at e
    exact hSC F.1 F.2.1 F.2.2.2.2.1 F.2.2.2.1 F.2.2.2.2.2.1 hd e hlen ⟨by omega, by omega, by omega, by omega⟩ ⟨hc.1, hc.2.1⟩ ⟨hc.2.2.1, hc.2.2.2.1⟩ hc.2.2.2.2 kk
  · cases hz
end ss
