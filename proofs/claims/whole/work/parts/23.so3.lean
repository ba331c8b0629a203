theorem mj_catw {X : mj_Cx} : ∀ (l : List mj_V), ((l.map (mj_val X)).map fun v => v.category).sum ≤ mj_wt l := by
  intro l
  induction l with
  | nil => simp [mj_wt]
  | cons v t ih =>
    simp only [List.map_cons, List.sum_cons]
    have h : (mj_val X v).category ≤ (if mj_lng v = true then 2 else 1) := by
      rcases v with y | a | y
      · exact Nat.le_refl 1
      · exact Nat.le_refl 1
      · exact Nat.le_refl 2
    show _ ≤ mj_wt t + (if mj_lng v = true then 2 else 1)
    omega
section so3
variable {p : Program} {l : Launch} {e : Env} {R : Room} {s : State} {m : MethodId} {args : Array Value} {below : List Frame} {meth : Method} {c : Code} {Q : State → Prop} {X : mj_Cx} {n0 s0 : Nat} {cc : ByteArray} {pc tgt : Nat} {L st : List mj_V} {G : mj_G} {M : mj_M} {x y z : Int} {a b j : Nat} {Ts : List Cond} {own : String}
theorem mj_size {H : Heap} {locs : List Loc} {slots : Nat} {g : JFrame} (hn0 : s.heap.size = mj_N X + n0) (hP : va_P (mj_dd X) mj_cl (mj_ws X G M) H) (hS : va_S (mj_A X) s.heap H locs) (hn : n0 ≤ G.1) (h9 : G.1 ≤ 9000) (kk : H.size = mj_N X + G.1 → W p l e R s m args below meth c H locs (G.1 - n0) slots Q g) : W p l e R s m args below meth c H locs (G.1 - n0) slots Q g := by
  intro T hT X'
  have h1 : T.heap.size ≤ s.heap.size + (G.1 - n0) := X'.heapSize
  rw [hT] at h1
  have h2 : mj_N X + G.1 ≤ H.size := by
    by_cases h0 : G.1 = 0
    · have := hS.1
      omega
    · have h3 := (hP (G.1 - 1) _ (mj_ws_get (by omega))).lt
      have h4 : mj_ad X (G.1 - 1) = mj_N X + (G.1 - 1) := if_pos (by omega)
      rw [h4] at h3
      omega
  exact kk (by omega) T hT X'
theorem so_getS (hx : p.tables.exec = Jvm.exec) (hb : c.code = cc) (hts : ∀ w ∈ Ts, w.before args s = true) (hU : ∀ ci, ci < 13 → ∀ w ∈ u_ws (mj_cn ci) (mj_F ci) (mj_nf ci), w ∈ Ts) (hown : s.vm.findClass own = some m.cls) (hK : va_K (mj_dd X) mj_cl (mj_tyl X) s) {idx : Nat} (hZ : va_Z "TokenHeart" "PRICE" "[I" (.ref (mj_ax X 9001)) (mj_A X) s s.heap) (hd : decode cc pc = .ok (.getstatic idx, 3)) (hlink : (Cond.fieldLinkNest own idx "TokenHeart" "PRICE" "[I" "TokenHeart").before args s = true) (kk : (∀ (H : Heap) (locs : List Loc) (ls : Array Slot), mj_h X s n0 s0 (G) (M) (L) (.inr (.inl 9001) :: st) H locs ls → W p l e R s m args below meth c H locs (G.1 - n0) (G.2.1 - s0) Q (F0 m (pc + 3) ls ((.inr (.inl 9001) :: st : List mj_V).map (mj_val X))))) : (∀ (H : Heap) (locs : List Loc) (ls : Array Slot), mj_h X s n0 s0 (G) (M) (L) (st) H locs ls → W p l e R s m args below meth c H locs (G.1 - n0) (G.2.1 - s0) Q (F0 m (pc) ls ((st : List mj_V).map (mj_val X)))) := fun H locs ls h => va_getsN hx hb hZ h.2.1 hown hlink (fun _ q => q) hd (kk H locs ls (mj_h_push h trivial))
theorem mj_rng_0 {n : Nat} {G' : mj_G} (hr : mj_rng G M) (hL : ∀ q, q ≠ n → mj_isL G q → mj_isL G' q) : mj_rng G' (mj_upr M n fun _ => 0) := by
  intro q i
  unfold mj_upr
  by_cases h : q = n
  · rw [if_pos h]
    exact ⟨by unfold mj_i64; omega, fun _ => by unfold mj_i32; omega⟩
  · rw [if_neg h]
    exact ⟨(hr q i).1, fun h2 => (hr q i).2 (fun h3 => h2 (hL q h h3))⟩
theorem mj_upr_ne {f : Nat → Int} (h : b ≠ a) : mj_upr M a f b = M b := by unfold mj_upr; rw [if_neg h]
theorem mj_upr_eq {f : Nat → Int} : mj_upr M a f a = f := by unfold mj_upr; rw [if_pos rfl]
theorem so_new (hx : p.tables.exec = Jvm.exec) (hb : c.code = cc) (hts : ∀ w ∈ Ts, w.before args s = true) (hU : ∀ ci, ci < 13 → ∀ w ∈ u_ws (mj_cn ci) (mj_F ci) (mj_nf ci), w ∈ Ts) (hown : s.vm.findClass own = some m.cls) (hK : va_K (mj_dd X) mj_cl (mj_tyl X) s) {idx ci : Nat} (hd : decode cc pc = .ok (.new idx, 3)) (hci : ci < 13) (hty : ∀ k, k < mj_nf ci → parseFieldDescriptor (mj_F ci k).2.2.1 = some (mj_ft ci k)) (hdv : ∀ k, k < mj_nf ci → defaultValue (mj_ft ci k) = if (mj_ff ci k).1 = 2 then Value.null else .int 0)
    (hcl : (Cond.classLink own idx (mj_cn ci)).before args s = true) (hins : (Cond.instantiable (mj_cn ci) (mj_nf ci)).before args s = true) (hini : (Cond.initialized (mj_cn ci)).before args s = true) (hn0 : s.heap.size = mj_N X + n0) (h9 : G.1 + 1 ≤ 9000) (hR : G.1 + 1 - n0 ≤ R.cells ∧ G.2.1 + mj_nf ci - s0 ≤ R.slots) (kk : (∀ (H : Heap) (locs : List Loc) (ls : Array Slot), mj_h X s n0 s0 ((mj_new G ci)) ((mj_upr M G.1 fun _ => 0)) (L) (.inr (.inl G.1) :: st) H locs ls → W p l e R s m args below meth c H locs (((mj_new G ci)).1 - n0) (((mj_new G ci)).2.1 - s0) Q (F0 m (pc + 3) ls ((.inr (.inl G.1) :: st : List mj_V).map (mj_val X))))) : (∀ (H : Heap) (locs : List Loc) (ls : Array Slot), mj_h X s n0 s0 (G) (M) (L) (st) H locs ls → W p l e R s m args below meth c H locs (G.1 - n0) (G.2.1 - s0) Q (F0 m (pc) ls ((st : List mj_V).map (mj_val X)))) := by
  intro H locs ls h
  obtain ⟨hb1, hb2, hb3⟩ := h.2.2.2.2.2.2.2.1
  refine mj_size hn0 h.1 h.2.1 hb1 (by omega) (fun hsz => ?_)
  have hKn := hK.1 ci _ (mj_cl_get hci)
  have ead : mj_ad X G.1 = mj_N X + G.1 := if_pos (by omega)
  refine W.newcK hx hb hown hcl hins hini rfl hd (by omega) (by omega) hKn.2.1 hsz (fun H1 kC hkC e1 z1 o1 => ?_)
  have hk : ∀ (k : Nat) (q : Nat × va_E), (mj_ws X G M)[k]? = some q → H1[q.1]? = H[q.1]? := fun k q hq => o1 q.1 (by have := (h.1 k q hq).lt; omega)
  have epush : mj_ws X G M ++ [(mj_ad X G.1, .inr (ci, (List.range (mj_nf ci)).map (mj_fv X (mj_new G ci) (mj_upr M G.1 fun _ => 0) G.1 ci)))] = mj_ws X (mj_new G ci) (mj_upr M G.1 fun _ => 0) :=
    mj_ws_push rfl (mj_en_o (by simp [mj_new])) (fun q hq => mj_en_ext (by simp [mj_new]; omega) (by simp [mj_new]; omega) (mj_upr_ne (by omega)))
  have hP1 : va_P (mj_dd X) mj_cl (mj_ws X (mj_new G ci) (mj_upr M G.1 fun _ => 0)) H1 := by
    rw [← epush]
    refine (h.1.kept hk).app (fun k q hq => ?_)
    have hz : k < 1 := (List.getElem?_eq_some_iff.mp hq).1
    rw [show k = 0 by omega] at hq
    cases hq
    refine ⟨_, mj_cl_get hci, ?_⟩
    rw [ead]
    refine (u_born (mj_ft ci) hts (hU ci hci) hKn hkC e1 hty).to (fun k hk => ?_)
    show _ = ((List.range (mj_nf ci)).map (mj_fv X (mj_new G ci) (mj_upr M G.1 fun _ => 0) G.1 ci)).getD k .null
    rw [List.getD_eq_getElem?_getD, mj_fs_get hk, Option.getD_some, hdv k hk]
    unfold mj_fv
    by_cases hf : (mj_ff ci k).1 = 2
    · simp [hf, mj_new]
    · simp [hf, mj_upr]
  have k2 := kk H1 locs ls (mj_h_new h hP1 ⟨Nat.le_trans h.2.1.1 (by omega), fun q h1 h2 => (o1 q (by have := h.2.1.1; omega)).trans (h.2.1.2.1 q h1 h2), h.2.1.2.2⟩ (List.forall_mem_cons.mpr ⟨trivial, h.2.2.2.1⟩) (mj_rng_0 h.2.2.2.2.2.1 (fun q hq hl => ⟨by have := hl.1; simp [mj_new]; omega, by obtain ⟨n, hn⟩ := hl.2; exact ⟨n, by simp [mj_new, hq]; exact hn⟩⟩)) (by
    intro q hq
    by_cases hqe : q = G.1
    · simp [mj_new, hqe, mj_dok]; exact hci
    · have hq' : q < G.1 + 1 := hq
      have := h.2.2.2.2.2.2.1 q (by omega)
      simpa [mj_new, hqe] using this) ⟨by simp [mj_new], by simp [mj_new], h9⟩ (fun q hq => mj_upr_ne (by omega)))
  rw [show (mj_new G ci).1 - n0 = G.1 - n0 + 1 by show G.1 + 1 - n0 = _; omega, show (mj_new G ci).2.1 - s0 = G.2.1 - s0 + mj_nf ci by show G.2.1 + mj_nf ci - s0 = _; omega] at k2
  rw [← ead]
  exact k2
theorem so_newA (hx : p.tables.exec = Jvm.exec) (hb : c.code = cc) (hts : ∀ w ∈ Ts, w.before args s = true) (hU : ∀ ci, ci < 13 → ∀ w ∈ u_ws (mj_cn ci) (mj_F ci) (mj_nf ci), w ∈ Ts) (hown : s.vm.findClass own = some m.cls) (hK : va_K (mj_dd X) mj_cl (mj_tyl X) s) {at' : ArrayType} {ty : FieldType} (hd : decode cc pc = .ok (.newarray at', 2)) (hty : newarray.typeOf at' = ty) (hty4 : ty = .int ∨ ty = .boolean ∨ ty = .long ∨ ty = .array .int) (hx0 : 0 ≤ x ∧ x ≤ 10000) (hdef : ∀ (n : Nat) (r : Nat → Nat), vp_cell (mj_ca X (mj_tn ty)) (mj_arr X ty n (fun _ => 0) r) = arrV (mj_ca X (mj_tn ty)) n (fun _ => defaultValue ty)) (hb8 : componentBytes ty ≤ 8)
    (htl : (mj_tyl X)[mj_tn ty]? = some (mj_ca X (mj_tn ty), ty)) (hRA : va_RA s (mj_ca X (mj_tn ty)) ty → s.vm.findClass ("[" ++ ty.toString) = some (mj_ca X (mj_tn ty))) (harr : (Cond.arrayClass ty).before args s = true) (hn0 : s.heap.size = mj_N X + n0) (h9 : G.1 + 1 ≤ 9000) (hR : G.1 + 1 - n0 ≤ R.cells ∧ G.2.1 + x.toNat - s0 ≤ R.slots) (kk : (∀ (H : Heap) (locs : List Loc) (ls : Array Slot), mj_h X s n0 s0 ((mj_newA G ty x.toNat)) ((mj_upr M G.1 fun _ => 0)) (L) (.inr (.inl G.1) :: st) H locs ls → W p l e R s m args below meth c H locs (((mj_newA G ty x.toNat)).1 - n0) (((mj_newA G ty x.toNat)).2.1 - s0) Q (F0 m (pc + 2) ls ((.inr (.inl G.1) :: st : List mj_V).map (mj_val X))))) : (∀ (H : Heap) (locs : List Loc) (ls : Array Slot), mj_h X s n0 s0 (G) (M) (L) (.inl x :: st) H locs ls → W p l e R s m args below meth c H locs (G.1 - n0) (G.2.1 - s0) Q (F0 m (pc) ls ((.inl x :: st : List mj_V).map (mj_val X)))) := by
  intro H locs ls h
  obtain ⟨hb1, hb2, hb3⟩ := h.2.2.2.2.2.2.2.1
  refine mj_size hn0 h.1 h.2.1 hb1 (by omega) (fun hsz => ?_)
  have hX : mj_i32 x := (mj_h_1 h).1
  have ead : mj_ad X G.1 = mj_N X + G.1 := if_pos (by omega)
  have ecl : (Int32.ofInt x).toNatClampNeg = x.toNat := mj_cl_ hX hx0.1
  refine va_newaK (N := x.toNat) hx hb (by rw [hty]; exact harr) rfl hd rfl (fun q => by have := (mj_ltI hX mj_z32).mp (by rw [← mj_zero]; exact q); omega) ecl (by rw [hty]; exact Nat.le_trans (Nat.mul_le_mul (show x.toNat ≤ 10000 by omega) hb8) (by omega)) (by omega) (by omega) hsz (fun H1 cA e1 z1 o1 hAr hNm => ?_)
  rw [hty] at e1 hAr hNm
  have hca : cA = mj_ca X (mj_tn ty) := by
    have h7 := hRA (hK.2 _ _ htl).2
    rw [hNm] at h7
    exact Option.some.inj h7
  subst hca
  have hk : ∀ (k : Nat) (q : Nat × va_E), (mj_ws X G M)[k]? = some q → H1[q.1]? = H[q.1]? := fun k q hq => o1 q.1 (by have := (h.1 k q hq).lt; omega)
  have epush : mj_ws X G M ++ [(mj_ad X G.1, .inl (mj_ca X (mj_tn ty), mj_arr X ty x.toNat (fun _ => 0) (G.2.2.2 G.1)))] = mj_ws X (mj_newA G ty x.toNat) (mj_upr M G.1 fun _ => 0) :=
    mj_ws_push rfl (by rw [mj_en_a (ty := ty) (n := x.toNat) (by simp [mj_newA]), mj_upr_eq]; rfl) (fun q hq => mj_en_ext (by simp [mj_newA]; omega) rfl (mj_upr_ne (by omega)))
  have hP1 : va_P (mj_dd X) mj_cl (mj_ws X (mj_newA G ty x.toNat) (mj_upr M G.1 fun _ => 0)) H1 := by
    rw [← epush]
    refine (h.1.kept hk).app (fun k q hq => ?_)
    have hz : k < 1 := (List.getElem?_eq_some_iff.mp hq).1
    rw [show k = 0 by omega] at hq
    cases hq
    show H1[mj_ad X G.1]? = some (vp_cell _ _)
    rw [ead, hdef]
    exact e1
  have k2 := kk H1 locs ls (mj_h_new h hP1 ⟨Nat.le_trans h.2.1.1 (by omega), fun q h1 h2 => (o1 q (by have := h.2.1.1; omega)).trans (h.2.1.2.1 q h1 h2), h.2.1.2.2⟩ (List.forall_mem_cons.mpr ⟨trivial, (mj_h_1 h).2⟩) (mj_rng_0 h.2.2.2.2.2.1 (fun q hq hl => ⟨by have := hl.1; simp [mj_newA]; omega, by obtain ⟨n, hn⟩ := hl.2; exact ⟨n, by simp [mj_newA, hq]; exact hn⟩⟩)) (by
    intro q hq
    by_cases hqe : q = G.1
    · simp only [mj_newA, hqe, if_true, mj_dok]; exact ⟨hty4, by omega⟩
    · have hq' : q < G.1 + 1 := hq
      have := h.2.2.2.2.2.2.1 q (by omega)
      simpa [mj_newA, hqe] using this) ⟨by simp [mj_newA], by simp [mj_newA], h9⟩ (fun q hq => mj_upr_ne (by omega)))
  rw [show (mj_newA G ty x.toNat).1 - n0 = G.1 - n0 + 1 by show G.1 + 1 - n0 = _; omega, show (mj_newA G ty x.toNat).2.1 - s0 = G.2.1 - s0 + x.toNat by show G.2.1 + x.toNat - s0 = _; omega] at k2
  rw [← ead]
  exact k2
theorem so_objI (hx : p.tables.exec = Jvm.exec) (hb : c.code = cc) (hts : ∀ w ∈ Ts, w.before args s = true) (hU : ∀ ci, ci < 13 → ∀ w ∈ u_ws (mj_cn ci) (mj_F ci) (mj_nf ci), w ∈ Ts) (hown : s.vm.findClass own = some m.cls) (hK : va_K (mj_dd X) mj_cl (mj_tyl X) s) {idx : Nat} (hd : decode cc pc = .ok (.invokespecial idx, 3)) (hlink : (Cond.methodLink own idx Lib.objectInit).before args s = true) (hinst : (Cond.instanceMethod Lib.objectInit).before args s = true) (hcode : (Cond.code Lib.objectInit ⟨#[0xb1]⟩ 1 none).before args s = true) (hL : L.length = c.maxLocals) (hR : 1 ≤ R.frames ∧ 60 ≤ R.locals) (hst : mj_wt st ≤ 8) (kk : (∀ (H : Heap) (locs : List Loc) (ls : Array Slot), mj_h X s n0 s0 (G) (M) (L) (st) H locs ls → W p l e R s m args below meth c H locs (G.1 - n0) (G.2.1 - s0) Q (F0 m (pc + 3) ls ((st : List mj_V).map (mj_val X))))) : (∀ (H : Heap) (locs : List Loc) (ls : Array Slot), mj_h X s n0 s0 (G) (M) (L) (.inr (.inl a) :: st) H locs ls → W p l e R s m args below meth c H locs (G.1 - n0) (G.2.1 - s0) Q (F0 m (pc) ls ((.inr (.inl a) :: st : List mj_V).map (mj_val X)))) := by
  intro H locs ls h
  have hcat := mj_catw (X := X) st
  exact W.objInit hx hb hown hlink hinst hcode rfl (by show ls.size = _; rw [h.2.2.1.1, hL]) rfl hd hR.1 (by show 2 * 0 + _ + 12 ≤ _; omega) (kk H locs ls (mj_h_pop h))
theorem so_copy (hx : p.tables.exec = Jvm.exec) (hb : c.code = cc) (hts : ∀ w ∈ Ts, w.before args s = true) (hU : ∀ ci, ci < 13 → ∀ w ∈ u_ws (mj_cn ci) (mj_F ci) (mj_nf ci), w ∈ Ts) (hown : s.vm.findClass own = some m.cls) (hK : va_K (mj_dd X) mj_cl (mj_tyl X) s) {idx la lb : Nat} (hd : decode cc pc = .ok (.invokestatic idx, 3)) (hlink : (Cond.methodLink own idx arraycopyName).before args s = true) (hnat : (Cond.native arraycopyName).before args s = true) (hstat : (Cond.static arraycopyName).before args s = true) (hini : (Cond.initialized "java/lang/System").before args s = true) (hL : L.length = c.maxLocals) (hR : 1 ≤ R.frames ∧ 60 ≤ R.locals) (hst : mj_wt st ≤ 8) (ha : mj_ty G .int a = some la) (hb' : mj_ty G .int b = some lb) (hi : 0 ≤ x ∧ 0 ≤ y ∧ 0 ≤ z ∧ x + z ≤ la ∧ y + z ≤ lb)
    (kk : (∀ (H : Heap) (locs : List Loc) (ls : Array Slot), mj_h X s n0 s0 (G) ((mj_cpy M a b x.toNat y.toNat z.toNat)) (L) (st) H locs ls → W p l e R s m args below meth c H locs (G.1 - n0) (G.2.1 - s0) Q (F0 m (pc + 3) ls ((st : List mj_V).map (mj_val X))))) : (∀ (H : Heap) (locs : List Loc) (ls : Array Slot), mj_h X s n0 s0 (G) (M) (L) (.inl z :: .inl y :: .inr (.inl b) :: .inl x :: .inr (.inl a) :: st) H locs ls → W p l e R s m args below meth c H locs (G.1 - n0) (G.2.1 - s0) Q (F0 m (pc) ls ((.inl z :: .inl y :: .inr (.inl b) :: .inl x :: .inr (.inl a) :: st : List mj_V).map (mj_val X)))) := by
  intro H locs ls h
  have hh := mj_h_3 h
  have hh2 := List.forall_mem_cons.mp hh.2.2.2
  have hh3 := List.forall_mem_cons.mp hh2.2
  have hX : mj_i32 x := hh2.1
  have hY : mj_i32 y := hh.2.1
  have hZ : mj_i32 z := hh.1
  obtain ⟨h1, h2⟩ := mj_ty_ok ha
  obtain ⟨g1, g2⟩ := mj_ty_ok hb'
  have h9 : G.1 ≤ 9000 := h.2.2.2.2.2.2.2.1.2.2
  have hcat := mj_catw (X := X) st
  have ex : (Int32.ofInt x).toNatClampNeg = x.toNat := mj_cl_ hX hi.1
  have ey : (Int32.ofInt y).toNatClampNeg = y.toNat := mj_cl_ hY hi.2.1
  have ez : (Int32.ofInt z).toNatClampNeg = z.toNat := mj_cl_ hZ hi.2.2.1
  have hnf : nativeFrameWords "java/lang/System" "arraycopy" 5 ≤ 30 := by decide +kernel
  have neg : ∀ {v : Int}, mj_i32 v → 0 ≤ v → ¬ Int32.ofInt v < 0 := fun hv h0 q => by have := (mj_ltI hv mj_z32).mp (by rw [← mj_zero]; exact q); omega
  refine va_copyi (D := mj_dd X) (cl := mj_cl) (ws := mj_ws X G M) (f := fun i => Int32.ofInt (M a i)) (g := fun i => Int32.ofInt (M b i)) hx hb (by rw [h.2.2.1.1, hL]) hown hlink hnat hstat hini hK h.1 (mj_ws_D h9) h.2.1 a b 0 0 (by rw [mj_ws_get h1, mj_en_a h2]; rfl) (by rw [mj_ws_get g1, mj_en_a g2]; rfl) rfl rfl rfl (neg hX hi.1) (neg hY hi.2.1) (neg hZ hi.2.2.1) (by rw [ex, ez]; omega) (by rw [ey, ez]; omega) (fun _ _ => rfl) hR.1 (by omega) hd (fun H1 locs1 q1 q2 q3 => ?_)
  have e9 : (mj_ws X G M).set b (mj_ad X b, .inl (mj_ca X 0, lb, .inl (va_cpy (fun i => Int32.ofInt (M a i)) (fun i => Int32.ofInt (M b i)) x.toNat y.toNat z.toNat))) = mj_ws X G (mj_cpy M a b x.toNat y.toNat z.toNat) := by
    refine mj_ws_set rfl ?_ (fun q _ hq => mj_en_ext rfl rfl (mj_upr_ne hq))
    rw [mj_en_a g2]
    unfold mj_cpy
    rw [mj_upr_eq]
    have e0 : va_cpy (fun i => Int32.ofInt (M a i)) (fun i => Int32.ofInt (M b i)) x.toNat y.toNat z.toNat = fun k => Int32.ofInt (if y.toNat ≤ k ∧ k < y.toNat + z.toNat then M a (x.toNat + (k - y.toNat)) else M b k) := by
      funext k
      unfold va_cpy
      split <;> rfl
    rw [e0]
    rfl
  rw [ex, ey, ez] at q1
  have q1 : va_P (mj_dd X) mj_cl (mj_ws X G (mj_cpy M a b x.toNat y.toNat z.toNat)) H1 := by rw [← e9]; exact q1
  refine kk H1 locs1 ls (mj_h_new h q1 q3 hh3.2 ?_ h.2.2.2.2.2.2.1 ⟨Nat.le_refl _, Nat.le_refl _, h9⟩ (fun q hq => mj_upr_ne (by omega)))
  intro q i
  unfold mj_cpy
  by_cases hq : q = b
  · subst hq
    rw [mj_upr_eq]
    have hr := h.2.2.2.2.2.1
    have r1 : mj_i32 (M q i) := (hr q i).2 (mj_isL_a g2 (by decide))
    have r2 : ∀ i, mj_i32 (M a i) := fun i => (hr a i).2 (mj_isL_a h2 (by decide))
    split
    · exact ⟨mj_32_64 (r2 _), fun _ => r2 _⟩
    · exact ⟨mj_32_64 r1, fun _ => r1⟩
  · rw [mj_upr_ne hq]
    exact h.2.2.2.2.2.1 q i
end so3
