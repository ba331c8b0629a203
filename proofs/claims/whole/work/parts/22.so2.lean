section so2
variable {p : Program} {l : Launch} {e : Env} {R : Room} {s : State} {m : MethodId} {args : Array Value} {below : List Frame} {meth : Method} {c : Code} {Q : State → Prop} {X : mj_Cx} {n0 s0 : Nat} {cc : ByteArray} {pc tgt : Nat} {L st : List mj_V} {G : mj_G} {M : mj_M} {x y z : Int} {a b j : Nat} {Ts : List Cond} {own : String}
theorem mj_h_new {G' : mj_G} {M' : mj_M} {st' : List mj_V} {H H' : Heap} {locs locs' : List Loc} {ls : Array Slot} (h : mj_h X s n0 s0 G M L st H locs ls) (hP : va_P (mj_dd X) mj_cl (mj_ws X G' M') H') (hS : va_S (mj_A X) s.heap H' locs') (h2 : ∀ v ∈ st', mj_ok v) (hr : mj_rng G' M') (hs : mj_shp G') (hb : G.1 ≤ G'.1 ∧ G.2.1 ≤ G'.2.1 ∧ G'.1 ≤ 9000) (hM : ∀ q, 9000 ≤ q → M' q = M q) : mj_h X s n0 s0 G' M' L st' H' locs' ls := by
  obtain ⟨-, -, q3, -, q5, -, -, ⟨q8, q9, -⟩, r1, r2, r3, r4⟩ := h
  exact ⟨hP, hS, q3, h2, q5, hr, hs, ⟨by omega, by omega, hb.2.2⟩, fun j hj => by rw [hM _ (by omega)]; exact r1 j hj, by rw [hM _ (by omega)]; exact r2, r3, fun j hj => by rw [hM _ (by omega)]; exact r4 j hj⟩
theorem mj_rng_up {v : Int} (h : mj_rng G M) (hv : mj_i64 v ∧ (¬ mj_isL G a → mj_i32 v)) : mj_rng G (mj_up M a j v) := by
  intro b i
  unfold mj_up
  by_cases hb : b = a
  · subst hb
    rw [if_pos rfl]
    by_cases hi : i = j
    · rw [if_pos hi]; exact hv
    · rw [if_neg hi]; exact h b i
  · rw [if_neg hb]; exact h b i
theorem mj_32_64 {x : Int} (h : mj_i32 x) : mj_i64 x := by unfold mj_i32 at h; unfold mj_i64; omega
theorem mj_isL_o {ci : Nat} (h : G.2.2.1 a = .inl ci) : ¬ mj_isL G a := by rintro ⟨-, n, hn⟩; rw [h] at hn; cases hn
theorem mj_isL_a {ty : FieldType} {n : Nat} (h : G.2.2.1 a = .inr (ty, n)) (ht : ty ≠ .long) : ¬ mj_isL G a := by rintro ⟨-, k, hn⟩; rw [h] at hn; cases hn; exact ht rfl
theorem mj_isL_n (h : ¬ a < G.1) : ¬ mj_isL G a := fun q => h q.1
theorem so_getI (hx : p.tables.exec = Jvm.exec) (hb : c.code = cc) (hts : ∀ w ∈ Ts, w.before args s = true) (hU : ∀ ci, ci < 13 → ∀ w ∈ u_ws (mj_cn ci) (mj_F ci) (mj_nf ci), w ∈ Ts) (hown : s.vm.findClass own = some m.cls) (hK : va_K (mj_dd X) mj_cl (mj_tyl X) s) {idx ci : Nat} (hd : decode cc pc = .ok (.getfield idx, 3)) (hci : ci < 13) (hj : j < mj_nf ci) (hf : (mj_ff ci j).1 ≠ 2) (hlink : (Cond.fieldLink own idx (mj_cn ci) (mj_F ci j).2.1 (mj_F ci j).2.2.1).before args s = true) (ho : mj_isO G a ci = true) (kk : (∀ (H : Heap) (locs : List Loc) (ls : Array Slot), mj_h X s n0 s0 (G) (M) (L) (.inl (M a j) :: st) H locs ls → W p l e R s m args below meth c H locs (G.1 - n0) (G.2.1 - s0) Q (F0 m (pc + 3) ls ((.inl (M a j) :: st : List mj_V).map (mj_val X))))) : (∀ (H : Heap) (locs : List Loc) (ls : Array Slot), mj_h X s n0 s0 (G) (M) (L) (.inr (.inl a) :: st) H locs ls → W p l e R s m args below meth c H locs (G.1 - n0) (G.2.1 - s0) Q (F0 m (pc) ls ((.inr (.inl a) :: st : List mj_V).map (mj_val X)))) := by
  intro H locs ls h
  obtain ⟨h1, h2⟩ := mj_isO_ok ho
  have k2 := kk H locs ls (mj_h_st h (List.forall_mem_cons.mpr ⟨(h.2.2.2.2.2.1 a j).2 (mj_isL_o h2), (mj_h_1 h).2⟩))
  rw [List.map_cons, show mj_val X (.inl (M a j)) = mj_fv X G M a ci j by unfold mj_fv; rw [if_neg hf]; rfl] at k2
  exact va_get (D := mj_dd X) (cl := mj_cl) (ws := mj_ws X G M) hx hb hts (hU ci hci) hown hK h.1 a (by rw [mj_ws_get h1, mj_en_o h2]) (mj_cl_get hci) j hj hlink (fun _ q => q) (mj_fs_get hj) hd k2
theorem so_getA (hx : p.tables.exec = Jvm.exec) (hb : c.code = cc) (hts : ∀ w ∈ Ts, w.before args s = true) (hU : ∀ ci, ci < 13 → ∀ w ∈ u_ws (mj_cn ci) (mj_F ci) (mj_nf ci), w ∈ Ts) (hown : s.vm.findClass own = some m.cls) (hK : va_K (mj_dd X) mj_cl (mj_tyl X) s) {idx ci : Nat} (hd : decode cc pc = .ok (.getfield idx, 3)) (hci : ci < 13) (hj : j < mj_nf ci) (hf : (mj_ff ci j).1 = 2) (hlink : (Cond.fieldLink own idx (mj_cn ci) (mj_F ci j).2.1 (mj_F ci j).2.2.1).before args s = true) (ho : mj_isO G a ci = true) (hn : G.2.2.2 a j ≠ 9999) (kk : (∀ (H : Heap) (locs : List Loc) (ls : Array Slot), mj_h X s n0 s0 (G) (M) (L) (.inr (.inl (G.2.2.2 a j)) :: st) H locs ls → W p l e R s m args below meth c H locs (G.1 - n0) (G.2.1 - s0) Q (F0 m (pc + 3) ls ((.inr (.inl (G.2.2.2 a j)) :: st : List mj_V).map (mj_val X))))) : (∀ (H : Heap) (locs : List Loc) (ls : Array Slot), mj_h X s n0 s0 (G) (M) (L) (.inr (.inl a) :: st) H locs ls → W p l e R s m args below meth c H locs (G.1 - n0) (G.2.1 - s0) Q (F0 m (pc) ls ((.inr (.inl a) :: st : List mj_V).map (mj_val X)))) := by
  intro H locs ls h
  obtain ⟨h1, h2⟩ := mj_isO_ok ho
  have k2 := kk H locs ls (mj_h_st h (List.forall_mem_cons.mpr ⟨trivial, (mj_h_1 h).2⟩))
  rw [List.map_cons, show mj_val X (.inr (.inl (G.2.2.2 a j))) = mj_fv X G M a ci j by unfold mj_fv; rw [if_pos hf, if_neg hn]; rfl] at k2
  exact va_get (D := mj_dd X) (cl := mj_cl) (ws := mj_ws X G M) hx hb hts (hU ci hci) hown hK h.1 a (by rw [mj_ws_get h1, mj_en_o h2]) (mj_cl_get hci) j hj hlink (fun _ q => q) (mj_fs_get hj) hd k2
theorem mj_fs_set {G' : mj_G} {M' : mj_M} {ci : Nat} {v : Value} (hj : j < mj_nf ci) (h1 : mj_fv X G' M' a ci j = v) (h2 : ∀ i, i ≠ j → mj_fv X G' M' a ci i = mj_fv X G M a ci i) : (List.range (mj_nf ci)).map (mj_fv X G' M' a ci) = ((List.range (mj_nf ci)).map (mj_fv X G M a ci)).set j v := by
  apply List.ext_getElem?
  intro i
  by_cases hi : i = j
  · subst hi
    rw [List.getElem?_set_self (by simpa using hj), mj_fs_get hj, h1]
  · rw [List.getElem?_set_ne (Ne.symm hi), List.getElem?_map, List.getElem?_map]
    by_cases hl : i < mj_nf ci
    · simp [hl, h2 i hi]
    · simp [hl]
def mj_ft (ci j : Nat) : FieldType := (mj_tys.getD ci []).getD j .int
theorem mj_put (hx : p.tables.exec = Jvm.exec) (hb : c.code = cc) (hts : ∀ w ∈ Ts, w.before args s = true) (hU : ∀ ci, ci < 13 → ∀ w ∈ u_ws (mj_cn ci) (mj_F ci) (mj_nf ci), w ∈ Ts) (hown : s.vm.findClass own = some m.cls) (hK : va_K (mj_dd X) mj_cl (mj_tyl X) s) {idx ci : Nat} {v : mj_V} {G' : mj_G} {M' : mj_M} (hd : decode cc pc = .ok (.putfield idx, 3)) (hci : ci < 13) (hj : j < mj_nf ci) (hty : ∀ k, k < mj_nf ci → parseFieldDescriptor (mj_F ci k).2.2.1 = some (mj_ft ci k)) (hnm : ∀ a, a < mj_nf ci → ∀ b, b < mj_nf ci → a ≠ b → (mj_F ci a).2.1 ≠ (mj_F ci b).2.1)
    (hfin : (mj_F ci j).2.2.2 = false ∨ ((mj_F ci j).2.2.2 = true ∧ meth.name = "<init>" ∧ mj_cn ci = own)) (hn : narrow (mj_ft ci j) (mj_val X v) = mj_val X v) (hfit : fits (mj_ft ci j) (mj_val X v) = true)
    (hlink : (Cond.fieldLink own idx (mj_cn ci) (mj_F ci j).2.1 (mj_F ci j).2.2.1).before args s = true) (ho : mj_isO G a ci = true)
    (hG : G'.1 = G.1 ∧ G'.2.1 = G.2.1 ∧ G'.2.2.1 = G.2.2.1) (hfv : mj_fv X G' M' a ci j = mj_val X v) (hfo : ∀ i, i ≠ j → mj_fv X G' M' a ci i = mj_fv X G M a ci i) (hen : ∀ b, b ≠ a → mj_en X G' M' b = mj_en X G M b) (hrng : mj_ok v → mj_rng G M → mj_rng G' M') (hM : ∀ q, q ≠ a → M' q = M q)
    (kk : (∀ (H : Heap) (locs : List Loc) (ls : Array Slot), mj_h X s n0 s0 (G') (M') (L) (st) H locs ls → W p l e R s m args below meth c H locs ((G').1 - n0) ((G').2.1 - s0) Q (F0 m (pc + 3) ls ((st : List mj_V).map (mj_val X))))) : (∀ (H : Heap) (locs : List Loc) (ls : Array Slot), mj_h X s n0 s0 (G) (M) (L) (v :: .inr (.inl a) :: st) H locs ls → W p l e R s m args below meth c H locs (G.1 - n0) (G.2.1 - s0) Q (F0 m (pc) ls ((v :: .inr (.inl a) :: st : List mj_V).map (mj_val X)))) := by
  intro H locs ls h
  obtain ⟨h1, h2⟩ := mj_isO_ok ho
  have hs0 : va_S (mj_A X) s.heap H locs := h.2.1
  have h9 : G.1 ≤ 9000 := h.2.2.2.2.2.2.2.1.2.2
  have he : (mj_ws X G M)[a]? = some (mj_ad X a, .inr (ci, (List.range (mj_nf ci)).map (mj_fv X G M a ci))) := by rw [mj_ws_get h1, mj_en_o h2]
  have hset : (mj_ws X G M).set a (mj_ad X a, .inr (ci, ((List.range (mj_nf ci)).map (mj_fv X G M a ci)).set j (mj_val X v))) = mj_ws X G' M' :=
    mj_ws_set hG.1 (by rw [mj_en_o (by rw [hG.2.2]; exact h2), mj_fs_set hj hfv hfo]) (fun b _ hb => hen b hb)
  have fin : ∀ (H1 : Heap) (locs1 : List Loc), va_P (mj_dd X) mj_cl ((mj_ws X G M).set a (mj_ad X a, .inr (ci, ((List.range (mj_nf ci)).map (mj_fv X G M a ci)).set j (mj_val X v)))) H1 → va_D (mj_A X) ((mj_ws X G M).set a (mj_ad X a, .inr (ci, ((List.range (mj_nf ci)).map (mj_fv X G M a ci)).set j (mj_val X v)))) → va_S (mj_A X) s.heap H1 locs1 → W p l e R s m args below meth c H1 locs1 (G.1 - n0) (G.2.1 - s0) Q (F0 m (pc + 3) ls (st.map (mj_val X))) := by
    intro H1 locs1 q1 _ q3
    rw [hset] at q1
    have k2 := kk H1 locs1 ls (mj_h_new h q1 q3 (mj_h_2 h).2.2 (hrng (mj_h_2 h).1 h.2.2.2.2.2.1) (by unfold mj_shp; rw [hG.1, hG.2.2]; exact h.2.2.2.2.2.2.1) (by rw [hG.1, hG.2.1]; exact ⟨Nat.le_refl _, Nat.le_refl _, h9⟩) (fun q hq => hM q (by omega)))
    rw [hG.1, hG.2.1] at k2
    exact k2
  have hl : j < ((List.range (mj_nf ci)).map (mj_fv X G M a ci)).length := by simpa using hj
  rcases hfin with hf | ⟨hf, hin, hdecl⟩
  · exact va_put (D := mj_dd X) (cl := mj_cl) (ws := mj_ws X G M) hx hb hts (hU ci hci) (mj_ft ci) hty hnm hown hK h.1 (mj_ws_D h9) hs0 a he (mj_cl_get hci) j hj hlink (fun _ q => q) hf (hty j hj) hn hfit hl hd fin
  · exact va_putF (D := mj_dd X) (cl := mj_cl) (ws := mj_ws X G M) hx hb hts (hU ci hci) (mj_ft ci) hty hnm hown hK h.1 (mj_ws_D h9) hs0 a he (mj_cl_get hci) j hj hlink (fun _ q => q) hf hin hdecl (hty j hj) hn hfit hl hd fin
theorem so_putI (hx : p.tables.exec = Jvm.exec) (hb : c.code = cc) (hts : ∀ w ∈ Ts, w.before args s = true) (hU : ∀ ci, ci < 13 → ∀ w ∈ u_ws (mj_cn ci) (mj_F ci) (mj_nf ci), w ∈ Ts) (hown : s.vm.findClass own = some m.cls) (hK : va_K (mj_dd X) mj_cl (mj_tyl X) s) {idx ci : Nat} (hd : decode cc pc = .ok (.putfield idx, 3)) (hci : ci < 13) (hj : j < mj_nf ci) (hf : (mj_ff ci j).1 ≠ 2) (hty : ∀ k, k < mj_nf ci → parseFieldDescriptor (mj_F ci k).2.2.1 = some (mj_ft ci k)) (hnm : ∀ a, a < mj_nf ci → ∀ b, b < mj_nf ci → a ≠ b → (mj_F ci a).2.1 ≠ (mj_F ci b).2.1)
    (hfin : (mj_F ci j).2.2.2 = false ∨ ((mj_F ci j).2.2.2 = true ∧ meth.name = "<init>" ∧ mj_cn ci = own)) (hn : narrow (mj_ft ci j) (mj_val X (.inl x)) = mj_val X (.inl x)) (hfit : fits (mj_ft ci j) (mj_val X (.inl x)) = true)
    (hlink : (Cond.fieldLink own idx (mj_cn ci) (mj_F ci j).2.1 (mj_F ci j).2.2.1).before args s = true) (ho : mj_isO G a ci = true) (kk : (∀ (H : Heap) (locs : List Loc) (ls : Array Slot), mj_h X s n0 s0 (G) ((mj_up M a j x)) (L) (st) H locs ls → W p l e R s m args below meth c H locs (G.1 - n0) (G.2.1 - s0) Q (F0 m (pc + 3) ls ((st : List mj_V).map (mj_val X))))) : (∀ (H : Heap) (locs : List Loc) (ls : Array Slot), mj_h X s n0 s0 (G) (M) (L) (.inl x :: .inr (.inl a) :: st) H locs ls → W p l e R s m args below meth c H locs (G.1 - n0) (G.2.1 - s0) Q (F0 m (pc) ls ((.inl x :: .inr (.inl a) :: st : List mj_V).map (mj_val X)))) :=
  mj_put (G' := G) (M' := mj_up M a j x) hx hb hts hU hown hK hd hci hj hty hnm hfin hn hfit hlink ho ⟨rfl, rfl, rfl⟩ (by simp [mj_fv, hf, mj_up_eq, mj_val]) (fun i hi => by simp [mj_fv, mj_up_eq, hi]) (fun b hb => mj_en_ext rfl rfl (mj_up_ne hb)) (fun hv hr => mj_rng_up hr ⟨mj_32_64 hv, fun _ => hv⟩) (fun q hq => mj_up_ne hq) kk
theorem so_putA (hx : p.tables.exec = Jvm.exec) (hb : c.code = cc) (hts : ∀ w ∈ Ts, w.before args s = true) (hU : ∀ ci, ci < 13 → ∀ w ∈ u_ws (mj_cn ci) (mj_F ci) (mj_nf ci), w ∈ Ts) (hown : s.vm.findClass own = some m.cls) (hK : va_K (mj_dd X) mj_cl (mj_tyl X) s) {idx ci : Nat} (hd : decode cc pc = .ok (.putfield idx, 3)) (hci : ci < 13) (hj : j < mj_nf ci) (hf : (mj_ff ci j).1 = 2) (hty : ∀ k, k < mj_nf ci → parseFieldDescriptor (mj_F ci k).2.2.1 = some (mj_ft ci k)) (hnm : ∀ a, a < mj_nf ci → ∀ b, b < mj_nf ci → a ≠ b → (mj_F ci a).2.1 ≠ (mj_F ci b).2.1)
    (hfin : (mj_F ci j).2.2.2 = false ∨ ((mj_F ci j).2.2.2 = true ∧ meth.name = "<init>" ∧ mj_cn ci = own)) (hn : narrow (mj_ft ci j) (mj_val X (.inr (.inl b))) = mj_val X (.inr (.inl b))) (hfit : fits (mj_ft ci j) (mj_val X (.inr (.inl b))) = true) (hb9 : b ≠ 9999)
    (hlink : (Cond.fieldLink own idx (mj_cn ci) (mj_F ci j).2.1 (mj_F ci j).2.2.1).before args s = true) (ho : mj_isO G a ci = true) (kk : (∀ (H : Heap) (locs : List Loc) (ls : Array Slot), mj_h X s n0 s0 ((G.1, G.2.1, G.2.2.1, mj_upP G.2.2.2 a j b)) (M) (L) (st) H locs ls → W p l e R s m args below meth c H locs (((G.1, G.2.1, G.2.2.1, mj_upP G.2.2.2 a j b)).1 - n0) (((G.1, G.2.1, G.2.2.1, mj_upP G.2.2.2 a j b)).2.1 - s0) Q (F0 m (pc + 3) ls ((st : List mj_V).map (mj_val X))))) : (∀ (H : Heap) (locs : List Loc) (ls : Array Slot), mj_h X s n0 s0 (G) (M) (L) (.inr (.inl b) :: .inr (.inl a) :: st) H locs ls → W p l e R s m args below meth c H locs (G.1 - n0) (G.2.1 - s0) Q (F0 m (pc) ls ((.inr (.inl b) :: .inr (.inl a) :: st : List mj_V).map (mj_val X)))) :=
  mj_put (G' := (G.1, G.2.1, G.2.2.1, mj_upP G.2.2.2 a j b)) (M' := M) hx hb hts hU hown hK hd hci hj hty hnm hfin hn hfit hlink ho ⟨rfl, rfl, rfl⟩ (by simp [mj_fv, hf, mj_upP_eq, mj_val, hb9]) (fun i hi => by simp [mj_fv, mj_upP_eq, hi]) (fun b hb => mj_en_ext rfl (mj_upP_ne hb) rfl) (fun _ hr => hr) (fun _ _ => rfl) kk
theorem mj_iaO {n : Nat} (h : mj_ai G M a = some n) : (a < G.1 ∧ G.2.2.1 a = .inr (.int, n)) ∨ (¬ a < G.1 ∧ a = 9000 ∧ n = (M 9002 0).toNat) ∨ (¬ a < G.1 ∧ a = 9001 ∧ n = 6) := by
  unfold mj_ai at h
  by_cases h1 : a < G.1
  · rw [if_pos h1] at h
    refine Or.inl ⟨h1, ?_⟩
    cases hs : G.2.2.1 a with
    | inl c => rw [hs] at h; cases h
    | inr q =>
      obtain ⟨t, k⟩ := q
      rw [hs] at h
      cases t <;> cases h
      rfl
  · rw [if_neg h1] at h
    by_cases h2 : a = 9000
    · rw [if_pos h2] at h; cases h; exact Or.inr (Or.inl ⟨h1, h2, rfl⟩)
    · rw [if_neg h2] at h
      by_cases h3 : a = 9001
      · rw [if_pos h3] at h; cases h; exact Or.inr (Or.inr ⟨h1, h3, rfl⟩)
      · rw [if_neg h3] at h; cases h
theorem so_iald (hx : p.tables.exec = Jvm.exec) (hb : c.code = cc) (hts : ∀ w ∈ Ts, w.before args s = true) (hU : ∀ ci, ci < 13 → ∀ w ∈ u_ws (mj_cn ci) (mj_F ci) (mj_nf ci), w ∈ Ts) (hown : s.vm.findClass own = some m.cls) (hK : va_K (mj_dd X) mj_cl (mj_tyl X) s) {n : Nat} (hT : va_T .int (mj_ax X 9000) (mj_L X) (fun j => .int (mj_xs X j)) (mj_A X) s s.heap) (hT2 : va_T .int (mj_ax X 9001) 6 (fun j => .int (Int32.ofInt (mj_prc.getD j 0))) (mj_A X) s s.heap) (hd : decode cc pc = .ok (.iaload, 1)) (ha : mj_ai G M a = some n) (hi : 0 ≤ x ∧ x < n) (kk : (∀ (H : Heap) (locs : List Loc) (ls : Array Slot), mj_h X s n0 s0 (G) (M) (L) (.inl (M a x.toNat) :: st) H locs ls → W p l e R s m args below meth c H locs (G.1 - n0) (G.2.1 - s0) Q (F0 m (pc + 1) ls ((.inl (M a x.toNat) :: st : List mj_V).map (mj_val X))))) : (∀ (H : Heap) (locs : List Loc) (ls : Array Slot), mj_h X s n0 s0 (G) (M) (L) (.inl x :: .inr (.inl a) :: st) H locs ls → W p l e R s m args below meth c H locs (G.1 - n0) (G.2.1 - s0) Q (F0 m (pc) ls ((.inl x :: .inr (.inl a) :: st : List mj_V).map (mj_val X)))) := by
  intro H locs ls h
  have hh := mj_h_2 h
  have hX : mj_i32 x := hh.1
  have hok : mj_i32 (M a x.toNat) := by
    refine (h.2.2.2.2.2.1 a x.toNat).2 ?_
    rcases mj_iaO ha with ⟨h1, h2⟩ | ⟨h1, -⟩ | ⟨h1, -⟩
    · exact mj_isL_a h2 (by decide)
    · exact mj_isL_n h1
    · exact mj_isL_n h1
  have k2 := kk H locs ls (mj_h_st h (List.forall_mem_cons.mpr ⟨hok, hh.2.2⟩))
  have ec : (Int32.ofInt x).toNatClampNeg = x.toNat := mj_cl_ hX hi.1
  obtain ⟨r1, r2, r3, r4⟩ := h.2.2.2.2.2.2.2.2
  rcases mj_iaO ha with ⟨h1, h2⟩ | ⟨h1, h2, h3⟩ | ⟨h1, h2, h3⟩
  · refine va_iald (D := mj_dd X) (cl := mj_cl) (ws := mj_ws X G M) (f := fun i => Int32.ofInt (M a i)) hx hb hK h.1 a 0 (by rw [mj_ws_get h1, mj_en_a h2]; rfl) rfl (mj_ix hX hi) hd ?_
    rw [ec]
    exact k2
  · subst h2
    have hn : n = mj_L X := by rw [h3, r2]; omega
    refine va_ti (f := fun j => .int (mj_xs X j)) hx hb hT h.2.1 (by rw [← hn]; exact mj_ix hX hi) rfl hd ?_
    rw [ec]
    have hlt : x.toNat < mj_L X := by omega
    rw [List.map_cons, r1 _ hlt, show mj_val X (.inl (mj_xs X x.toNat).toInt) = .int (mj_xs X x.toNat) from congrArg Value.int (mj_of_t _)] at k2
    exact k2
  · subst h2
    subst h3
    refine va_ti (f := fun j => .int (Int32.ofInt (mj_prc.getD j 0))) hx hb hT2 h.2.1 (mj_ix hX hi) rfl hd ?_
    rw [ec]
    rw [List.map_cons, r4 _ (by omega)] at k2
    exact k2
theorem so_alen (hx : p.tables.exec = Jvm.exec) (hb : c.code = cc) (hts : ∀ w ∈ Ts, w.before args s = true) (hU : ∀ ci, ci < 13 → ∀ w ∈ u_ws (mj_cn ci) (mj_F ci) (mj_nf ci), w ∈ Ts) (hown : s.vm.findClass own = some m.cls) (hK : va_K (mj_dd X) mj_cl (mj_tyl X) s) {n : Nat} (hT : va_T .int (mj_ax X 9000) (mj_L X) (fun j => .int (mj_xs X j)) (mj_A X) s s.heap) (hT2 : va_T .int (mj_ax X 9001) 6 (fun j => .int (Int32.ofInt (mj_prc.getD j 0))) (mj_A X) s s.heap) (hd : decode cc pc = .ok (.arraylength, 1)) (ha : mj_ai G M a = some n) (kk : (∀ (H : Heap) (locs : List Loc) (ls : Array Slot), mj_h X s n0 s0 (G) (M) (L) (.inl n :: st) H locs ls → W p l e R s m args below meth c H locs (G.1 - n0) (G.2.1 - s0) Q (F0 m (pc + 1) ls ((.inl n :: st : List mj_V).map (mj_val X))))) : (∀ (H : Heap) (locs : List Loc) (ls : Array Slot), mj_h X s n0 s0 (G) (M) (L) (.inr (.inl a) :: st) H locs ls → W p l e R s m args below meth c H locs (G.1 - n0) (G.2.1 - s0) Q (F0 m (pc) ls ((.inr (.inl a) :: st : List mj_V).map (mj_val X)))) := by
  intro H locs ls h
  obtain ⟨r1, r2, r3, r4⟩ := h.2.2.2.2.2.2.2.2
  have hv : Int32.ofNat n = Int32.ofInt (n : Int) := rfl
  have hok : mj_i32 (n : Int) := by
    rcases mj_iaO ha with ⟨h1, h2⟩ | ⟨h1, h2, h3⟩ | ⟨h1, h2, h3⟩
    · have := h.2.2.2.2.2.2.1 a h1
      rw [h2] at this
      have := this.2
      unfold mj_i32; omega
    · unfold mj_i32; omega
    · unfold mj_i32; omega
  have k2 := kk H locs ls (mj_h_st h (List.forall_mem_cons.mpr ⟨hok, (mj_h_1 h).2⟩))
  rcases mj_iaO ha with ⟨h1, h2⟩ | ⟨h1, h2, h3⟩ | ⟨h1, h2, h3⟩
  · exact va_alen (D := mj_dd X) (cl := mj_cl) (ws := mj_ws X G M) (x := mj_arr X .int n (M a) (G.2.2.2 a)) (cA := mj_ca X 0) (ty := .int) hx hb hK h.1 a 0 (by rw [mj_ws_get h1, mj_en_a h2]; rfl) rfl (show Int32.ofNat n = Int32.ofInt (n : Int) from rfl) hd k2
  · subst h2
    have hn : n = mj_L X := by rw [h3, r2]; omega
    exact va_tlen hx hb hT h.2.1 (by rw [← hn]; rfl) hd k2
  · subst h2
    subst h3
    exact va_tlen hx hb hT2 h.2.1 rfl hd k2
theorem so_bald (hx : p.tables.exec = Jvm.exec) (hb : c.code = cc) (hts : ∀ w ∈ Ts, w.before args s = true) (hU : ∀ ci, ci < 13 → ∀ w ∈ u_ws (mj_cn ci) (mj_F ci) (mj_nf ci), w ∈ Ts) (hown : s.vm.findClass own = some m.cls) (hK : va_K (mj_dd X) mj_cl (mj_tyl X) s) {n : Nat} (hd : decode cc pc = .ok (.baload, 1)) (ha : mj_ty G .boolean a = some n) (hi : 0 ≤ x ∧ x < n) (kk : (∀ (H : Heap) (locs : List Loc) (ls : Array Slot), mj_h X s n0 s0 (G) (M) (L) (.inl (M a x.toNat) :: st) H locs ls → W p l e R s m args below meth c H locs (G.1 - n0) (G.2.1 - s0) Q (F0 m (pc + 1) ls ((.inl (M a x.toNat) :: st : List mj_V).map (mj_val X))))) : (∀ (H : Heap) (locs : List Loc) (ls : Array Slot), mj_h X s n0 s0 (G) (M) (L) (.inl x :: .inr (.inl a) :: st) H locs ls → W p l e R s m args below meth c H locs (G.1 - n0) (G.2.1 - s0) Q (F0 m (pc) ls ((.inl x :: .inr (.inl a) :: st : List mj_V).map (mj_val X)))) := by
  intro H locs ls h
  have hh := mj_h_2 h
  have hX : mj_i32 x := hh.1
  obtain ⟨h1, h2⟩ := mj_ty_ok ha
  have k2 := kk H locs ls (mj_h_st h (List.forall_mem_cons.mpr ⟨(h.2.2.2.2.2.1 a x.toNat).2 (mj_isL_a h2 (by decide)), hh.2.2⟩))
  refine va_zald (D := mj_dd X) (cl := mj_cl) (ws := mj_ws X G M) (f := fun i => Int32.ofInt (M a i)) hx hb hK h.1 a 1 (by rw [mj_ws_get h1, mj_en_a h2]; rfl) rfl (mj_ix hX hi) hd ?_
  rw [mj_cl_ hX hi.1]
  exact k2
theorem so_lald (hx : p.tables.exec = Jvm.exec) (hb : c.code = cc) (hts : ∀ w ∈ Ts, w.before args s = true) (hU : ∀ ci, ci < 13 → ∀ w ∈ u_ws (mj_cn ci) (mj_F ci) (mj_nf ci), w ∈ Ts) (hown : s.vm.findClass own = some m.cls) (hK : va_K (mj_dd X) mj_cl (mj_tyl X) s) {n : Nat} (hd : decode cc pc = .ok (.laload, 1)) (ha : mj_ty G .long a = some n) (hi : 0 ≤ x ∧ x < n) (kk : (∀ (H : Heap) (locs : List Loc) (ls : Array Slot), mj_h X s n0 s0 (G) (M) (L) (.inr (.inr (M a x.toNat)) :: st) H locs ls → W p l e R s m args below meth c H locs (G.1 - n0) (G.2.1 - s0) Q (F0 m (pc + 1) ls ((.inr (.inr (M a x.toNat)) :: st : List mj_V).map (mj_val X))))) : (∀ (H : Heap) (locs : List Loc) (ls : Array Slot), mj_h X s n0 s0 (G) (M) (L) (.inl x :: .inr (.inl a) :: st) H locs ls → W p l e R s m args below meth c H locs (G.1 - n0) (G.2.1 - s0) Q (F0 m (pc) ls ((.inl x :: .inr (.inl a) :: st : List mj_V).map (mj_val X)))) := by
  intro H locs ls h
  have hh := mj_h_2 h
  have hX : mj_i32 x := hh.1
  obtain ⟨h1, h2⟩ := mj_ty_ok ha
  have k2 := kk H locs ls (mj_h_st h (List.forall_mem_cons.mpr ⟨(h.2.2.2.2.2.1 a x.toNat).1, hh.2.2⟩))
  refine va_lald (D := mj_dd X) (cl := mj_cl) (ws := mj_ws X G M) (f := fun i => Int64.ofInt (M a i)) hx hb hK h.1 a 2 (by rw [mj_ws_get h1, mj_en_a h2]; rfl) rfl (mj_ix hX hi) hd ?_
  rw [mj_cl_ hX hi.1]
  exact k2
theorem so_aald (hx : p.tables.exec = Jvm.exec) (hb : c.code = cc) (hts : ∀ w ∈ Ts, w.before args s = true) (hU : ∀ ci, ci < 13 → ∀ w ∈ u_ws (mj_cn ci) (mj_F ci) (mj_nf ci), w ∈ Ts) (hown : s.vm.findClass own = some m.cls) (hK : va_K (mj_dd X) mj_cl (mj_tyl X) s) {n : Nat} (hd : decode cc pc = .ok (.aaload, 1)) (ha : mj_ty G (.array .int) a = some n) (hi : 0 ≤ x ∧ x < n) (kk : (∀ (H : Heap) (locs : List Loc) (ls : Array Slot), mj_h X s n0 s0 (G) (M) (L) (.inr (.inl (G.2.2.2 a x.toNat)) :: st) H locs ls → W p l e R s m args below meth c H locs (G.1 - n0) (G.2.1 - s0) Q (F0 m (pc + 1) ls ((.inr (.inl (G.2.2.2 a x.toNat)) :: st : List mj_V).map (mj_val X))))) : (∀ (H : Heap) (locs : List Loc) (ls : Array Slot), mj_h X s n0 s0 (G) (M) (L) (.inl x :: .inr (.inl a) :: st) H locs ls → W p l e R s m args below meth c H locs (G.1 - n0) (G.2.1 - s0) Q (F0 m (pc) ls ((.inl x :: .inr (.inl a) :: st : List mj_V).map (mj_val X)))) := by
  intro H locs ls h
  have hh := mj_h_2 h
  have hX : mj_i32 x := hh.1
  obtain ⟨h1, h2⟩ := mj_ty_ok ha
  have k2 := kk H locs ls (mj_h_st h (List.forall_mem_cons.mpr ⟨trivial, hh.2.2⟩))
  have hP0 := h.1 a _ (mj_ws_get h1)
  rw [mj_en_a h2] at hP0
  have hP : H[mj_ad X a]? = some (arrV (mj_ca X 3) n (fun j => va_rf (some (mj_ad X (G.2.2.2 a j))))) := hP0
  have hin := mj_ix hX hi
  have hlt : (Int32.ofInt x).toNatClampNeg < n := Nat.not_le.mp fun q => hin (Or.inr q)
  refine W.aald (v := va_rf (some (mj_ad X (G.2.2.2 a (Int32.ofInt x).toNatClampNeg)))) (ty := .array .int) hx hb hP ((hK.2 3 _ rfl).1 n (fun j => va_rf (some (mj_ad X (G.2.2.2 a j))))) rfl (fun q => by cases q) (by show ¬ (_ < 0 ∨ (arrV _ _ _).slots.size ≤ _); rw [arrV_size]; exact hin) (by show (arrV _ _ _).slots[_]? = _; rw [arrV_read _ _ hlt]) rfl rfl hd ?_
  rw [mj_cl_ hX hi.1]
  exact k2
theorem mj_arr_st {ty : FieldType} {n : Nat} {v : Int} {g : vp_A} {H : Heap} {locs : List Loc} {ls : Array Slot} (h : mj_h X s n0 s0 G M L st H locs ls) (ha : mj_ty G ty a = some n) (hg : mj_arr X ty n (fun i => if i = j then v else M a i) (G.2.2.2 a) = g) : (mj_ws X G M).set a (mj_ad X a, .inl (mj_ca X (mj_tn ty), g)) = mj_ws X G (mj_up M a j v) := by
  obtain ⟨h1, h2⟩ := mj_ty_ok ha
  exact mj_ws_set rfl (by rw [mj_en_a h2, mj_up_eq, hg]) (fun b _ hb => mj_en_ext rfl rfl (mj_up_ne hb))
theorem so_iast (hx : p.tables.exec = Jvm.exec) (hb : c.code = cc) (hts : ∀ w ∈ Ts, w.before args s = true) (hU : ∀ ci, ci < 13 → ∀ w ∈ u_ws (mj_cn ci) (mj_F ci) (mj_nf ci), w ∈ Ts) (hown : s.vm.findClass own = some m.cls) (hK : va_K (mj_dd X) mj_cl (mj_tyl X) s) {n : Nat} (hd : decode cc pc = .ok (.iastore, 1)) (ha : mj_ty G .int a = some n) (hi : 0 ≤ x ∧ x < n) (kk : (∀ (H : Heap) (locs : List Loc) (ls : Array Slot), mj_h X s n0 s0 (G) ((mj_up M a x.toNat y)) (L) (st) H locs ls → W p l e R s m args below meth c H locs (G.1 - n0) (G.2.1 - s0) Q (F0 m (pc + 1) ls ((st : List mj_V).map (mj_val X))))) : (∀ (H : Heap) (locs : List Loc) (ls : Array Slot), mj_h X s n0 s0 (G) (M) (L) (.inl y :: .inl x :: .inr (.inl a) :: st) H locs ls → W p l e R s m args below meth c H locs (G.1 - n0) (G.2.1 - s0) Q (F0 m (pc) ls ((.inl y :: .inl x :: .inr (.inl a) :: st : List mj_V).map (mj_val X)))) := by
  intro H locs ls h
  have hh := mj_h_3 h
  have hX : mj_i32 x := hh.2.1
  have hY : mj_i32 y := hh.1
  obtain ⟨h1, h2⟩ := mj_ty_ok ha
  have h9 : G.1 ≤ 9000 := h.2.2.2.2.2.2.2.1.2.2
  refine va_iast (D := mj_dd X) (cl := mj_cl) (ws := mj_ws X G M) (f := fun i => Int32.ofInt (M a i)) hx hb hK h.1 (mj_ws_D h9) h.2.1 a 0 (by rw [mj_ws_get h1, mj_en_a h2]; rfl) rfl (mj_ix hX hi) hd (fun H1 locs1 q1 _ q3 => ?_)
  have e9 := mj_arr_st (j := x.toNat) (v := y) (g := (n, .inl (upd (fun i => Int32.ofInt (M a i)) x.toNat (Int32.ofInt y)))) h ha (by rw [show upd (fun i => Int32.ofInt (M a i)) x.toNat (Int32.ofInt y) = (fun i => Int32.ofInt (if i = x.toNat then y else M a i)) from by funext i; unfold upd; split <;> rfl]; rfl)
  rw [mj_cl_ hX hi.1] at q1
  have q1 : va_P (mj_dd X) mj_cl (mj_ws X G (mj_up M a x.toNat y)) H1 := by rw [← e9]; exact q1
  exact kk H1 locs1 ls (mj_h_new h q1 q3 hh.2.2.2 (mj_rng_up h.2.2.2.2.2.1 ⟨mj_32_64 hY, fun _ => hY⟩) h.2.2.2.2.2.2.1 ⟨Nat.le_refl _, Nat.le_refl _, h9⟩ (fun q hq => mj_up_ne (by omega)))
theorem so_bast (hx : p.tables.exec = Jvm.exec) (hb : c.code = cc) (hts : ∀ w ∈ Ts, w.before args s = true) (hU : ∀ ci, ci < 13 → ∀ w ∈ u_ws (mj_cn ci) (mj_F ci) (mj_nf ci), w ∈ Ts) (hown : s.vm.findClass own = some m.cls) (hK : va_K (mj_dd X) mj_cl (mj_tyl X) s) {n : Nat} (hd : decode cc pc = .ok (.bastore, 1)) (ha : mj_ty G .boolean a = some n) (hi : 0 ≤ x ∧ x < n) (hy : 0 ≤ y ∧ y ≤ 1) (kk : (∀ (H : Heap) (locs : List Loc) (ls : Array Slot), mj_h X s n0 s0 (G) ((mj_up M a x.toNat y)) (L) (st) H locs ls → W p l e R s m args below meth c H locs (G.1 - n0) (G.2.1 - s0) Q (F0 m (pc + 1) ls ((st : List mj_V).map (mj_val X))))) : (∀ (H : Heap) (locs : List Loc) (ls : Array Slot), mj_h X s n0 s0 (G) (M) (L) (.inl y :: .inl x :: .inr (.inl a) :: st) H locs ls → W p l e R s m args below meth c H locs (G.1 - n0) (G.2.1 - s0) Q (F0 m (pc) ls ((.inl y :: .inl x :: .inr (.inl a) :: st : List mj_V).map (mj_val X)))) := by
  intro H locs ls h
  have hh := mj_h_3 h
  have hX : mj_i32 x := hh.2.1
  have hY : mj_i32 y := hh.1
  obtain ⟨h1, h2⟩ := mj_ty_ok ha
  have h9 : G.1 ≤ 9000 := h.2.2.2.2.2.2.2.1.2.2
  have en : vp_nar .boolean (Int32.ofInt y) = Int32.ofInt y := by
    rcases (show y = 0 ∨ y = 1 by omega) with rfl | rfl <;> decide
  refine va_zast (D := mj_dd X) (cl := mj_cl) (ws := mj_ws X G M) (f := fun i => Int32.ofInt (M a i)) hx hb hK h.1 (mj_ws_D h9) h.2.1 a 1 (by rw [mj_ws_get h1, mj_en_a h2]; rfl) rfl (mj_ix hX hi) hd (fun H1 locs1 q1 _ q3 => ?_)
  have e9 := mj_arr_st (j := x.toNat) (v := y) (g := (n, .inl (upd (fun i => Int32.ofInt (M a i)) x.toNat (Int32.ofInt y)))) h ha (by rw [show upd (fun i => Int32.ofInt (M a i)) x.toNat (Int32.ofInt y) = (fun i => Int32.ofInt (if i = x.toNat then y else M a i)) from by funext i; unfold upd; split <;> rfl]; rfl)
  rw [en, mj_cl_ hX hi.1] at q1
  have q1 : va_P (mj_dd X) mj_cl (mj_ws X G (mj_up M a x.toNat y)) H1 := by rw [← e9]; exact q1
  exact kk H1 locs1 ls (mj_h_new h q1 q3 hh.2.2.2 (mj_rng_up h.2.2.2.2.2.1 ⟨mj_32_64 hY, fun _ => hY⟩) h.2.2.2.2.2.2.1 ⟨Nat.le_refl _, Nat.le_refl _, h9⟩ (fun q hq => mj_up_ne (by omega)))
theorem so_last (hx : p.tables.exec = Jvm.exec) (hb : c.code = cc) (hts : ∀ w ∈ Ts, w.before args s = true) (hU : ∀ ci, ci < 13 → ∀ w ∈ u_ws (mj_cn ci) (mj_F ci) (mj_nf ci), w ∈ Ts) (hown : s.vm.findClass own = some m.cls) (hK : va_K (mj_dd X) mj_cl (mj_tyl X) s) {n : Nat} (hd : decode cc pc = .ok (.lastore, 1)) (ha : mj_ty G .long a = some n) (hi : 0 ≤ x ∧ x < n) (kk : (∀ (H : Heap) (locs : List Loc) (ls : Array Slot), mj_h X s n0 s0 (G) ((mj_up M a x.toNat y)) (L) (st) H locs ls → W p l e R s m args below meth c H locs (G.1 - n0) (G.2.1 - s0) Q (F0 m (pc + 1) ls ((st : List mj_V).map (mj_val X))))) : (∀ (H : Heap) (locs : List Loc) (ls : Array Slot), mj_h X s n0 s0 (G) (M) (L) (.inr (.inr y) :: .inl x :: .inr (.inl a) :: st) H locs ls → W p l e R s m args below meth c H locs (G.1 - n0) (G.2.1 - s0) Q (F0 m (pc) ls ((.inr (.inr y) :: .inl x :: .inr (.inl a) :: st : List mj_V).map (mj_val X)))) := by
  intro H locs ls h
  have hh := mj_h_3 h
  have hX : mj_i32 x := hh.2.1
  have hY : mj_i64 y := hh.1
  obtain ⟨h1, h2⟩ := mj_ty_ok ha
  have h9 : G.1 ≤ 9000 := h.2.2.2.2.2.2.2.1.2.2
  refine va_last (D := mj_dd X) (cl := mj_cl) (ws := mj_ws X G M) (f := fun i => Int64.ofInt (M a i)) hx hb hK h.1 (mj_ws_D h9) h.2.1 a 2 (by rw [mj_ws_get h1, mj_en_a h2]; rfl) rfl (mj_ix hX hi) hd (fun H1 locs1 q1 _ q3 => ?_)
  have e9 := mj_arr_st (j := x.toNat) (v := y) (g := (n, .inr (.inl (vp_updL (fun i => Int64.ofInt (M a i)) x.toNat (Int64.ofInt y))))) h ha (by rw [show vp_updL (fun i => Int64.ofInt (M a i)) x.toNat (Int64.ofInt y) = (fun i => Int64.ofInt (if i = x.toNat then y else M a i)) from by funext i; unfold vp_updL; split <;> rfl]; rfl)
  rw [mj_cl_ hX hi.1] at q1
  have q1 : va_P (mj_dd X) mj_cl (mj_ws X G (mj_up M a x.toNat y)) H1 := by rw [← e9]; exact q1
  exact kk H1 locs1 ls (mj_h_new h q1 q3 hh.2.2.2 (mj_rng_up h.2.2.2.2.2.1 ⟨hY, fun q => absurd ⟨h1, n, h2⟩ q⟩) h.2.2.2.2.2.2.1 ⟨Nat.le_refl _, Nat.le_refl _, h9⟩ (fun q hq => mj_up_ne (by omega)))
end so2
