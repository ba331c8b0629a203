section so4
variable {p : Program} {l : Launch} {e : Env} {R : Room} {s : State} {m : MethodId} {args : Array Value} {below : List Frame} {meth : Method} {c : Code} {Q : State → Prop} {X : mj_Cx} {n0 s0 : Nat} {cc : ByteArray} {pc tgt : Nat} {L st : List mj_V} {G : mj_G} {M : mj_M} {x y z : Int} {a b j : Nat} {Ts : List Cond} {own : String}
theorem mj_outer (cA : ClassId) (n h0 : Nat) : ∀ i, Jvm.Free.Multi.outerC cA n h0 i = arrV cA n (fun j => if j < i then .ref (h0 + 1 + j) else .null) := by
  intro i
  induction i with
  | zero => exact arrV_new cA n .null
  | succ i ih =>
    show (Jvm.Free.Multi.outerC cA n h0 i).setSlot i (.ref (h0 + 1 + i)) = _
    rw [ih, arrV_store]
    congr 1
    funext j
    unfold updV
    by_cases hj : j = i
    · subst hj; simp
    · by_cases h2 : j < i
      · simp [hj, h2, show j < i + 1 by omega]
      · simp [hj, h2, show ¬ j < i + 1 by omega]
theorem so_newM (hx : p.tables.exec = Jvm.exec) (hb : c.code = cc) (hts : ∀ w ∈ Ts, w.before args s = true) (hU : ∀ ci, ci < 13 → ∀ w ∈ u_ws (mj_cn ci) (mj_F ci) (mj_nf ci), w ∈ Ts) (hown : s.vm.findClass own = some m.cls) (hK : va_K (mj_dd X) mj_cl (mj_tyl X) s) {idx : Nat} (hd : decode cc pc = .ok (.multianewarray idx 2, 4)) (hx0 : 0 ≤ x ∧ x ≤ 10000) (hy0 : 0 ≤ y ∧ y ≤ 10000) (hcl : (Cond.classLink own idx ("[" ++ (FieldType.array .int).toString)).before args s = true) (hover : (Cond.arrayOver (.array .int)).before args s = true) (harr : (Cond.arrayClass .int).before args s = true) (hn0 : s.heap.size = mj_N X + n0) (h9 : G.1 + 1 + y.toNat ≤ 9000) (hR : G.1 + 1 + y.toNat - n0 ≤ R.cells ∧ G.2.1 + y.toNat + y.toNat * x.toNat - s0 ≤ R.slots)
    (kk : (∀ (H : Heap) (locs : List Loc) (ls : Array Slot), mj_h X s n0 s0 ((mj_newM G y.toNat x.toNat)) ((mj_newMM G y.toNat M)) (L) (.inr (.inl G.1) :: st) H locs ls → W p l e R s m args below meth c H locs (((mj_newM G y.toNat x.toNat)).1 - n0) (((mj_newM G y.toNat x.toNat)).2.1 - s0) Q (F0 m (pc + 4) ls ((.inr (.inl G.1) :: st : List mj_V).map (mj_val X))))) : (∀ (H : Heap) (locs : List Loc) (ls : Array Slot), mj_h X s n0 s0 (G) (M) (L) (.inl x :: .inl y :: st) H locs ls → W p l e R s m args below meth c H locs (G.1 - n0) (G.2.1 - s0) Q (F0 m (pc) ls ((.inl x :: .inl y :: st : List mj_V).map (mj_val X)))) := by
  intro H locs ls h
  obtain ⟨hb1, hb2, hb3⟩ := h.2.2.2.2.2.2.2.1
  refine mj_size hn0 h.1 h.2.1 hb1 (by omega) (fun hsz => ?_)
  have hX : mj_i32 x := (mj_h_2 h).1
  have hY : mj_i32 y := (mj_h_2 h).2.1
  have ead : mj_ad X G.1 = mj_N X + G.1 := if_pos (by omega)
  have ex : (Int32.ofInt x).toNatClampNeg = x.toNat := mj_cl_ hX hx0.1
  have ey : (Int32.ofInt y).toNatClampNeg = y.toNat := mj_cl_ hY hy0.1
  have neg : ∀ {v : Int}, mj_i32 v → 0 ≤ v → ¬ Int32.ofInt v < 0 := fun hv h0 q => by have := (mj_ltI hv mj_z32).mp (by rw [← mj_zero]; exact q); omega
  intro T hT X'
  subst hT
  obtain ⟨vm₁, cA, comp, hW, hfA, hfC, hO, hI, X1, step⟩ := X'.multianewarray2F hx (own := own) (index := idx) (ty := .int) hown hcl hover harr (g := F0 m pc ls ((.inl x :: .inl y :: st : List mj_V).map (mj_val X))) rfl (by rw [hb]; exact hd) (n := Int32.ofInt y) (k := Int32.ofInt x) (rest := st.map (mj_val X)) rfl (neg hY hy0.1) (neg hX hx0.1) (by rw [ey]; omega) (by rw [ex]; show _ * 4 ≤ _; omega) (by rw [ex]; omega) rfl rfl (by rw [ey]; omega) (by rw [ex, ey]; omega)
  rw [ex, ey] at X1
  rw [ex, ey] at step
  obtain ⟨f1, f2, f3, f4⟩ := Jvm.Free.Multi.fill_facts (T.setVm vm₁) cA comp y.toNat x.toNat (defaultValue .int) y.toNat
  have hold : ∀ q, q < T.heap.size → (Jvm.Free.Multi.fill (T.setVm vm₁) cA comp y.toNat x.toNat (defaultValue .int) y.toNat).heap[q]? = T.heap[q]? := fun q hq => Jvm.Free.Multi.fill_old (T.setVm vm₁) cA comp y.toNat x.toNat (defaultValue .int) hq y.toNat
  have hinn := Jvm.Free.Multi.fill_inner (T.setVm vm₁) cA comp y.toNat x.toNat (defaultValue .int) y.toNat
  generalize hT1 : Jvm.Free.Multi.fill (T.setVm vm₁) cA comp y.toNat x.toNat (defaultValue .int) y.toNat = T1 at X1 step f1 f2 hold hinn
  have s0' : (T.setVm vm₁).heap.size = mj_N X + G.1 := hsz
  rw [s0'] at f1 f2 hinn
  have hcA : cA = mj_ca X 3 := by
    have h7 : s.vm.findClass ("[" ++ (FieldType.array .int).toString) = some (mj_ca X 3) := (hK.2 3 _ rfl).2
    rw [hfA] at h7
    exact Option.some.inj h7
  have hcC : comp = mj_ca X 0 := by
    have h7 : s.vm.findClass ("[" ++ FieldType.int.toString) = some (mj_ca X 0) := (hK.2 0 _ rfl).2
    have h8 : (FieldType.array .int).toString = "[" ++ FieldType.int.toString := by decide +kernel
    rw [h8, h7] at hfC
    exact (Option.some.inj hfC).symm
  subst hcA
  subst hcC
  have hP1 : va_P (mj_dd X) mj_cl (mj_ws X (mj_newM G y.toNat x.toNat) (mj_newMM G y.toNat M)) T1.heap := by
    intro k q hq
    have hk : k < G.1 + 1 + y.toNat := by
      have := (List.getElem?_eq_some_iff.mp hq).1
      rw [mj_ws_len] at this
      exact this
    rw [mj_ws_get (show k < (mj_newM G y.toNat x.toNat).1 from hk)] at hq
    cases hq
    have eadk : mj_ad X k = mj_N X + k := if_pos (by omega)
    by_cases h1 : k < G.1
    · have hold' := h.1 k _ (mj_ws_get h1)
      rw [show mj_en X (mj_newM G y.toNat x.toNat) (mj_newMM G y.toNat M) k = mj_en X G M k from mj_en_ext (by unfold mj_newM; dsimp only; rw [if_neg (by omega), if_neg (by omega)]) (by unfold mj_newM; dsimp only; rw [if_neg (by omega)]) (by unfold mj_newMM; rw [if_neg (by omega)])]
      exact hold'.kept (hold _ (hold'.lt))
    · by_cases h2 : k = G.1
      · subst h2
        rw [mj_en_a (ty := .array .int) (n := y.toNat) (by unfold mj_newM; dsimp only; rw [if_pos rfl])]
        show T1.heap[mj_ad X G.1]? = some _
        rw [ead, f2, mj_outer]
        show some (arrV (mj_ca X 3) y.toNat fun j => if j < y.toNat then Value.ref (mj_N X + G.1 + 1 + j) else Value.null) = some (arrV (mj_ca X 3) y.toNat (fun i => va_rf (some (mj_ad X ((mj_newM G y.toNat x.toNat).2.2.2 G.1 i)))))
        congr 1
        unfold arrV
        congr 1
        apply Array.ext
        · simp [mj_arr]
        · intro i hi1 hi2
          have hi : i < y.toNat := by simpa using hi1
          have q1 : mj_ad X (G.1 + 1 + i) = mj_N X + G.1 + 1 + i := by rw [show mj_ad X (G.1 + 1 + i) = mj_N X + (G.1 + 1 + i) from if_pos (by omega)]; omega
          have q2 : (mj_newM G y.toNat x.toNat).2.2.2 G.1 i = G.1 + 1 + i := by simp [mj_newM]
          simp only [Array.getElem_ofFn, q2, va_rf, q1, hi, if_true]
      · obtain ⟨i, rfl⟩ : ∃ i, k = G.1 + 1 + i := ⟨k - G.1 - 1, by omega⟩
        rw [mj_en_a (ty := .int) (n := x.toNat) (by unfold mj_newM; dsimp only; rw [if_neg (by omega), if_pos (by omega)])]
        show T1.heap[mj_ad X (G.1 + 1 + i)]? = some _
        rw [eadk, show mj_N X + (G.1 + 1 + i) = mj_N X + G.1 + 1 + i by omega, hinn i (by omega)]
        unfold Jvm.Free.Multi.innerC
        rw [arrV_new]
        congr 1
        show (arrV (mj_ca X 0) x.toNat fun _ => defaultValue .int) = arrV (mj_ca X 0) x.toNat (fun i' => .int (Int32.ofInt (mj_newMM G y.toNat M (G.1 + 1 + i) i')))
        congr 1
        funext q
        unfold mj_newMM
        rw [if_pos (by omega)]
        rfl
  have hS1 : va_S (mj_A X) s.heap T1.heap locs := ⟨by rw [f1]; have := h.2.1.1; omega, fun q h1 h2 => (hold q (by have := h.2.1.1; omega)).trans (h.2.1.2.1 q h1 h2), h.2.1.2.2⟩
  have k2 := kk T1.heap locs ls (mj_h_new h hP1 hS1 (List.forall_mem_cons.mpr ⟨trivial, (mj_h_2 h).2.2⟩) (by
    intro q i
    unfold mj_newMM
    by_cases hq : G.1 ≤ q ∧ q ≤ G.1 + y.toNat
    · rw [if_pos hq]
      exact ⟨by unfold mj_i64; omega, fun _ => by unfold mj_i32; omega⟩
    · rw [if_neg hq]
      refine ⟨(h.2.2.2.2.2.1 q i).1, fun hl => (h.2.2.2.2.2.1 q i).2 (fun hl2 => hl ?_)⟩
      obtain ⟨w1, n, w2⟩ := hl2
      refine ⟨by show q < G.1 + 1 + y.toNat; omega, n, ?_⟩
      unfold mj_newM
      dsimp only
      rw [if_neg (by omega), if_neg (by omega)]
      exact w2) (by
    intro q hq
    have hq' : q < G.1 + 1 + y.toNat := hq
    unfold mj_newM
    dsimp only
    by_cases h1 : q = G.1
    · rw [if_pos h1]
      exact ⟨Or.inr (Or.inr (Or.inr rfl)), by omega⟩
    · rw [if_neg h1]
      by_cases h2 : G.1 < q ∧ q ≤ G.1 + y.toNat
      · rw [if_pos h2]
        exact ⟨Or.inl rfl, by omega⟩
      · rw [if_neg h2]
        exact h.2.2.2.2.2.2.1 q (by omega)) ⟨by show G.1 ≤ G.1 + 1 + y.toNat; omega, by show G.2.1 ≤ G.2.1 + y.toNat + y.toNat * x.toNat; omega, h9⟩ (fun q hq => by unfold mj_newMM; rw [if_neg (by omega)]))
  have X2 : Stand p l e R s m args below meth c T1 locs ((mj_newM G y.toNat x.toNat).1 - n0) ((mj_newM G y.toNat x.toNat).2.1 - s0) := by
    have e1 : (mj_newM G y.toNat x.toNat).1 - n0 = G.1 - n0 + 1 + y.toNat := by show G.1 + 1 + y.toNat - n0 = _; omega
    have e2 : (mj_newM G y.toNat x.toNat).2.1 - s0 = G.2.1 - s0 + y.toNat + y.toNat * x.toNat := by show G.2.1 + y.toNat + y.toNat * x.toNat - s0 = _; omega
    rw [e1, e2]
    exact X1
  obtain ⟨t, a1, b1⟩ := k2 T1 rfl X2
  refine ⟨t, step t ?_, b1⟩
  rw [show T.heap.size = mj_ad X G.1 by rw [ead]; exact hsz]
  exact a1
end so4
