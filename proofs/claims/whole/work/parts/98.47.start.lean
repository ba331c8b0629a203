/-! THE CLAIM OUT OF ONE WALK OF THE LAW'S BODY. Your part is whole_start (and what it stands on); all else here is the same for every law, but numbers. -/
def R_law : String := "TokenHeartLaw"
def lw_P (b : Addr) (xs : List Int32) (args : Array Value) (s : State) : Prop := args = #[.ref b] ∧ s.IntsAt b xs ∧ xs.length ≤ 2560 ∧ (Jvm.Cond.and given_1 narrow_1).before args s = true
def lw_Q (_ : Array Value) (s : State) (o : Outcome) (t : State) : Prop := o = .returned (some (.int 1)) ∧ Framed s o t [] 600000 7302250
def lw_Z (below : List Frame) (a : Array Value) (s : State) : State → Prop := fun t => ∃ o, t.status = .running ∧ Ended t below o ∧ lw_Q a s o t
/-- the law's own end, with 1 on the stack, nothing written that was there before, its room as the claim has it -/
theorem lw_ret {p : Program} {l : Launch} {e : Env} {s : State} {m : MethodId} {below : List Frame} {meth : Method} {c : Code} {b : Nat} (hx : p.tables.exec = Jvm.exec) (hb : c.code = code) (hr : meth.sig.returnType = ret) (hlocks : meth.locks = false) {pc : Nat} {H : Heap} {ls : Array Slot} (hdg : decode code pc = .ok (.ireturn, 1)) : W p l e room_1 s m #[Value.ref b] below meth c H [] 600000 7302250 (lw_Z below #[Value.ref b] s) (F0 m pc ls [.int 1]) := by
  intro T hT X
  obtain ⟨fs, hret, hrun, hended, hW, hframe⟩ := X.leave (v := some (.int 1)) (hlocks := hlocks) (fun h => by rw [hr] at h; cases h)
  have hmeth' : T.vm.method? m = some meth := X.method'
  refine ⟨T.setFrames fs, ?_, .returned (some (.int 1)), hrun, hended, rfl, ⟨_, rfl⟩, hW, hframe⟩
  jvm_step X.here [X.here.top, hx, hb, hdg, hmeth', hr, ret, narrow_b1]
  (try refine ⟨rfl, ?_⟩); (try refine ⟨rfl, ?_⟩)
  first | (intro acts; rw [hret _ acts rfl rfl rfl]) | rw [hret _ _ rfl rfl rfl]
  exact Steps.refl _
/-- what holds at the law's entry: the machine, the code, the tables' words (any of lw_tbl by 'hts w (by decide +kernel)'), the script of L ints xs at the cell b, what the Statement gives of the start (any of its parts by flat_of_before) -/
def lw_At (p : Program) (s : State) (m : MethodId) (meth : Method) (c : Code) (b L : Nat) (xs : Nat → Int32) : Prop :=
  p.tables.exec = Jvm.exec ∧ c.code = code ∧ meth.sig.returnType = ret ∧ c.maxLocals = 4 ∧ s.vm.findClass R_law = some m.cls ∧ (∀ w ∈ lw_tbl, w.before #[Value.ref b] s = true) ∧ va_X b L xs s s.heap ∧ b < s.heap.size ∧ meth.locks = false ∧ (Jvm.Cond.and given_1 narrow_1).before #[Value.ref b] s = true

/-! the start: what the Statement gives, in the small machine's words -/
theorem lw_hit {p : Nat} {w : Jvm.Cond} (h : decide ((mj_chs.getD (p / 1000) [])[p % 1000]? = some w) = true) : w ∈ lw_tbl := by
  have h1 := List.mem_of_getElem? (of_decide_eq_true h)
  have h2 : mj_chs.getD (p / 1000) [] ∈ mj_chs := by
    rw [List.getD_eq_getElem?_getD] at h1 ⊢
    cases hc : mj_chs[p / 1000]? with
    | none => rw [hc] at h1; cases h1
    | some l => exact List.mem_of_getElem? hc
  exact mj_chs_in _ h2 w h1
theorem lw_K {s : State} {args : Array Value} (hts : ∀ w ∈ lw_tbl, w.before args s = true) : ∃ (dC : Nat → ClassId) (dI : Nat → Nat → Nat) (ca : Nat → ClassId), ∀ (N : Nat) (ax : Nat → Nat) (L : Nat) (xs : Nat → Int32), va_K (mj_dd (dC, dI, ca, N, ax, L, xs)) mj_cl (mj_tyl (dC, dI, ca, N, ax, L, xs)) s := by
  have ht : ∀ w ∈ mj_tb, w.before args s = true := fun w hw => hts w (List.mem_filter.mp hw).1
  have h : ∀ ci : Nat, ∃ q : ClassId × (Nat → Nat), ci < 13 → u_Kn s (mj_cn ci) (mj_F ci) (mj_nf ci) q.1 q.2 := by
    intro ci
    by_cases c : ci < 13
    · obtain ⟨cC, iS, hk⟩ := u_known (C := mj_cn ci) (T := mj_F ci) (N := mj_nf ci) (n := mj_nf ci) ht (mj_U ci c) (ht _ (mj_ins c))
      exact ⟨(cC, iS), fun _ => hk⟩
    · exact ⟨(0, fun _ => 0), fun q => absurd q c⟩
  obtain ⟨D, hD⟩ := Classical.axiomOfChoice h
  have ar : ∀ ty : FieldType, (ty = .int ∨ ty = .boolean ∨ ty = .long) → (Cond.arrayClass ty).before args s = true → ∃ cA, ArrOfT s cA ty ∧ va_RA s cA ty := by
    intro ty hty hb
    obtain ⟨cA, kA, comp, h1, h2, h3⟩ := Cond.arrayClass_spec hb
    refine ⟨cA, fun n z => ⟨fun k h => (by rcases hty with rfl | rfl | rfl <;> cases h), kA, h2, comp, h3⟩, ?_⟩
    rcases hty with rfl | rfl | rfl <;> exact h1
  obtain ⟨c0, a0, r0⟩ := ar .int (Or.inl rfl) (ht _ mj_w5)
  obtain ⟨c1, a1, r1⟩ := ar .boolean (Or.inr (Or.inl rfl)) (ht _ mj_w6)
  obtain ⟨c2, a2, r2⟩ := ar .long (Or.inr (Or.inr rfl)) (ht _ mj_w7)
  have hov : (Cond.arrayOver (.array .int)).before args s = true := hts _ (lw_hit (p := 2164) (by decide +kernel))
  obtain ⟨comp, c3, k3, g1, g2, g3, g4⟩ := Cond.arrayOver_specA (t := .int) hov
  have a3 : ArrOfT s c3 (.array .int) := fun n z => ⟨fun k h => (by cases h), k3, g2, comp, g3⟩
  refine ⟨fun ci => (D ci).1, fun ci => (D ci).2, fun k => if k = 0 then c0 else if k = 1 then c1 else if k = 2 then c2 else c3, fun N ax L xs => ⟨fun ci q hq => ?_, fun k q hk => ?_⟩⟩
  · have hc : ci < 13 := by
      have := (List.getElem?_eq_some_iff.mp hq).1
      simpa [mj_cl] using this
    rw [mj_cl_get hc] at hq
    cases hq
    exact hD ci hc
  · unfold mj_tyl at hk
    match k, hk with
    | 0, hk => cases hk; exact ⟨a0, r0⟩
    | 1, hk => cases hk; exact ⟨a1, r1⟩
    | 2, hk => cases hk; exact ⟨a2, r2⟩
    | 3, hk => cases hk; exact ⟨a3, g4⟩
    | n + 4, hk => cases hk
def lw_tm (i : Nat) : Term := .string "TokenHeart$Script" ([52, 58, 60, 88].getD i 0)
def lw_by : List (List Int32) := mj_schr.map (fun q => q.map Int32.ofInt)
theorem lw_str {s : State} {b : Nat} {A : Nat → Prop} (hs : ∀ w ∈ flatC (Jvm.Cond.and given_1 narrow_1), w.before #[Value.ref b] s = true) (hA : ∀ a : Nat, a < s.heap.size → ¬ A a) :
    ∃ adK adV : Nat → Nat, vk_S 4 mj_slen lw_by adK adV A s s.heap ∧ ∀ i : Nat, i < 4 → (lw_tm i).eval #[Value.ref b] s none [] s = some (.ref (adK i)) := by
  refine vk_Sof (tm := lw_tm) ?_ ?_ ?_ ?_ ?_ ?_ ?_ hA
  · have : ∀ i, i < 4 → mj_slen.getD i 0 < 2 ^ 31 := by decide
    exact this
  · intro i hi
    match i, hi with
    | 0, _ => exact hs _ (by decide +kernel)
    | 1, _ => exact hs _ (by decide +kernel)
    | 2, _ => exact hs _ (by decide +kernel)
    | 3, _ => exact hs _ (by decide +kernel)
    | n + 4, h => exact absurd h (by omega)
  · intro i hi
    match i, hi with
    | 0, _ => exact hs _ (by decide +kernel)
    | 1, _ => exact hs _ (by decide +kernel)
    | 2, _ => exact hs _ (by decide +kernel)
    | 3, _ => exact hs _ (by decide +kernel)
    | n + 4, h => exact absurd h (by omega)
  · intro i hi
    match i, hi with
    | 0, _ => exact hs _ (by decide +kernel)
    | 1, _ => exact hs _ (by decide +kernel)
    | 2, _ => exact hs _ (by decide +kernel)
    | 3, _ => exact hs _ (by decide +kernel)
    | n + 4, h => exact absurd h (by omega)
  · intro i hi
    match i, hi with
    | 0, _ => exact hs _ (by decide +kernel)
    | 1, _ => exact hs _ (by decide +kernel)
    | 2, _ => exact hs _ (by decide +kernel)
    | 3, _ => exact hs _ (by decide +kernel)
    | n + 4, h => exact absurd h (by omega)
  · intro i hi j hj
    match i, hi with
    | 0, _ =>
      match j, hj with
      | 0, _ => exact hs _ (by decide +kernel)
      | 1, _ => exact hs _ (by decide +kernel)
      | 2, _ => exact hs _ (by decide +kernel)
      | 3, _ => exact hs _ (by decide +kernel)
      | n + 4, h => exact absurd (show n + 4 < 4 from h) (by omega)
    | 1, _ =>
      match j, hj with
      | 0, _ => exact hs _ (by decide +kernel)
      | 1, _ => exact hs _ (by decide +kernel)
      | 2, _ => exact hs _ (by decide +kernel)
      | 3, _ => exact hs _ (by decide +kernel)
      | 4, _ => exact hs _ (by decide +kernel)
      | n + 5, h => exact absurd (show n + 5 < 5 from h) (by omega)
    | 2, _ =>
      match j, hj with
      | 0, _ => exact hs _ (by decide +kernel)
      | 1, _ => exact hs _ (by decide +kernel)
      | 2, _ => exact hs _ (by decide +kernel)
      | 3, _ => exact hs _ (by decide +kernel)
      | 4, _ => exact hs _ (by decide +kernel)
      | n + 5, h => exact absurd (show n + 5 < 5 from h) (by omega)
    | 3, _ =>
      match j, hj with
      | 0, _ => exact hs _ (by decide +kernel)
      | 1, _ => exact hs _ (by decide +kernel)
      | 2, _ => exact hs _ (by decide +kernel)
      | 3, _ => exact hs _ (by decide +kernel)
      | n + 4, h => exact absurd (show n + 4 < 4 from h) (by omega)
    | n + 4, h => exact absurd h (by omega)
  · intro i j hi hj hij
    match i, hi with
    | 0, _ =>
      match j, hj with
      | 0, _ => exact absurd rfl hij
      | 1, _ => exact Or.inl (hs _ (by decide +kernel))
      | 2, _ => exact Or.inl (hs _ (by decide +kernel))
      | 3, _ => exact Or.inl (hs _ (by decide +kernel))
      | n + 4, h => exact absurd h (by omega)
    | 1, _ =>
      match j, hj with
      | 0, _ => exact Or.inr (hs _ (by decide +kernel))
      | 1, _ => exact absurd rfl hij
      | 2, _ => exact Or.inl (hs _ (by decide +kernel))
      | 3, _ => exact Or.inr (hs _ (by decide +kernel))
      | n + 4, h => exact absurd h (by omega)
    | 2, _ =>
      match j, hj with
      | 0, _ => exact Or.inr (hs _ (by decide +kernel))
      | 1, _ => exact Or.inr (hs _ (by decide +kernel))
      | 2, _ => exact absurd rfl hij
      | 3, _ => exact Or.inr (hs _ (by decide +kernel))
      | n + 4, h => exact absurd h (by omega)
    | 3, _ =>
      match j, hj with
      | 0, _ => exact Or.inr (hs _ (by decide +kernel))
      | 1, _ => exact Or.inl (hs _ (by decide +kernel))
      | 2, _ => exact Or.inl (hs _ (by decide +kernel))
      | 3, _ => exact absurd rfl hij
      | n + 4, h => exact absurd h (by omega)
    | n + 4, h => exact absurd h (by omega)
theorem lw_sf {s : State} {b L : Nat} {xs : Nat → Int32} (hts : ∀ w ∈ lw_tbl, w.before #[Value.ref b] s = true) (hgv : (Jvm.Cond.and given_1 narrow_1).before #[Value.ref b] s = true) (hX : va_X b L xs s s.heap) (hbl : b < s.heap.size) :
    ∃ X : mj_Cx, mj_N X = s.heap.size ∧ mj_L X = L ∧ mj_xs X = xs ∧ mj_ax X 9000 = b ∧ mj_sf_q X s := by
  have hs := flat_of_before _ hgv
  have hA : ∀ a : Nat, a < s.heap.size → ¬ (fun q => s.heap.size ≤ q) a := fun a h q => absurd h (Nat.not_lt.mpr q)
  obtain ⟨dC, dI, ca, hK⟩ := lw_K hts
  have ht : ∀ w ∈ mj_tb, w.before #[Value.ref b] s = true := fun w hw => hts w (List.mem_filter.mp hw).1
  obtain ⟨t, ht1, hT⟩ := va_Tof (tm := .static "TokenHeart" "PRICE" "[I") (ty := .int) (N := 6) (f := fun j => .int (Int32.ofInt (mj_prc.getD j 0))) (A := fun q => s.heap.size ≤ q) (by decide) (hs _ (by decide +kernel)) (va_eqt (hs (.eq (.length (.static "TokenHeart" "PRICE" "[I")) (.int (Int32.ofNat 6))) (by decide +kernel))) (fun j hj => by
    match j, hj with
    | 0, _ => exact va_eqt (hs (.eq (.elem (.static "TokenHeart" "PRICE" "[I") (.int (Int32.ofNat 0))) (.int (Int32.ofInt (mj_prc.getD 0 0)))) (by decide +kernel))
    | 1, _ => exact va_eqt (hs (.eq (.elem (.static "TokenHeart" "PRICE" "[I") (.int (Int32.ofNat 1))) (.int (Int32.ofInt (mj_prc.getD 1 0)))) (by decide +kernel))
    | 2, _ => exact va_eqt (hs (.eq (.elem (.static "TokenHeart" "PRICE" "[I") (.int (Int32.ofNat 2))) (.int (Int32.ofInt (mj_prc.getD 2 0)))) (by decide +kernel))
    | 3, _ => exact va_eqt (hs (.eq (.elem (.static "TokenHeart" "PRICE" "[I") (.int (Int32.ofNat 3))) (.int (Int32.ofInt (mj_prc.getD 3 0)))) (by decide +kernel))
    | 4, _ => exact va_eqt (hs (.eq (.elem (.static "TokenHeart" "PRICE" "[I") (.int (Int32.ofNat 4))) (.int (Int32.ofInt (mj_prc.getD 4 0)))) (by decide +kernel))
    | 5, _ => exact va_eqt (hs (.eq (.elem (.static "TokenHeart" "PRICE" "[I") (.int (Int32.ofNat 5))) (.int (Int32.ofInt (mj_prc.getD 5 0)))) (by decide +kernel))
    | n + 6, h => exact absurd h (by omega)) hA
  obtain ⟨adK, adV, hvS, hvE⟩ := lw_str (A := fun q => s.heap.size ≤ q) hs hA
  obtain ⟨scr, q1, q2, q3, q4, q5⟩ := hX
  have hc1 : va_Z "java/lang/String" "COMPACT_STRINGS" "Z" (.int 1) (fun q => s.heap.size ≤ q) s s.heap := va_Zof (hts _ (lw_hit (p := 5167) (by decide +kernel))) (ht _ sw_iS) (va_eqt (hs (.eq (.static "java/lang/String" "COMPACT_STRINGS" "Z") (.int 1)) (by decide +kernel))) hA
  have hc2 : va_Zq "jdk/internal/util/Preconditions" "SIOOBE_FORMATTER" "Ljava/util/function/BiFunction;" (fun q => s.heap.size ≤ q) s s.heap := va_Zqof (hts _ (lw_hit (p := 5183) (by decide +kernel))) (ht _ sw_iP) (hs _ (by decide +kernel)) hA
  have hp : va_Z "TokenHeart" "PRICE" "[I" (.ref t) (fun q => s.heap.size ≤ q) s s.heap := va_Zof (hts _ (lw_hit (p := 3127) (by decide +kernel))) (hts _ (lw_hit (p := 1001) (by decide +kernel))) ht1 hA
  have nw : ∀ {w : Jvm.Cond}, w.onTables = true → w ∈ lw_tbl → va_Nw w s := fun h1 h2 => va_Nw.of h1 (hts _ h2)
  refine ⟨(dC, dI, ca, s.heap.size, fun a => if a = 9000 then b else if a = 9001 then t else adK (a - 9010), L, xs), rfl, rfl, rfl, rfl, hK _ _ _ _, ?_, hT, hp, ⟨nw rfl (lw_hit (p := 3126) (by decide +kernel)), nw rfl (lw_hit (p := 3215) (by decide +kernel))⟩, ⟨nw rfl (lw_hit (p := 1161) (by decide +kernel)), nw rfl (lw_hit (p := 1239) (by decide +kernel))⟩, (show (Cond.arrayOver (.array .int)).before #[Value.ref b] s = true from hts _ (lw_hit (p := 2164) (by decide +kernel))),
    ⟨vk_R.of (hts _ (lw_hit (p := 5149) (by decide +kernel))) (hvE 0 (by omega)), vk_R.of (hts _ (lw_hit (p := 5223) (by decide +kernel))) (hvE 1 (by omega)), vk_R.of (hts _ (lw_hit (p := 5224) (by decide +kernel))) (hvE 2 (by omega)), vk_R.of (hts _ (lw_hit (p := 5222) (by decide +kernel))) (hvE 3 (by omega))⟩, adV, ?_, hc1, hc2⟩
  · exact ⟨scr, q1, q2, q3, Nat.le_of_eq q4.symm, by rw [q4]; rfl, q5, fun q => absurd hbl (Nat.not_lt.mpr q)⟩
  · have e : (fun i => (if 9010 + i = 9000 then b else if 9010 + i = 9001 then t else adK (9010 + i - 9010))) = adK := by
      funext i
      rw [if_neg (by omega), if_neg (by omega), Nat.add_sub_cancel_left]
    show vk_S 4 mj_slen lw_by (fun i => (if 9010 + i = 9000 then b else if 9010 + i = 9001 then t else adK (9010 + i - 9010))) adV (fun q => s.heap.size ≤ q) s s.heap
    rw [e]
    exact hvS
/-- the small machine's numbers at the start -/
def lw_M0 (L : Nat) (xs : Nat → Int32) : mj_M := fun a i => if a = 9000 then (xs i).toInt else if a = 9001 then mj_prc.getD i 0 else if a = 9002 then (L : Int) else 0
theorem lw_M0_rng {L : Nat} {xs : Nat → Int32} (hL : L ≤ 2560) (a i : Nat) : mj_i32 (lw_M0 L xs a i) := by
  unfold lw_M0
  split
  · exact mj_i32_t _
  · split
    · have h : ∀ k, k < 6 → mj_i32 (mj_prc.getD k 0) := by unfold mj_i32; decide
      by_cases c : i < 6
      · exact h i c
      · have e : mj_prc.getD i 0 = 0 := by
          rw [List.getD_eq_getElem?_getD, List.getElem?_eq_none (by show 6 ≤ i; omega)]; rfl
        rw [e]; exact mj_z32
    · split
      · unfold mj_i32; omega
      · exact mj_z32
theorem lw_eL : mj_ent 287 [.inr (.inl 9000)] = [.inr (.inl 9000), .inr (.inr 0), .inr (.inr 0), .inr (.inr 0)] := by
  unfold mj_ent
  rw [show mj_ml 287 = 4 from by decide +kernel]
  rfl
theorem lw_by287 : mj_by 287 = code := rfl
theorem whole_start {p : Program} {e : Env} {s : State} {m : MethodId} {below : List Frame} {meth : Method} {c : Code} (l : Launch) (hflags : l.flags = flags0) {b L : Nat} {xs : Nat → Int32} (hL : L ≤ 2560) (C0 : lw_At p s m meth c b L xs) : W p l e room_1 s m #[Value.ref b] below meth c s.heap [] 0 0 (lw_Z below #[Value.ref b] s) (entryFrame m ([Value.ref b] : List Value).toArray 4) := by
  obtain ⟨hx, hcode, hret, hml, hown, hts, hX, hbl, hlk, hgv⟩ := C0
  obtain ⟨X, x1, x2, x3, x4, hsf⟩ := lw_sf hts hgv hX hbl
  have z0 : ∀ a, a < 9000 → lw_M0 L xs a = fun _ => 0 := fun a ha => by
    funext i
    unfold lw_M0
    rw [if_neg (by omega), if_neg (by omega), if_neg (by omega)]
  have zP : ∀ k : Nat, k < 6 → lw_M0 L xs 9001 k = m_ro k := by
    have h : ∀ k : Nat, k < 6 → mj_prc.getD k 0 = m_ro k := by unfold m_ro; decide
    exact h
  have hmain := lw_main (d := 799) (S := fun j => (xs j).toInt) (L := (L : Int)) (M0 := lw_M0 L xs) z0 zP rfl rfl (fun j => mj_i32_t _) (by omega)
  obtain ⟨f, r, G', M', hgo, rfl, x', rfl⟩ := hmain
  have hl1 := lv_entry ([Value.ref b] : List Value) (n := 4) (Nat.le_of_ble_eq_true rfl)
  rw [lg_entry_eq]
  generalize (lg_sl [Value.ref b] ++ List.replicate (4 - (lg_sl [Value.ref b]).length) Slot.unset).toArray = ls at hl1 ⊢
  have vb : mj_val X (.inr (.inl 9000)) = Value.ref b := by
    show Value.ref (mj_ad X 9000) = _
    rw [show mj_ad X 9000 = mj_ax X 9000 from if_neg (by omega), x4]
  have ml4 : mj_ml 287 = 4 := by decide +kernel
  have hlr := mj_lr_ent_q (X := X) (k := 287) (as := [.inr (.inl 9000)]) (ls := ls) (by rw [ml4, List.map_cons, List.map_nil, vb]; exact hl1) (by intro v hv; rw [List.mem_singleton.mp hv]; rfl) (by rw [ml4]; show 1 ≤ 4; omega)
  rw [lw_eL] at hlr
  have F : mj_Fx_q p s m #[Value.ref b] meth c X 287 := ⟨hx, by rw [hcode, lw_by287], by rw [hml, ml4], by rw [show mj_own 287 = R_law from by decide +kernel]; exact hown, fun w hw => hts w (List.mem_filter.mp hw).1, hsf, fun h => absurd h (by decide +kernel), by decide +kernel⟩
  have hh : mj_h X s 0 0 (0, 0, sgD, sgR) (lw_M0 L xs) [.inr (.inl 9000), .inr (.inr 0), .inr (.inr 0), .inr (.inr 0)] [] s.heap [] ls := by
    refine ⟨fun k q hq => ?_, va_S.rf, hlr.1, fun v hv => (by cases hv), fun v hv => ?_, fun a i => ?_, fun a ha => absurd ha (Nat.not_lt_zero a), ⟨Nat.le_refl _, Nat.le_refl _, Nat.zero_le _⟩, ?_⟩
    · have := (List.getElem?_eq_some_iff.mp hq).1
      rw [mj_ws_len] at this
      exact absurd this (Nat.not_lt_zero k)
    · simp only [List.mem_cons, List.not_mem_nil, or_false] at hv
      rcases hv with rfl | rfl | rfl | rfl
      · trivial
      · show mj_i64 0; unfold mj_i64; omega
      · show mj_i64 0; unfold mj_i64; omega
      · show mj_i64 0; unfold mj_i64; omega
    · have h := lw_M0_rng (xs := xs) hL a i
      exact ⟨by unfold mj_i32 at h; unfold mj_i64; omega, fun _ => h⟩
    · refine ⟨fun j _ => by rw [x3]; rfl, by rw [x2]; rfl, by rw [x2]; omega, fun j _ => rfl⟩
  refine mj_sound_q so_slen so_schr f hgo hlr.2 (show 185 ≤ 9000 by omega) F (by rw [x1]; rfl) ⟨show 1000 + 8 ≤ 2048 by omega, show 64 * (1000 + 8) ≤ 84000 by omega, show 185 - 0 ≤ 600000 by omega, show 51662 - 0 ≤ 7302250 by omega⟩ ?_ s.heap [] ls hh
  intro H locs ls' pc' n i L' hd hm hi hh2
  rcases hi with ⟨rfl, x, hxr, hx2⟩ | ⟨-, hr0, -⟩
  · have hn : n = 1 := by simpa [mj_sem] using hm
    subst hn
    rw [lw_by287] at hd
    have e1 : ((some (.inl 1) : Option mj_V).toList.map (mj_val X)) = [Value.int 1] := by
      show [Value.int (Int32.ofInt 1)] = _
      rw [show Int32.ofInt 1 = 1 from by decide]
    rw [e1]
    refine va_forget (fun q hq => ?_) (W.widen (show 185 - 0 ≤ 600000 by omega) (show 51662 - 0 ≤ 7302250 by omega) (lw_ret hx hcode hret hlk hd))
    have h7 : mj_N X ≤ q.base := hh2.2.1.2.2 q hq
    rw [x1] at h7
    exact h7
  · cases hr0

