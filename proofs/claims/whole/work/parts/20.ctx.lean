/-! the machine's words for the small machine: addresses, values, the heap -/
/-- classes of the tables; the cells' slots; array classes (int, boolean, long, int[]); the first address; addresses of what is read alone; the script's length and ints -/
abbrev mj_Cx := (Nat → ClassId) × (Nat → Nat → Nat) × (Nat → ClassId) × Nat × (Nat → Nat) × Nat × (Nat → Int32)
def mj_dd (X : mj_Cx) : va_G := (X.1, X.2.1)
def mj_ca (X : mj_Cx) : Nat → ClassId := X.2.2.1
def mj_N (X : mj_Cx) : Nat := X.2.2.2.1
def mj_ax (X : mj_Cx) : Nat → Nat := X.2.2.2.2.1
def mj_L (X : mj_Cx) : Nat := X.2.2.2.2.2.1
def mj_xs (X : mj_Cx) : Nat → Int32 := X.2.2.2.2.2.2
def mj_ad (X : mj_Cx) (a : Nat) : Nat := if a < 9000 then mj_N X + a else mj_ax X a
def mj_cn (ci : Nat) : String := (mj_cls.getD ci ("", [])).1
def mj_F (ci : Nat) : u_T := fun j => (mj_cn ci, (((mj_cls.getD ci ("", [])).2).getD j ("", "", false)).1, (((mj_cls.getD ci ("", [])).2).getD j ("", "", false)).2.1, (((mj_cls.getD ci ("", [])).2).getD j ("", "", false)).2.2)
def mj_cl : List vw_C := (List.range 13).map fun ci => (mj_cn ci, mj_F ci, mj_nf ci)
def mj_tyl (X : mj_Cx) : List (ClassId × FieldType) := [(mj_ca X 0, .int), (mj_ca X 1, .boolean), (mj_ca X 2, .long), (mj_ca X 3, .array .int)]
def mj_tn : FieldType → Nat
  | .int => 0
  | .boolean => 1
  | .long => 2
  | _ => 3
def mj_val (X : mj_Cx) : mj_V → Value
  | .inl x => .int (Int32.ofInt x)
  | .inr (.inl a) => .ref (mj_ad X a)
  | .inr (.inr x) => .long (Int64.ofInt x)
def mj_fv (X : mj_Cx) (G : mj_G) (M : mj_M) (a ci j : Nat) : Value := if (mj_ff ci j).1 = 2 then (if G.2.2.2 a j = 9999 then .null else .ref (mj_ad X (G.2.2.2 a j))) else .int (Int32.ofInt (M a j))
def mj_arr (X : mj_Cx) (ty : FieldType) (n : Nat) (f : Nat → Int) (r : Nat → Nat) : vp_A := (n, match ty with
  | .long => .inr (.inl fun i => Int64.ofInt (f i))
  | .array _ => .inr (.inr (.inr (.inr fun i => some (mj_ad X (r i)))))
  | _ => .inl fun i => Int32.ofInt (f i))
def mj_en (X : mj_Cx) (G : mj_G) (M : mj_M) (a : Nat) : va_E := match G.2.2.1 a with
  | .inl ci => .inr (ci, (List.range (mj_nf ci)).map (mj_fv X G M a ci))
  | .inr (ty, n) => .inl (mj_ca X (mj_tn ty), mj_arr X ty n (M a) (G.2.2.2 a))
def mj_ws (X : mj_Cx) (G : mj_G) (M : mj_M) : va_W := (List.range G.1).map fun a => (mj_ad X a, mj_en X G M a)
abbrev mj_A (X : mj_Cx) : Nat → Prop := fun q => mj_N X ≤ q
abbrev mj_i32 (x : Int) : Prop := -2147483648 ≤ x ∧ x < 2147483648
abbrev mj_i64 (x : Int) : Prop := -9223372036854775808 ≤ x ∧ x < 9223372036854775808
def mj_ok : mj_V → Prop
  | .inl x => mj_i32 x
  | .inr (.inl _) => True
  | .inr (.inr x) => mj_i64 x
def mj_isL (G : mj_G) (a : Nat) : Prop := a < G.1 ∧ ∃ n, G.2.2.1 a = .inr (.long, n)
def mj_rng (G : mj_G) (M : mj_M) : Prop := ∀ a i, mj_i64 (M a i) ∧ (¬ mj_isL G a → mj_i32 (M a i))
def mj_dok : mj_D → Prop
  | .inl ci => ci < 13
  | .inr (ty, n) => (ty = .int ∨ ty = .boolean ∨ ty = .long ∨ ty = .array .int) ∧ n ≤ 10000
def mj_shp (G : mj_G) : Prop := ∀ a, a < G.1 → mj_dok (G.2.2.1 a)
def mj_prc : List Int := [10, 40, 5, 3, 2, 1]
def mj_ro (X : mj_Cx) (M : mj_M) : Prop := (∀ j, j < mj_L X → M 9000 j = (mj_xs X j).toInt) ∧ M 9002 0 = mj_L X ∧ mj_L X < 2147483648 ∧ ∀ j, j < 6 → M 9001 j = mj_prc.getD j 0
def mj_lr (X : mj_Cx) (ls : Array Slot) (L : List mj_V) : Prop := ls.size = L.length ∧ lv_wf ls ∧ ∀ (i : Nat) (v : mj_V), L[i]? = some v → mj_lng v = false → ls[i]? = some (.val (mj_val X v))
/-- what holds at a point of a walk -/
def mj_h (X : mj_Cx) (s : State) (n0 s0 : Nat) (G : mj_G) (M : mj_M) (L st : List mj_V) (H : Heap) (locs : List Loc) (ls : Array Slot) : Prop :=
  va_P (mj_dd X) mj_cl (mj_ws X G M) H ∧ va_S (mj_A X) s.heap H locs ∧ mj_lr X ls L ∧ (∀ v ∈ st, mj_ok v) ∧ (∀ v ∈ L, mj_ok v) ∧ mj_rng G M ∧ mj_shp G ∧ (n0 ≤ G.1 ∧ s0 ≤ G.2.1 ∧ G.1 ≤ 9000) ∧ mj_ro X M
-- numbers
theorem mj_toI {x : Int} (h : mj_i32 x) : (Int32.ofInt x).toInt = x := by
  rw [Int32.toInt_ofInt]; grind
theorem mj_toL {x : Int} (h : mj_i64 x) : (Int64.ofInt x).toInt = x := by
  rw [Int64.toInt_ofInt]; grind
theorem mj_i32_t (x : Int32) : mj_i32 x.toInt := ⟨Int32.le_toInt x, Int32.toInt_lt x⟩
theorem mj_i64_t (x : Int64) : mj_i64 x.toInt := ⟨Int64.le_toInt x, Int64.toInt_lt x⟩
theorem mj_w_in (x : Int) : mj_i32 (mj_w x) := by unfold mj_w mj_i32; grind
theorem mj_w_id {x : Int} (h : mj_i32 x) : mj_w x = x := by unfold mj_w; grind
theorem mj_of_t (x : Int32) : Int32.ofInt x.toInt = x := Int32.ofInt_toInt x
theorem mj_of_tl (x : Int64) : Int64.ofInt x.toInt = x := Int64.ofInt_toInt x
theorem mj_w_of {x : Int} {y : Int32} (h : y.toInt = mj_w x) : Int32.ofInt (mj_w x) = y := by rw [← h]; exact mj_of_t y
theorem mj_add (x y : Int) : Int32.ofInt (mj_w (x + y)) = Int32.ofInt x + Int32.ofInt y := mj_w_of (by rw [Int32.toInt_add, Int32.toInt_ofInt, Int32.toInt_ofInt]; unfold mj_w; grind)
theorem mj_sub (x y : Int) : Int32.ofInt (mj_w (x - y)) = Int32.ofInt x - Int32.ofInt y := mj_w_of (by rw [Int32.toInt_sub, Int32.toInt_ofInt, Int32.toInt_ofInt]; unfold mj_w; grind)
theorem mj_mul (x y : Int) : Int32.ofInt (mj_w (x * y)) = Int32.ofInt x * Int32.ofInt y := mj_w_of (by rw [Int32.toInt_mul, Int32.toInt_ofInt, Int32.toInt_ofInt]; unfold mj_w; simp)
theorem mj_neg (x : Int) : Int32.ofInt (mj_w (-x)) = - Int32.ofInt x := mj_w_of (by rw [Int32.toInt_neg, Int32.toInt_ofInt]; unfold mj_w; grind)
theorem mj_div {x y : Int} (hx : mj_i32 x) (hy : mj_i32 y) : Int32.ofInt (mj_w (x.tdiv y)) = Int32.ofInt x / Int32.ofInt y := mj_w_of (by rw [Int32.toInt_div, mj_toI hx, mj_toI hy]; rfl)
theorem mj_tmod_in {x y : Int} (hx : mj_i32 x) : mj_i32 (x.tmod y) := by
  have h4 : (x.tmod y).natAbs ≤ x.natAbs := by rw [Int.natAbs_tmod]; exact Nat.mod_le _ _
  unfold mj_i32 at *
  rcases Int.lt_or_le x 0 with h | h
  · have h2 : (-x).tmod y = - x.tmod y := Int.neg_tmod x y
    have h3 : 0 ≤ (-x).tmod y := Int.tmod_nonneg y (by omega)
    omega
  · have h3 : 0 ≤ x.tmod y := Int.tmod_nonneg y h
    omega
theorem mj_rem {x y : Int} (hx : mj_i32 x) (hy : mj_i32 y) : Int32.ofInt (x.tmod y) = Int32.ofInt x - Int32.ofInt x / Int32.ofInt y * Int32.ofInt y := by
  have h1 : x.tmod y = x - y * x.tdiv y := Int.tmod_def x y
  rw [← mj_div hx hy, ← mj_mul, ← mj_sub, ← mj_w_id (mj_tmod_in (y := y) hx)]
  congr 1
  unfold mj_w
  rw [h1]
  simp only [Int.sub_bmod_bmod, Int.bmod_mul_bmod]
  rw [Int.mul_comm]
theorem mj_eqI {x y : Int} (hx : mj_i32 x) (hy : mj_i32 y) : Int32.ofInt x = Int32.ofInt y ↔ x = y := ⟨fun h => by rw [← mj_toI hx, ← mj_toI hy, h], fun h => by rw [h]⟩
theorem mj_ltI {x y : Int} (hx : mj_i32 x) (hy : mj_i32 y) : Int32.ofInt x < Int32.ofInt y ↔ x < y := by rw [Int32.lt_iff_toInt_lt, mj_toI hx, mj_toI hy]
theorem mj_leI {x y : Int} (hx : mj_i32 x) (hy : mj_i32 y) : Int32.ofInt x ≤ Int32.ofInt y ↔ x ≤ y := by rw [Int32.le_iff_toInt_le, mj_toI hx, mj_toI hy]
theorem mj_zero : (0 : Int32) = Int32.ofInt 0 := by decide
theorem mj_z32 : mj_i32 0 := by unfold mj_i32; omega
theorem mj_ix {x : Int} {n : Nat} (hx : mj_i32 x) (h : 0 ≤ x ∧ x < n) : vp_in (Int32.ofInt x) n := by rw [vp_in_iff, mj_toI hx]; exact h
theorem mj_cl_ {x : Int} (hx : mj_i32 x) (h : 0 ≤ x) : (Int32.ofInt x).toNatClampNeg = x.toNat := by
  rw [← Int32.toNat_toInt, mj_toI hx]
-- the world as a list
theorem mj_ws_get {X : mj_Cx} {G : mj_G} {M : mj_M} {a : Nat} (h : a < G.1) : (mj_ws X G M)[a]? = some (mj_ad X a, mj_en X G M a) := by
  simp [mj_ws, h]
theorem mj_ws_len {X : mj_Cx} {G : mj_G} {M : mj_M} : (mj_ws X G M).length = G.1 := by simp [mj_ws]
theorem mj_ws_set {X : mj_Cx} {G G' : mj_G} {M M' : mj_M} {a : Nat} {e : va_E} (hn : G'.1 = G.1) (he : mj_en X G' M' a = e) (ho : ∀ b, b < G.1 → b ≠ a → mj_en X G' M' b = mj_en X G M b) : (mj_ws X G M).set a (mj_ad X a, e) = mj_ws X G' M' := by
  apply List.ext_getElem?
  intro i
  by_cases hi : i < G.1
  · rw [mj_ws_get (G := G') (by omega)]
    by_cases h : i = a
    · subst h
      rw [List.getElem?_set_self (by rw [mj_ws_len]; exact hi), he]
    · rw [List.getElem?_set_ne (Ne.symm h), mj_ws_get hi, ho i hi h]
  · rw [List.getElem?_eq_none (by rw [List.length_set, mj_ws_len]; omega), List.getElem?_eq_none (by rw [mj_ws_len]; omega)]
theorem mj_ws_push {X : mj_Cx} {G G' : mj_G} {M M' : mj_M} {e : va_E} (hn : G'.1 = G.1 + 1) (he : mj_en X G' M' G.1 = e) (ho : ∀ b, b < G.1 → mj_en X G' M' b = mj_en X G M b) : mj_ws X G M ++ [(mj_ad X G.1, e)] = mj_ws X G' M' := by
  apply List.ext_getElem?
  intro i
  by_cases hi : i < G.1
  · rw [mj_ws_get (G := G') (by omega), List.getElem?_append_left (by rw [mj_ws_len]; exact hi), mj_ws_get hi, ho i hi]
  · by_cases h : i = G.1
    · subst h
      rw [mj_ws_get (G := G') (by omega), List.getElem?_append_right (by rw [mj_ws_len]; omega), mj_ws_len, Nat.sub_self, he]
      rfl
    · rw [List.getElem?_eq_none (by rw [List.length_append, mj_ws_len, List.length_singleton]; omega), List.getElem?_eq_none (by rw [mj_ws_len]; omega)]
theorem mj_ws_D {X : mj_Cx} {G : mj_G} {M : mj_M} (h : G.1 ≤ 9000) : va_D (mj_A X) (mj_ws X G M) := by
  have lt : ∀ {k : Nat} {q : Nat × va_E}, (mj_ws X G M)[k]? = some q → k < G.1 ∧ q.1 = mj_N X + k := by
    intro k q hk
    have h1 := (List.getElem?_eq_some_iff.mp hk).1
    rw [mj_ws_len] at h1
    rw [mj_ws_get h1] at hk
    cases hk
    exact ⟨h1, if_pos (by omega)⟩
  refine ⟨fun i j p q hi hj hpq => ?_, fun k q hk => ?_⟩
  · have h1 := lt hi
    have h2 := lt hj
    omega
  · have h1 := lt hk
    show mj_N X ≤ q.1
    omega
theorem mj_cl_get {ci : Nat} (h : ci < 13) : mj_cl[ci]? = some (mj_cn ci, mj_F ci, mj_nf ci) := by simp [mj_cl, h]
theorem mj_fs_get {X : mj_Cx} {G : mj_G} {M : mj_M} {a ci j : Nat} (h : j < mj_nf ci) : ((List.range (mj_nf ci)).map (mj_fv X G M a ci))[j]? = some (mj_fv X G M a ci j) := by simp [h]
theorem mj_isO_ok {G : mj_G} {a ci : Nat} (h : mj_isO G a ci = true) : a < G.1 ∧ G.2.2.1 a = .inl ci := by
  unfold mj_isO at h
  rw [Bool.and_eq_true] at h
  obtain ⟨h1, h2⟩ := h
  refine ⟨of_decide_eq_true h1, ?_⟩
  cases hs : G.2.2.1 a with
  | inl c => rw [hs] at h2; simp at h2; rw [h2]
  | inr q => rw [hs] at h2; cases h2
theorem mj_ty_ok {G : mj_G} {ty : FieldType} {a n : Nat} (h : mj_ty G ty a = some n) : a < G.1 ∧ G.2.2.1 a = .inr (ty, n) := by
  unfold mj_ty at h
  by_cases h1 : a < G.1
  · rw [if_pos h1] at h
    refine ⟨h1, ?_⟩
    cases hs : G.2.2.1 a with
    | inl c => rw [hs] at h; cases h
    | inr q =>
      obtain ⟨t, m⟩ := q
      rw [hs] at h
      dsimp only at h
      by_cases h2 : t = ty
      · rw [if_pos h2] at h; cases h; rw [h2]
      · rw [if_neg h2] at h; cases h
  · rw [if_neg h1] at h; cases h
theorem mj_en_o {X : mj_Cx} {G : mj_G} {M : mj_M} {a ci : Nat} (h : G.2.2.1 a = .inl ci) : mj_en X G M a = .inr (ci, (List.range (mj_nf ci)).map (mj_fv X G M a ci)) := by unfold mj_en; rw [h]
theorem mj_en_a {X : mj_Cx} {G : mj_G} {M : mj_M} {a n : Nat} {ty : FieldType} (h : G.2.2.1 a = .inr (ty, n)) : mj_en X G M a = .inl (mj_ca X (mj_tn ty), mj_arr X ty n (M a) (G.2.2.2 a)) := by unfold mj_en; rw [h]
theorem mj_en_ext {X : mj_Cx} {G G' : mj_G} {M M' : mj_M} {b : Nat} (hs : G'.2.2.1 b = G.2.2.1 b) (hp : G'.2.2.2 b = G.2.2.2 b) (hm : M' b = M b) : mj_en X G' M' b = mj_en X G M b := by
  unfold mj_en
  rw [hs, hp, hm]
  cases G.2.2.1 b with
  | inl ci =>
    dsimp only
    congr 3
    funext j
    unfold mj_fv
    rw [hp, hm]
  | inr q => rfl
theorem mj_up_ne {M : mj_M} {a b i : Nat} {v : Int} (h : b ≠ a) : mj_up M a i v b = M b := by funext j; simp [mj_up, h]
theorem mj_up_eq {M : mj_M} {a i : Nat} {v : Int} : mj_up M a i v a = fun j => if j = i then v else M a j := by funext j; simp [mj_up]
theorem mj_upP_ne {P : Nat → Nat → Nat} {a b i v : Nat} (h : b ≠ a) : mj_upP P a i v b = P b := by funext j; simp [mj_upP, h]
theorem mj_upP_eq {P : Nat → Nat → Nat} {a i v : Nat} : mj_upP P a i v a = fun j => if j = i then v else P a j := by funext j; simp [mj_upP]
-- locals
def mj_asc (X : mj_Cx) (L : List mj_V) : List (Nat × Value) := (List.range L.length).filterMap fun i => match L[i]? with
  | some v => if mj_lng v = false then some (i, mj_val X v) else none
  | none => none
theorem mj_asc_mem {X : mj_Cx} {L : List mj_V} {q : Nat × Value} : q ∈ mj_asc X L ↔ ∃ v, L[q.1]? = some v ∧ mj_lng v = false ∧ q.2 = mj_val X v := by
  unfold mj_asc
  rw [List.mem_filterMap]
  constructor
  · rintro ⟨i, -, h⟩
    cases hv : L[i]? with
    | none => rw [hv] at h; cases h
    | some v =>
      rw [hv] at h
      dsimp only at h
      by_cases hl : mj_lng v = false
      · rw [if_pos hl] at h; cases h; exact ⟨v, hv, hl, rfl⟩
      · rw [if_neg hl] at h; cases h
  · rintro ⟨v, h1, h2, h3⟩
    refine ⟨q.1, List.mem_range.mpr (List.getElem?_eq_some_iff.mp h1).1, ?_⟩
    rw [h1]
    dsimp only
    rw [if_pos h2, ← h3]
theorem mj_lr_has {X : mj_Cx} {ls : Array Slot} {L : List mj_V} (h : mj_lr X ls L) : lv_has ls L.length (mj_asc X L) := by
  refine ⟨h.1, h.2.1, fun q hq => ?_⟩
  obtain ⟨v, h1, h2, h3⟩ := mj_asc_mem.mp hq
  rw [h3]
  exact h.2.2 q.1 v h1 h2
theorem mj_val_cat {X : mj_Cx} {v : mj_V} (h : mj_lng v = false) : (mj_val X v).category = 1 := by
  rcases v with x | a | x
  · rfl
  · rfl
  · cases h
theorem mj_lr_set {X : mj_Cx} {ls ls' : Array Slot} {L : List mj_V} {i : Nat} {v : mj_V} (h : mj_lr X ls L) (hi : i < L.length) (hv : mj_lng v = false)
    (h' : lv_has ls' L.length ((i, mj_val X v) :: (mj_asc X L).filter (fun q => !(q.1 == i) && !(q.1 + 1 == i && q.2.category == 2)))) : mj_lr X ls' (L.set i v) := by
  refine ⟨by rw [h'.1, List.length_set], h'.2.1, fun j w hw hl => ?_⟩
  by_cases hj : j = i
  · subst hj
    rw [List.getElem?_set_self hi] at hw
    cases hw
    exact h'.2.2 (j, mj_val X v) List.mem_cons_self
  · rw [List.getElem?_set_ne (Ne.symm hj)] at hw
    refine h'.2.2 (j, mj_val X w) (List.mem_cons_of_mem _ (List.mem_filter.mpr ⟨mj_asc_mem.mpr ⟨w, hw, hl, rfl⟩, ?_⟩))
    have : (mj_val X w).category = 1 := mj_val_cat hl
    simp [hj, this]
theorem mj_ok_set {L : List mj_V} {i : Nat} {v : mj_V} (h : ∀ w ∈ L, mj_ok w) (hv : mj_ok v) : ∀ w ∈ L.set i v, mj_ok w := by
  intro w hw
  rcases List.mem_or_eq_of_mem_set hw with h1 | h1
  · exact h w h1
  · rw [h1]; exact hv
