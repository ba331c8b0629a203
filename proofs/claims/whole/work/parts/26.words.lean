def mj_isAC : Jvm.Cond → Bool
  | .arrayClass _ => true
  | _ => false
def mj_good (w : Jvm.Cond) : Bool := (w.onTables && w.keeps) || mj_isAC w
/-- the words that go from frame to frame -/
def mj_tb : List Jvm.Cond := lw_tbl.filter mj_good
theorem mj_tb_good : ∀ w ∈ mj_tb, (w.onTables && w.keeps) = true ∨ ∃ ty, w = .arrayClass ty := by
  intro w hw
  have := (List.mem_filter.mp hw).2
  unfold mj_good at this
  rw [Bool.or_eq_true] at this
  rcases this with h | h
  · exact Or.inl h
  · cases w <;> first | exact Or.inr ⟨_, rfl⟩ | cases h
def mj_chs : List (List Jvm.Cond) := [k2_sels lw_privs, tables_1_1, tables_1_2, tables_1_3, tables_1_4, tables_1_5, tables_1_6, tables_1_7, tables_1_8]
theorem mj_chs_in : ∀ l ∈ mj_chs, ∀ w ∈ l, w ∈ lw_tbl := by
  intro l hl w hw
  show w ∈ k2_sels lw_privs ++ (tables_1_1 ++ (tables_1_2 ++ (tables_1_3 ++ (tables_1_4 ++ (tables_1_5 ++ (tables_1_6 ++ (tables_1_7 ++ tables_1_8)))))))
  simp only [mj_chs, List.mem_cons, List.not_mem_nil, or_false] at hl
  simp only [List.mem_append]
  rcases hl with rfl | rfl | rfl | rfl | rfl | rfl | rfl | rfl | rfl <;> simp [hw]
def mj_hit (p : Nat) (w : Jvm.Cond) : Bool := decide ((mj_chs.getD (p / 1000) [])[p % 1000]? = some w) && mj_good w
theorem mj_hit_ok {p : Nat} {w : Jvm.Cond} (h : mj_hit p w = true) : w ∈ mj_tb := by
  unfold mj_hit at h
  rw [Bool.and_eq_true] at h
  refine List.mem_filter.mpr ⟨?_, h.2⟩
  have h1 := List.mem_of_getElem? (of_decide_eq_true h.1)
  have h2 : mj_chs.getD (p / 1000) [] ∈ mj_chs := by
    rw [List.getD_eq_getElem?_getD] at h1 ⊢
    cases hc : mj_chs[p / 1000]? with
    | none => rw [hc] at h1; cases h1
    | some l => exact List.mem_of_getElem? hc
  exact mj_chs_in _ h2 w h1
def mj_SL : MethodName := ⟨"java/lang/String", "length", "()I"⟩
def mj_SC : MethodName := ⟨"java/lang/String", "charAt", "(I)C"⟩
def mj_txt : List String := ["gets", "never", "apart", "rwlt"]
def mj_owns : List String := ["TokenHeart", "TokenHeart$State", "TokenHeart$Tokens", "TokenHeart$Things", "TokenHeart$Runners", "TokenHeart$Wishes", "TokenHeart$Parting", "TokenHeart$Acts", "TokenHeart$Turns", "TokenHeart$Trials", "TokenHeart$Reach", "TokenHeart$Script", "TokenHeartModel", "TokenHeartLaw", "java/util/Arrays", "java/lang/Math"]
/-- the word of a pool entry -/
def mj_tgm (q : Nat × Nat) : MethodName := if q.2 = 9 then Lib.objectInit else if q.2 = 4 then arraycopyName else if q.2 = 5 then mj_SL else if q.2 = 6 then mj_SC else mj_y q.1
def mj_ew (oc idx t : Nat) : Option Jvm.Cond :=
  if t = 1 then some (.fieldLink (mj_owns.getD oc "") idx (mj_cn (mj_pool oc idx).1) (mj_F (mj_pool oc idx).1 (mj_pool oc idx).2).2.1 (mj_F (mj_pool oc idx).1 (mj_pool oc idx).2).2.2.1)
  else if t = 2 then some (.methodLink (mj_owns.getD oc "") idx (mj_tgm (mj_pool oc idx)))
  else if t = 3 then some (.classLink (mj_owns.getD oc "") idx (if (mj_pool oc idx).1 = 100 then "[" ++ (FieldType.array .int).toString else mj_cn (mj_pool oc idx).1))
  else none
def mj_eck (oc idx t p : Nat) : Bool := (match mj_ew oc idx t with
  | some w => mj_hit p w
  | none => true) && (t != 1 || (decide ((mj_pool oc idx).1 < 13) && decide ((mj_pool oc idx).2 < mj_nf (mj_pool oc idx).1))) && (t != 5 || (decide ((mj_pool oc idx).2 = 3) && decide ((oc = 1 ∧ idx = 27 ∧ (mj_pool oc idx).1 = 5) ∨ (oc = 1 ∧ idx = 34 ∧ (mj_pool oc idx).1 = 6)))) && (t != 6 || decide ((oc = 7 ∧ idx = 132) ∨ (oc = 6 ∧ idx = 103))) && (t != 2 || decide ((mj_pool oc idx).2 ≠ 3))
theorem mj_all_cut {α : Type} {f : α → Bool} {l : List α} {j : Nat} (m : Nat) (h1 : ((l.drop j).take m).all f = true) (h2 : (l.drop (j + m)).all f = true) : (l.drop j).all f = true := by
  rw [← List.take_append_drop m (l.drop j), List.all_append, h1, List.drop_drop, h2]
  rfl
theorem me_0_0 : (((mj_ps.getD 0 []).drop 0).take 40).all (fun z => mj_eck 0 z.1 z.2.2 z.2.1) = true := by decide +kernel
theorem me_0_1 : (((mj_ps.getD 0 []).drop 40).take 40).all (fun z => mj_eck 0 z.1 z.2.2 z.2.1) = true := by decide +kernel
theorem me_0_2 : (((mj_ps.getD 0 []).drop 80).take 40).all (fun z => mj_eck 0 z.1 z.2.2 z.2.1) = true := by decide +kernel
theorem me_0 : ((mj_ps.getD 0 []).drop 0).all (fun z => mj_eck 0 z.1 z.2.2 z.2.1) = true := (mj_all_cut 40 me_0_0 (mj_all_cut 40 me_0_1 (mj_all_cut 40 me_0_2 (by rw [show (mj_ps.getD 0 []).drop 120 = [] from by decide +kernel]; rfl))))
theorem me_1_0 : (((mj_ps.getD 1 []).drop 0).take 40).all (fun z => mj_eck 1 z.1 z.2.2 z.2.1) = true := by decide +kernel
theorem me_1_1 : (((mj_ps.getD 1 []).drop 40).take 40).all (fun z => mj_eck 1 z.1 z.2.2 z.2.1) = true := by decide +kernel
theorem me_1 : ((mj_ps.getD 1 []).drop 0).all (fun z => mj_eck 1 z.1 z.2.2 z.2.1) = true := (mj_all_cut 40 me_1_0 (mj_all_cut 40 me_1_1 (by rw [show (mj_ps.getD 1 []).drop 80 = [] from by decide +kernel]; rfl)))
theorem me_2_0 : (((mj_ps.getD 2 []).drop 0).take 40).all (fun z => mj_eck 2 z.1 z.2.2 z.2.1) = true := by decide +kernel
theorem me_2 : ((mj_ps.getD 2 []).drop 0).all (fun z => mj_eck 2 z.1 z.2.2 z.2.1) = true := (mj_all_cut 40 me_2_0 (by rw [show (mj_ps.getD 2 []).drop 40 = [] from by decide +kernel]; rfl))
theorem me_3_0 : (((mj_ps.getD 3 []).drop 0).take 40).all (fun z => mj_eck 3 z.1 z.2.2 z.2.1) = true := by decide +kernel
theorem me_3 : ((mj_ps.getD 3 []).drop 0).all (fun z => mj_eck 3 z.1 z.2.2 z.2.1) = true := (mj_all_cut 40 me_3_0 (by rw [show (mj_ps.getD 3 []).drop 40 = [] from by decide +kernel]; rfl))
theorem me_4_0 : (((mj_ps.getD 4 []).drop 0).take 40).all (fun z => mj_eck 4 z.1 z.2.2 z.2.1) = true := by decide +kernel
theorem me_4 : ((mj_ps.getD 4 []).drop 0).all (fun z => mj_eck 4 z.1 z.2.2 z.2.1) = true := (mj_all_cut 40 me_4_0 (by rw [show (mj_ps.getD 4 []).drop 40 = [] from by decide +kernel]; rfl))
theorem me_5_0 : (((mj_ps.getD 5 []).drop 0).take 40).all (fun z => mj_eck 5 z.1 z.2.2 z.2.1) = true := by decide +kernel
theorem me_5 : ((mj_ps.getD 5 []).drop 0).all (fun z => mj_eck 5 z.1 z.2.2 z.2.1) = true := (mj_all_cut 40 me_5_0 (by rw [show (mj_ps.getD 5 []).drop 40 = [] from by decide +kernel]; rfl))
theorem me_6_0 : (((mj_ps.getD 6 []).drop 0).take 40).all (fun z => mj_eck 6 z.1 z.2.2 z.2.1) = true := by decide +kernel
theorem me_6 : ((mj_ps.getD 6 []).drop 0).all (fun z => mj_eck 6 z.1 z.2.2 z.2.1) = true := (mj_all_cut 40 me_6_0 (by rw [show (mj_ps.getD 6 []).drop 40 = [] from by decide +kernel]; rfl))
theorem me_7_0 : (((mj_ps.getD 7 []).drop 0).take 40).all (fun z => mj_eck 7 z.1 z.2.2 z.2.1) = true := by decide +kernel
theorem me_7 : ((mj_ps.getD 7 []).drop 0).all (fun z => mj_eck 7 z.1 z.2.2 z.2.1) = true := (mj_all_cut 40 me_7_0 (by rw [show (mj_ps.getD 7 []).drop 40 = [] from by decide +kernel]; rfl))
theorem me_8_0 : (((mj_ps.getD 8 []).drop 0).take 40).all (fun z => mj_eck 8 z.1 z.2.2 z.2.1) = true := by decide +kernel
theorem me_8_1 : (((mj_ps.getD 8 []).drop 40).take 40).all (fun z => mj_eck 8 z.1 z.2.2 z.2.1) = true := by decide +kernel
theorem me_8 : ((mj_ps.getD 8 []).drop 0).all (fun z => mj_eck 8 z.1 z.2.2 z.2.1) = true := (mj_all_cut 40 me_8_0 (mj_all_cut 40 me_8_1 (by rw [show (mj_ps.getD 8 []).drop 80 = [] from by decide +kernel]; rfl)))
theorem me_9_0 : (((mj_ps.getD 9 []).drop 0).take 40).all (fun z => mj_eck 9 z.1 z.2.2 z.2.1) = true := by decide +kernel
theorem me_9 : ((mj_ps.getD 9 []).drop 0).all (fun z => mj_eck 9 z.1 z.2.2 z.2.1) = true := (mj_all_cut 40 me_9_0 (by rw [show (mj_ps.getD 9 []).drop 40 = [] from by decide +kernel]; rfl))
theorem me_10_0 : (((mj_ps.getD 10 []).drop 0).take 40).all (fun z => mj_eck 10 z.1 z.2.2 z.2.1) = true := by decide +kernel
theorem me_10 : ((mj_ps.getD 10 []).drop 0).all (fun z => mj_eck 10 z.1 z.2.2 z.2.1) = true := (mj_all_cut 40 me_10_0 (by rw [show (mj_ps.getD 10 []).drop 40 = [] from by decide +kernel]; rfl))
theorem me_11_0 : (((mj_ps.getD 11 []).drop 0).take 40).all (fun z => mj_eck 11 z.1 z.2.2 z.2.1) = true := by decide +kernel
theorem me_11 : ((mj_ps.getD 11 []).drop 0).all (fun z => mj_eck 11 z.1 z.2.2 z.2.1) = true := (mj_all_cut 40 me_11_0 (by rw [show (mj_ps.getD 11 []).drop 40 = [] from by decide +kernel]; rfl))
theorem me_12_0 : (((mj_ps.getD 12 []).drop 0).take 40).all (fun z => mj_eck 12 z.1 z.2.2 z.2.1) = true := by decide +kernel
theorem me_12_1 : (((mj_ps.getD 12 []).drop 40).take 40).all (fun z => mj_eck 12 z.1 z.2.2 z.2.1) = true := by decide +kernel
theorem me_12_2 : (((mj_ps.getD 12 []).drop 80).take 40).all (fun z => mj_eck 12 z.1 z.2.2 z.2.1) = true := by decide +kernel
theorem me_12 : ((mj_ps.getD 12 []).drop 0).all (fun z => mj_eck 12 z.1 z.2.2 z.2.1) = true := (mj_all_cut 40 me_12_0 (mj_all_cut 40 me_12_1 (mj_all_cut 40 me_12_2 (by rw [show (mj_ps.getD 12 []).drop 120 = [] from by decide +kernel]; rfl))))
theorem me_13_0 : (((mj_ps.getD 13 []).drop 0).take 40).all (fun z => mj_eck 13 z.1 z.2.2 z.2.1) = true := by decide +kernel
theorem me_13_1 : (((mj_ps.getD 13 []).drop 40).take 40).all (fun z => mj_eck 13 z.1 z.2.2 z.2.1) = true := by decide +kernel
theorem me_13_2 : (((mj_ps.getD 13 []).drop 80).take 40).all (fun z => mj_eck 13 z.1 z.2.2 z.2.1) = true := by decide +kernel
theorem me_13 : ((mj_ps.getD 13 []).drop 0).all (fun z => mj_eck 13 z.1 z.2.2 z.2.1) = true := (mj_all_cut 40 me_13_0 (mj_all_cut 40 me_13_1 (mj_all_cut 40 me_13_2 (by rw [show (mj_ps.getD 13 []).drop 120 = [] from by decide +kernel]; rfl))))
theorem me_14 : ((mj_ps.getD 14 []).drop 0).all (fun z => mj_eck 14 z.1 z.2.2 z.2.1) = true := (by rw [show (mj_ps.getD 14 []).drop 0 = [] from by decide +kernel]; rfl)
theorem me_15 : ((mj_ps.getD 15 []).drop 0).all (fun z => mj_eck 15 z.1 z.2.2 z.2.1) = true := (by rw [show (mj_ps.getD 15 []).drop 0 = [] from by decide +kernel]; rfl)
theorem mj_eck_all (oc : Nat) : ∀ z ∈ mj_ps.getD oc [], mj_eck oc z.1 z.2.2 z.2.1 = true := by
  intro z hz
  have hl : mj_ps.length = 16 := by decide +kernel
  have hoc : oc < 16 := by
    apply Classical.byContradiction
    intro hk
    rw [List.getD_eq_getElem?_getD, List.getElem?_eq_none (by omega)] at hz
    cases hz
  have key : ((mj_ps.getD oc []).drop 0).all (fun z => mj_eck oc z.1 z.2.2 z.2.1) = true := by
    match oc, hoc with
    | 0, _ => exact me_0
    | 1, _ => exact me_1
    | 2, _ => exact me_2
    | 3, _ => exact me_3
    | 4, _ => exact me_4
    | 5, _ => exact me_5
    | 6, _ => exact me_6
    | 7, _ => exact me_7
    | 8, _ => exact me_8
    | 9, _ => exact me_9
    | 10, _ => exact me_10
    | 11, _ => exact me_11
    | 12, _ => exact me_12
    | 13, _ => exact me_13
    | 14, _ => exact me_14
    | 15, _ => exact me_15
  exact List.all_eq_true.mp key z hz
theorem mj_find_mem {l : List (Nat × Nat × Nat)} {x a b : Nat} (h : mj_find l x = (a, b)) (hb : b ≠ 9999) : (x, a, b) ∈ l := by
  induction l with
  | nil => cases h; exact absurd rfl hb
  | cons q t ih =>
    obtain ⟨i, a', b'⟩ := q
    unfold mj_find at h
    by_cases hx : x = i
    · rw [if_pos hx] at h; cases h; subst hx; exact List.mem_cons_self
    · rw [if_neg hx] at h; exact List.mem_cons_of_mem _ (ih h)
theorem mj_ent_ok {oc idx t : Nat} (h : (mj_pos oc idx).2 = t) (ht : t ≠ 9999) : mj_eck oc idx t (mj_pos oc idx).1 = true :=
  mj_eck_all oc (idx, (mj_pos oc idx).1, t) (mj_find_mem (show mj_find (mj_ps.getD oc []) idx = ((mj_pos oc idx).1, t) by rw [← h]; rfl) ht)
def mj_cp : List (Nat × Nat × List Nat) := [(1022, 1001, [3038, 3040, 3042, 3044, 3046, 3048, 3050, 3052, 3054, 3056, 3058, 3060, 3062, 3064, 3066, 3068, 3070]), (1030, 1002, [2079, 2081, 2083, 2085, 2087, 2089, 2091, 2093, 2095, 2097, 2099, 2101]), (1036, 1003, [1093, 1095, 1097, 1099, 1101, 1103, 1105, 1107, 1109, 1111]), (1116, 1005, [1142, 1144, 1146, 1148, 1150, 1152, 1154, 1156]), (1160, 1006, [1208, 1210, 1212, 1214, 1216, 1218, 1220, 1222, 1224, 1226, 1228, 1230, 1232, 1234]), (1238, 1007, [2015, 2017, 2019, 2021, 2023, 2025]), (2105, 1008, [2113, 2115, 2117]), (2121, 1009, [2131, 2133, 2135]), (2139, 1010, [2148, 2150, 2152, 2154]), (2158, 1011, [2169, 2171, 2173, 2175]), (2179, 1012, [2189, 2191, 2193, 2195, 2197]), (2202, 1013, [2218, 2220, 2222, 2224, 2226, 2228, 2230, 2232, 2234, 2236]), (6060, 1014, [6112, 6114, 6116, 6118, 6120, 6122, 6124, 6126, 6128, 6130, 6132, 6134, 6136, 6138, 6140, 6142, 6144, 6146, 6148, 6150, 6152, 6154, 6156, 6158])]
theorem mj_w0 : (Jvm.Cond.instanceMethod Lib.objectInit) ∈ mj_tb := mj_hit_ok (p := 1027) (by decide +kernel)
theorem mj_w1 : (Jvm.Cond.code Lib.objectInit ⟨#[0xb1]⟩ 1 none) ∈ mj_tb := mj_hit_ok (p := 1028) (by decide +kernel)
theorem mj_w2 : (Jvm.Cond.native arraycopyName) ∈ mj_tb := mj_hit_ok (p := 4090) (by decide +kernel)
theorem mj_w3 : (Jvm.Cond.static arraycopyName) ∈ mj_tb := mj_hit_ok (p := 4089) (by decide +kernel)
theorem mj_w4 : (Jvm.Cond.initialized "java/lang/System") ∈ mj_tb := mj_hit_ok (p := 1016) (by decide +kernel)
theorem mj_w5 : (Jvm.Cond.arrayClass .int) ∈ mj_tb := mj_hit_ok (p := 1114) (by decide +kernel)
theorem mj_w6 : (Jvm.Cond.arrayClass .boolean) ∈ mj_tb := mj_hit_ok (p := 6161) (by decide +kernel)
theorem mj_w7 : (Jvm.Cond.arrayClass .long) ∈ mj_tb := mj_hit_ok (p := 2200) (by decide +kernel)
def mj_clwd (ci : Nat) : List (Jvm.Cond × Nat) := (.instantiable (mj_cn ci) (mj_nf ci), (mj_cp.getD ci (0, 0, [])).1) :: (.initialized (mj_cn ci), (mj_cp.getD ci (0, 0, [])).2.1) :: (List.range (mj_nf ci)).map (fun j => (u_lay (mj_cn ci) (mj_F ci) j, ((mj_cp.getD ci (0, 0, [])).2.2).getD j 0))
def mj_fck (ci j : Nat) : Bool := decide (parseFieldDescriptor (mj_F ci j).2.2.1 = some (mj_ft ci j)) && decide (defaultValue (mj_ft ci j) = if (mj_ff ci j).1 = 2 then Value.null else .int 0) && decide (((mj_ff ci j).1 = 0 ∧ mj_ft ci j = .int) ∨ ((mj_ff ci j).1 = 1 ∧ mj_ft ci j = .boolean) ∨ ((mj_ff ci j).1 = 2 ∧ (mj_ft ci j).isReference = true)) && decide (((mj_ff ci j).2 = 0 ∧ (mj_F ci j).2.2.2 = false) ∨ ((mj_ff ci j).2 = 1 ∧ (mj_F ci j).2.2.2 = true)) && (List.range (mj_nf ci)).all (fun i => decide (i = j ∨ (mj_F ci i).2.1 ≠ (mj_F ci j).2.1))
def mj_cck (ci : Nat) : Bool := (mj_clwd ci).all (fun q => mj_hit q.2 q.1) && (List.range (mj_nf ci)).all (mj_fck ci)
theorem mx_0 : mj_cck 0 = true := by decide +kernel
theorem mx_1 : mj_cck 1 = true := by decide +kernel
theorem mx_2 : mj_cck 2 = true := by decide +kernel
theorem mx_3 : mj_cck 3 = true := by decide +kernel
theorem mx_4 : mj_cck 4 = true := by decide +kernel
theorem mx_5 : mj_cck 5 = true := by decide +kernel
theorem mx_6 : mj_cck 6 = true := by decide +kernel
theorem mx_7 : mj_cck 7 = true := by decide +kernel
theorem mx_8 : mj_cck 8 = true := by decide +kernel
theorem mx_9 : mj_cck 9 = true := by decide +kernel
theorem mx_10 : mj_cck 10 = true := by decide +kernel
theorem mx_11 : mj_cck 11 = true := by decide +kernel
theorem mx_12 : mj_cck 12 = true := by decide +kernel
theorem mj_cck_all (k : Nat) (hk : k < 13) : mj_cck k = true := by
  match k, hk with
  | 0, _ => exact mx_0
  | 1, _ => exact mx_1
  | 2, _ => exact mx_2
  | 3, _ => exact mx_3
  | 4, _ => exact mx_4
  | 5, _ => exact mx_5
  | 6, _ => exact mx_6
  | 7, _ => exact mx_7
  | 8, _ => exact mx_8
  | 9, _ => exact mx_9
  | 10, _ => exact mx_10
  | 11, _ => exact mx_11
  | 12, _ => exact mx_12
theorem mj_cck_ok {ci : Nat} (h : ci < 13) : (∀ q ∈ mj_clwd ci, q.1 ∈ mj_tb) ∧ ∀ j, j < mj_nf ci → mj_fck ci j = true := by
  have h1 := mj_cck_all ci h
  unfold mj_cck at h1
  rw [Bool.and_eq_true, List.all_eq_true, List.all_eq_true] at h1
  exact ⟨fun q hq => mj_hit_ok (h1.1 q hq), fun j hj => h1.2 j (List.mem_range.mpr hj)⟩
theorem mj_U : ∀ ci, ci < 13 → ∀ w ∈ u_ws (mj_cn ci) (mj_F ci) (mj_nf ci), w ∈ mj_tb := by
  intro ci hci w hw
  obtain ⟨j, hj, rfl⟩ := List.mem_map.mp hw
  exact (mj_cck_ok hci).1 (u_lay (mj_cn ci) (mj_F ci) j, ((mj_cp.getD ci (0, 0, [])).2.2).getD j 0) (List.mem_cons_of_mem _ (List.mem_cons_of_mem _ (List.mem_map.mpr ⟨j, hj, rfl⟩)))
theorem mj_ins {ci : Nat} (h : ci < 13) : Jvm.Cond.instantiable (mj_cn ci) (mj_nf ci) ∈ mj_tb := (mj_cck_ok h).1 _ List.mem_cons_self
theorem mj_ini {ci : Nat} (h : ci < 13) : Jvm.Cond.initialized (mj_cn ci) ∈ mj_tb := (mj_cck_ok h).1 _ (List.mem_cons_of_mem _ List.mem_cons_self)
theorem mj_f5 {ci j : Nat} (h : ci < 13) (hj : j < mj_nf ci) : parseFieldDescriptor (mj_F ci j).2.2.1 = some (mj_ft ci j) ∧ (defaultValue (mj_ft ci j) = if (mj_ff ci j).1 = 2 then Value.null else .int 0) ∧ (((mj_ff ci j).1 = 0 ∧ mj_ft ci j = .int) ∨ ((mj_ff ci j).1 = 1 ∧ mj_ft ci j = .boolean) ∨ ((mj_ff ci j).1 = 2 ∧ (mj_ft ci j).isReference = true)) ∧ (((mj_ff ci j).2 = 0 ∧ (mj_F ci j).2.2.2 = false) ∨ ((mj_ff ci j).2 = 1 ∧ (mj_F ci j).2.2.2 = true)) ∧ ∀ i, i < mj_nf ci → i ≠ j → (mj_F ci i).2.1 ≠ (mj_F ci j).2.1 := by
  have h1 := (mj_cck_ok h).2 j hj
  unfold mj_fck at h1
  simp only [Bool.and_eq_true] at h1
  obtain ⟨⟨⟨⟨a1, a2⟩, a3⟩, a4⟩, a5⟩ := h1
  refine ⟨of_decide_eq_true a1, of_decide_eq_true a2, of_decide_eq_true a3, of_decide_eq_true a4, fun i hi hij => ?_⟩
  rw [List.all_eq_true] at a5
  rcases of_decide_eq_true (a5 i (List.mem_range.mpr hi)) with q | q
  · exact absurd q hij
  · exact q
theorem mj_hnm {ci : Nat} (h : ci < 13) : ∀ a, a < mj_nf ci → ∀ b, b < mj_nf ci → a ≠ b → (mj_F ci a).2.1 ≠ (mj_F ci b).2.1 := fun a ha b hb hab => (mj_f5 h hb).2.2.2.2 a ha hab
