/-- room, start and end of a method that the small machine runs -/
def mj_rm_q (d mc ms : Nat) : Room := { frames := d + 8, cells := mc, slots := ms, locals := 64 * (d + 8) }
def mj_inv0_q (X : mj_Cx) (G : mj_G) (M : mj_M) : Prop := mj_rng G M ∧ mj_shp G ∧ G.1 ≤ 9000 ∧ mj_ro X M
def mj_Pc_q (X : mj_Cx) (G : mj_G) (M : mj_M) (as : List mj_V) : Array Value → State → Prop := va_Pc (as.map (mj_val X)) fun U => mj_sf_q X U ∧ U.heap.size = mj_N X + G.1 ∧ va_P (mj_dd X) mj_cl (mj_ws X G M) U.heap
def mj_Qc_q (X : mj_Cx) (G : mj_G) (M : mj_M) (r : Option mj_V) : Array Value → State → Outcome → State → Prop := fun _ st oc t => oc = .returned (r.map (mj_val X)) ∧ va_P (mj_dd X) mj_cl (mj_ws X G M) t.heap ∧ va_F (mj_A X) st t ∧ mj_inv0_q X G M ∧ ∀ v ∈ r.toList, mj_ok v
def mj_wsm_q (k : Nat) : List Jvm.Cond := .code (mj_y k) (mj_by k) (mj_ml k) (mj_ret k) :: mj_tb
theorem mj_Pc_blind_q {X : mj_Cx} {G : mj_G} {M : mj_M} {as : List mj_V} : FrameBlind (mj_Pc_q X G M as) := by
  intro a U g mk h
  obtain ⟨h1, h2, h3, h4⟩ := h
  exact ⟨h1, mj_sf_mv_q h2 (State.WarmedH.refl U) (fun _ _ _ => rfl), h3, h4⟩
theorem mj_sl_len_q {X : mj_Cx} : ∀ (as : List mj_V), (∀ v ∈ as, mj_lng v = false) → (lg_sl (as.map (mj_val X))).length = as.length := by
  intro as
  induction as with
  | nil => intro _; rfl
  | cons v t ih =>
    intro h
    have h1 : (mj_val X v).category = 1 := mj_val_cat (h v List.mem_cons_self)
    have h2 := ih (fun w hw => h w (List.mem_cons_of_mem _ hw))
    unfold lg_sl at h2 ⊢
    simp only [List.map_cons, List.flatMap_cons, h1, List.length_append, h2]
    simp; omega
theorem mj_args_mem_q {X : mj_Cx} : ∀ (as : List mj_V) (i0 i : Nat) (v : mj_V), (∀ v ∈ as, mj_lng v = false) → as[i]? = some v → (i0 + i, mj_val X v) ∈ lv_args i0 (as.map (mj_val X)) := by
  intro as
  induction as with
  | nil => intro i0 i v _ h; simp at h
  | cons w t ih =>
    intro i0 i v h hi
    have h1 : (mj_val X w).category = 1 := mj_val_cat (h w List.mem_cons_self)
    unfold lv_args
    simp only [List.map_cons]
    cases i with
    | zero =>
      simp at hi
      subst hi
      exact List.mem_cons_self
    | succ i =>
      rw [List.getElem?_cons_succ] at hi
      have := ih (i0 + 1) i v (fun w hw => h w (List.mem_cons_of_mem _ hw)) hi
      rw [show i0 + (i + 1) = i0 + 1 + i by omega, if_neg (by omega)]
      exact List.mem_cons_of_mem _ this
theorem mj_lr_ent_q {X : mj_Cx} {k : Nat} {as : List mj_V} {ls : Array Slot} (h : lv_has ls (mj_ml k) (lv_args 0 (as.map (mj_val X)))) (hl : ∀ v ∈ as, mj_lng v = false) (hn : as.length ≤ mj_ml k) : mj_lr X ls (mj_ent k as) ∧ (mj_ent k as).length = mj_ml k := by
  have e : (mj_ent k as).length = mj_ml k := by unfold mj_ent; rw [List.length_append, List.length_replicate]; omega
  refine ⟨⟨by rw [h.1, e], h.2.1, fun i v hv hg => ?_⟩, e⟩
  unfold mj_ent at hv
  by_cases hi : i < as.length
  · rw [List.getElem?_append_left hi] at hv
    have := mj_args_mem_q (X := X) as 0 i v hl hv
    rw [Nat.zero_add] at this
    exact h.2.2 _ this
  · rw [List.getElem?_append_right (by omega), List.getElem?_replicate] at hv
    split at hv
    · cases hv; cases hg
    · cases hv
theorem mj_ent_ok2_q {k : Nat} {as : List mj_V} (h : ∀ v ∈ as, mj_ok v) : ∀ v ∈ mj_ent k as, mj_ok v := by
  intro v hv
  unfold mj_ent at hv
  rcases List.mem_append.mp hv with h1 | h1
  · exact h v h1
  · rw [(List.mem_replicate.mp h1).2]
    show mj_i64 0
    unfold mj_i64; omega
theorem mj_cat4_q {X : mj_Cx} : ∀ (l : List mj_V), ((l.map (mj_val X)).map fun v => v.category).sum ≤ 2 * l.length := by
  intro l
  induction l with
  | nil => simp
  | cons v t ih =>
    have := lv_cat (mj_val X v)
    simp only [List.map_cons, List.sum_cons, List.length_cons]
    omega
theorem mj_min_go_q {f d : Nat} {x y : Int} {G G' : mj_G} {M M' : mj_M} {r : Option mj_V} (h : mj_go f d 69 0 (mj_ent 69 [.inl x, .inl y]) [] G M = some (r, G', M')) : r = some (.inl (if y < x then y else x)) ∧ G' = G ∧ M' = M := by
  have h1 : mj_Rn d 69 0 [.inl x, .inl y] [] G M (fun a b c => a = r ∧ b = G' ∧ c = M') := ⟨f, r, G', M', h, rfl, rfl, rfl⟩
  rw [i_69_0, i_69_1, i_69_2] at h1
  by_cases hc : y < x
  · have h2 := h1.1 hc
    rw [i_69_9, i_69_10] at h2
    rw [if_pos hc]
    exact ⟨h2.1.symm, h2.2.1.symm, h2.2.2.symm⟩
  · have h2 := h1.2 hc
    rw [i_69_5, i_69_6, i_69_10] at h2
    rw [if_neg hc]
    exact ⟨h2.1.symm, h2.2.1.symm, h2.2.2.symm⟩
theorem mj_min_args_q {f d : Nat} {as : List mj_V} {G : mj_G} {M : mj_M} {z : Option mj_V × mj_G × mj_M} (h : mj_go f d 69 0 (mj_ent 69 as) [] G M = some z) (hn : as.length = 2) : ∃ x y, as = [.inl x, .inl y] := by
  obtain ⟨a, b, rfl⟩ : ∃ a b, as = [a, b] := by
    match as, hn with
    | [a, b], _ => exact ⟨a, b, rfl⟩
  have he : mj_ent 69 [a, b] = [a, b] := rfl
  have c0 : mj_code 69 0 = some (.iload_n 0, 1) := by decide +kernel
  have c1 : mj_code 69 1 = some (.iload_n 1, 1) := by decide +kernel
  rw [he] at h
  rcases f with _ | f
  · cases h
  rw [mj_go, c0] at h
  rcases a with x | a
  · rcases f with _ | f
    · cases h
    have h2 : mj_go (f + 1) d 69 1 [.inl x, b] [.inl x] G M = some z := h
    rw [mj_go, c1] at h2
    rcases b with y | b
    · exact ⟨x, y, rfl⟩
    · rcases b with b | b <;> cases h2
  · rcases a with a | a <;> cases h
/-- what a run of the small machine from here says of the machine -/
def mj_Snd_q (f : Nat) : Prop := ∀ {d k pc : Nat} {L st : List mj_V} {G G' : mj_G} {M M' : mj_M} {r : Option mj_V}, mj_go f d k pc L st G M = some (r, G', M') → L.length = mj_ml k → G'.1 ≤ 9000 →
  ∀ {p : Program} {l : Launch} {e : Env} {R : Room} {s : State} {m : MethodId} {args : Array Value} {below : List Frame} {meth : Method} {c : Code} {Q : State → Prop} {X : mj_Cx} {n0 s0 : Nat}, mj_Fx_q p s m args meth c X k → s.heap.size = mj_N X + n0 → (d + 8 ≤ R.frames ∧ 64 * (d + 8) ≤ R.locals ∧ G'.1 - n0 ≤ R.cells ∧ G'.2.1 - s0 ≤ R.slots) →
  (∀ (H : Heap) (locs : List Loc) (ls : Array Slot) (pc' n : Nat) (i : Instr) (L' : List mj_V), decode (mj_by k) pc' = .ok (i, n) → mj_sem k pc' i n = true → ((i = .ireturn ∧ ∃ x, r = some (.inl x) ∧ (mj_rt k = 1 ∨ (mj_rt k = 2 ∧ 0 ≤ x ∧ x ≤ 1))) ∨ (i = .return_ ∧ r = none ∧ mj_rt k = 0)) → mj_h X s n0 s0 G' M' L' r.toList H locs ls → W p l e R s m args below meth c H locs (G'.1 - n0) (G'.2.1 - s0) Q (F0 m pc' ls (r.toList.map (mj_val X)))) →
  (∀ (H : Heap) (locs : List Loc) (ls : Array Slot), mj_h X s n0 s0 (G) (M) (L) (st) H locs ls → W p l e R s m args below meth c H locs (G.1 - n0) (G.2.1 - s0) Q (F0 m (pc) ls ((st : List mj_V).map (mj_val X))))
theorem mj_toMet_q {f : Nat} (S : mj_Snd_q f) {l : Launch} {X : mj_Cx} {d k : Nat} {as : List mj_V} {G G' : mj_G} {M M' : mj_M} {r : Option mj_V} (h : mj_go f d k 0 (mj_ent k as) [] G M = some (r, G', M')) (hk : k < 287) (h69 : k ≠ 69) (hn : as.length = mj_na k) (hl : ∀ v ∈ as, mj_lng v = false) (ho : ∀ v ∈ as, mj_ok v) (h0 : mj_inv0_q X G M) (h9 : G'.1 ≤ 9000) :
    Met l (mj_y k) (mj_wsm_q k) (mj_rm_q d (G'.1 - G.1) (G'.2.1 - G.2.1)) (mj_Pc_q X G M as) (mj_Qc_q X G' M' r) (G'.1 - G.1) (G'.2.1 - G.2.1) (mj_A X) := by
  obtain ⟨a1, a2, a3, a4, a5, a6, a7, a8⟩ := mj_m_ok hk
  have hle := mj_go_le_q f h
  refine Met.ofW (cc := mj_by k) (maxL := mj_ml k) (ret := mj_ret k) (Or.resolve_left a4 h69) rfl ?_
  intro p e s m args below meth c s₁ B hml hv
  obtain ⟨rfl, hsf, hsz, hP⟩ := hv
  have hts := atoms_spec (ws := mj_wsm_q k) B.pre
  have hown : s.vm.findClass (mj_own k) = some m.cls := findClass_of_methodNamed B.named
  have hlocks := B.notSynchronized
  have hr := B.returns
  have hl2 : (lg_sl (as.map (mj_val X))).length ≤ mj_ml k := by rw [mj_sl_len_q as hl]; omega
  have hl1 := lv_entry (as.map (mj_val X)) (n := mj_ml k) hl2
  rw [lg_entry_eq]
  generalize (lg_sl (as.map (mj_val X)) ++ List.replicate (mj_ml k - (lg_sl (as.map (mj_val X))).length) Slot.unset).toArray = ls at hl1 ⊢
  obtain ⟨hlr, hle2⟩ := mj_lr_ent_q hl1 hl (by omega)
  have F : mj_Fx_q p s m (as.map (mj_val X)).toArray meth c X k := ⟨B.exec, B.bytes, hml, hown, fun w hw => hts w (List.mem_cons_of_mem _ hw), hsf, fun h2 => by
    rw [(name_of_methodNamed B.named B.method).1]
    rcases a6 with q | q
    · exact absurd h2 q
    · exact q.1, a8⟩
  have h3 := S h hle2 h9 (p := p) (l := l) (e := e) (R := mj_rm_q d (G'.1 - G.1) (G'.2.1 - G.2.1)) (s := s) (m := m) (args := (as.map (mj_val X)).toArray) (below := below) (meth := meth) (c := c) (Q := MQ below (mj_Qc_q X G' M' r) (as.map (mj_val X)).toArray s (G'.1 - G.1) (G'.2.1 - G.2.1) (mj_A X)) (X := X) (n0 := G.1) (s0 := G.2.1) F hsz ⟨Nat.le_refl _, Nat.le_refl _, Nat.le_refl _, Nat.le_refl _⟩ ?_ s.heap [] ls
    ⟨hP, va_S.rf, hlr, by simp, mj_ent_ok2_q ho, h0.1, h0.2.1, ⟨Nat.le_refl _, Nat.le_refl _, h0.2.2.1⟩, h0.2.2.2⟩
  · rw [show G.1 - G.1 = 0 by omega, show G.2.1 - G.2.1 = 0 by omega] at h3
    exact h3
  intro H locs ls' pc' n i L' hd hm hi hh
  have hQ : ∀ t : State, t.heap = H → mj_Qc_q X G' M' r (as.map (mj_val X)).toArray s (.returned (r.map (mj_val X))) t := fun t ht => ⟨rfl, by rw [ht]; exact hh.1, hh.2.1.F ht, ⟨hh.2.2.2.2.2.1, hh.2.2.2.2.2.2.1, h9, hh.2.2.2.2.2.2.2.2⟩, hh.2.2.2.1⟩
  rcases hi with ⟨rfl, x, rfl, hx⟩ | ⟨rfl, rfl, hx⟩
  · have hn : n = 1 := by simpa [mj_sem] using hm
    subst hn
    rcases hx with hx | ⟨hx, hx0⟩
    · exact W.iret B.exec B.bytes (by rw [hr, mj_ret, if_neg (by omega), if_pos hx]) (fun t ht _ => hQ t ht) hh.2.1.2.2 hd
    · refine W.zret (ty := .boolean) B.exec B.bytes (by rw [hr, mj_ret, if_neg (by omega), if_neg (by omega)]) ?_ (fun t ht _ => hQ t ht) hh.2.1.2.2 hd
      rcases (show x = 0 ∨ x = 1 by omega) with rfl | rfl <;> decide
  · have hn : n = 1 := by simpa [mj_sem] using hm
    subst hn
    exact W.vret B.exec B.bytes (by rw [hr, mj_ret, if_pos hx]) (fun t ht _ => hQ t ht) hh.2.1.2.2 hd
section mc
variable {p : Program} {l : Launch} {e : Env} {R : Room} {s : State} {m : MethodId} {args : Array Value} {below : List Frame} {meth : Method} {c : Code} {Q : State → Prop} {X : mj_Cx} {n0 s0 : Nat}
/-- behind a call -/
theorem mj_after_q {pc : Nat} {L s2 st0 : List mj_V} {G G1 : mj_G} {M M1 : mj_M} {r1 : Option mj_V} {H : Heap} {locs : List Loc} {ls : Array Slot} {a : Array Value} {st1 : List Value} (hh : mj_h X s n0 s0 G M L st0 H locs ls) (hs2 : ∀ v ∈ s2, mj_ok v) (hle : G.1 ≤ G1.1 ∧ G.2.1 ≤ G1.2.1)
    (hr : va_Run p l e R s m args below meth c H locs (G.1 - n0) (G.2.1 - s0) (G1.1 - G.1) (G1.2.1 - G.2.1) (F0 m pc ls st1) (s2.map (mj_val X)) (mj_Qc_q X G1 M1 r1 a) (mj_A X)) (kk : (∀ (H : Heap) (locs : List Loc) (ls : Array Slot), mj_h X s n0 s0 (G1) (M1) (L) (r1.toList ++ s2) H locs ls → W p l e R s m args below meth c H locs ((G1).1 - n0) ((G1).2.1 - s0) Q (F0 m (pc + 3) ls ((r1.toList ++ s2 : List mj_V).map (mj_val X))))) : W p l e R s m args below meth c H locs (G.1 - n0) (G.2.1 - s0) Q (F0 m pc ls st1) := by
  intro T hT X'
  obtain ⟨v, st₀, t, T', L', h0, X2, hL', e1, e2, ⟨q1, q2, q3, ⟨q4, q5, q6, q7⟩, q8⟩, hgo⟩ := hr T hT X'
  cases q1
  rw [← e1] at q2
  have hS : va_S (mj_A X) s.heap T'.heap (locs ++ L') := by
    obtain ⟨z1, z2⟩ := q3
    rw [h0, ← e1] at z1 z2
    refine ⟨Nat.le_trans hh.2.1.1 z1, fun q h1 h2 => (z2 q (Nat.lt_of_lt_of_le h1 hh.2.1.1) h2).trans (hh.2.1.2.1 q h1 h2), fun q hq => ?_⟩
    rcases List.mem_append.mp hq with h | h
    · exact hh.2.1.2.2 q h
    · exact hL' q h
  have k2 := kk T'.heap (locs ++ L') ls ⟨q2, hS, hh.2.2.1, fun w hw => by
    rcases List.mem_append.mp hw with h | h
    · exact q8 w h
    · exact hs2 w h, hh.2.2.2.2.1, q4, q5, ⟨Nat.le_trans hh.2.2.2.2.2.2.2.1.1 hle.1, Nat.le_trans hh.2.2.2.2.2.2.2.1.2.1 hle.2, q6⟩, q7⟩
  have b1 := hh.2.2.2.2.2.2.2.1
  rw [show G1.1 - n0 = G.1 - n0 + (G1.1 - G.1) by omega, show G1.2.1 - s0 = G.2.1 - s0 + (G1.2.1 - G.2.1) by omega] at k2
  obtain ⟨t2, a1, a2⟩ := k2 T' rfl X2
  refine ⟨t2, hgo t2 ?_, a2⟩
  have e3 : (r1.toList ++ s2).map (mj_val X) = (r1.map (mj_val X)).toList ++ s2.map (mj_val X) := by cases r1 <;> simp
  rw [e3] at a1
  exact a1
end mc
theorem mj_sound_q (hSL : so_slenP_q) (hSC : so_schrP_q) : ∀ f, mj_Snd_q f := by
  intro f
  induction f with
  | zero => intro d k pc L st G G' M M' r h; cases h
  | succ f ih =>
    intro d k pc L st G G' M M' r h hL h9 p l e R s m args below meth c Q X n0 s0 F hn0 hR hend
    unfold mj_go at h
    cases hc : mj_code k pc with
    | none => rw [hc] at h; cases h
    | some q =>
      obtain ⟨i, n⟩ := q
      rw [hc] at h
      dsimp only at h
      obtain ⟨hk, hd, hm, hm2⟩ := mj_code_ck hc
      cases hs : mj_step k pc L st G M i n with
      | none => rw [hs] at h; cases h
      | some z =>
        rw [hs] at h
        rcases z with ⟨pc', L', st', G1, M1⟩ | ⟨k', as, s2⟩ | r'
        · dsimp only at h
          have hmo := st_mono_q hs
          have hle := mj_go_le_q f h
          exact st_sound_q hSL hSC F hn0 hL ⟨by omega, by omega, by omega, by omega⟩ (by omega) hk hs hd hm hm2 (ih h (by rw [hmo.2.2, hL]) h9 (p := p) (l := l) (e := e) (R := R) (s := s) (m := m) (args := args) (below := below) (meth := meth) (c := c) (Q := Q) (X := X) (n0 := n0) (s0 := s0) F hn0 hR hend)
        · dsimp only at h
          cases d with
          | zero => cases h
          | succ d =>
            dsimp only at h
            cases hcal : mj_go f d k' 0 (mj_ent k' as) [] G M with
            | none => rw [hcal] at h; cases h
            | some w =>
              obtain ⟨r1, G1, M1⟩ := w
              rw [hcal] at h
              dsimp only at h
              have hle1 := mj_go_le_q f hcal
              have hle2 := mj_go_le_q f h
              obtain ⟨idx, hi, hk', ⟨hq4, hqk⟩, hst, hal, hs4, hlng, hrec⟩ := mj_call_inv_q hs
              have kk := ih h hL h9 (p := p) (l := l) (e := e) (R := R) (s := s) (m := m) (args := args) (below := below) (meth := meth) (c := c) (Q := Q) (X := X) (n0 := n0) (s0 := s0) F hn0 hR hend
              have hn3 : n = 3 ∧ ((mj_pos (mj_oc k) idx).2 = 2 ∨ (mj_pos (mj_oc k) idx).2 = 5) := by
                rcases hi with rfl | rfl | rfl
                · have : n = 3 ∧ (mj_pos (mj_oc k) idx).2 = 2 := by simpa [mj_sem] using hm
                  exact ⟨this.1, Or.inl this.2⟩
                · have : n = 3 ∧ (mj_pos (mj_oc k) idx).2 = 2 := by simpa [mj_sem] using hm
                  exact ⟨this.1, Or.inl this.2⟩
                · simpa [mj_sem] using hm
              obtain ⟨rfl, htag⟩ := hn3
              have hkl : k' < 287 := by
                rw [hk']
                rcases hi with rfl | rfl | rfl
                · exact (of_decide_eq_true (show decide _ = true from hm2)).2
                · exact (of_decide_eq_true (show decide _ = true from hm2)).2
                · exact (of_decide_eq_true (show decide _ = true from hm2)).2
              obtain ⟨w1, w2, w3, w4, w5, w6, w7, w8⟩ := mj_m_ok hkl
              have hopc : ((mj_pool (mj_oc k) idx).2 = 0 → i = .invokevirtual idx) ∧ ((mj_pool (mj_oc k) idx).2 = 1 → i = .invokestatic idx) ∧ ((mj_pool (mj_oc k) idx).2 = 2 ∨ (mj_pool (mj_oc k) idx).2 = 3 → i = .invokespecial idx) := by
                rcases hi with rfl | rfl | rfl
                · have := of_decide_eq_true (show decide _ = true from hm2)
                  exact ⟨fun q => by omega, fun _ => rfl, fun q => by omega⟩
                · have := of_decide_eq_true (show decide _ = true from hm2)
                  exact ⟨fun _ => rfl, fun q => by omega, fun q => by omega⟩
                · have := of_decide_eq_true (show decide _ = true from hm2)
                  exact ⟨fun q => by omega, fun q => by omega, fun _ => rfl⟩
              have etg : (mj_pool (mj_oc k) idx).2 < 4 → mj_tgm (mj_pool (mj_oc k) idx) = mj_y k' := by
                intro q
                unfold mj_tgm
                rw [if_neg (by omega), if_neg (by omega), if_neg (by omega), if_neg (by omega), hk']
              have cin : Cond.code (mj_y k') (mj_by k') (mj_ml k') (mj_ret k') ∈ mj_tb := w1 (_, _) List.mem_cons_self
              have iin : Cond.initialized (mj_own k') ∈ mj_tb := w1 (_, _) (List.mem_cons_of_mem _ List.mem_cons_self)
              have kin : (if mj_kd k' = 1 then Cond.static (mj_y k') else Cond.instanceMethod (mj_y k')) ∈ mj_tb := w1 (_, _) (List.mem_cons_of_mem _ (List.mem_cons_of_mem _ List.mem_cons_self))
              have gws : GoodIn mj_tb (mj_wsm_q k') := fun w hw => by
                rcases List.mem_cons.mp hw with h | h
                · rw [h]; exact ⟨cin, mj_tb_good _ cin⟩
                · exact ⟨h, mj_tb_good _ h⟩
              have hcf : CallFix p m c (mj_by k) (mj_ml k) s args mj_tb (mj_own k) := ⟨F.1, F.2.1, F.2.2.1, F.2.2.2.1, F.2.2.2.2.1⟩
              have hroom : (mj_rm_q d (G1.1 - G.1) (G1.2.1 - G.2.1)).frames + 1 ≤ R.frames ∧ 8 + (mj_ml k' + 11) + (mj_rm_q d (G1.1 - G.1) (G1.2.1 - G.2.1)).locals ≤ R.locals := by
                show d + 8 + 1 ≤ R.frames ∧ 8 + (mj_ml k' + 11) + 64 * (d + 8) ≤ R.locals
                omega
              intro H locs ls hh
              have hb1 := hh.2.2.2.2.2.2.2.1
              refine mj_size hn0 hh.1 hh.2.1 hb1.1 (by omega) (fun hsz => ?_)
              have hoks := hh.2.2.2.1
              rw [hst] at hoks
              have hok2 : ∀ v ∈ s2, mj_ok v := fun v hv => hoks v (List.mem_append_right _ hv)
              have hok1 : ∀ v ∈ as, mj_ok v := fun v hv => hoks v (List.mem_append_left _ (List.mem_reverse.mpr hv))
              have hw8 : 2 * (F0 m pc ls (st.map (mj_val X))).monitorRoom + ((s2.map (mj_val X)).map fun v => v.category).sum ≤ 8 := by
                have := mj_catw (X := X) s2
                show 2 * 0 + _ ≤ 8
                omega
              have hf : G.1 - n0 + (G1.1 - G.1) ≤ R.cells ∧ G.2.1 - s0 + (G1.2.1 - G.2.1) ≤ R.slots := by omega
              have hlsz : (F0 m pc ls (st.map (mj_val X))).locals.size = mj_ml k := by show ls.size = _; rw [hh.2.2.1.1, hL]
              by_cases h69 : k' = 69
              · subst h69
                obtain ⟨x, y, rfl⟩ : ∃ x y, as = [.inl x, .inl y] := mj_min_args_q hcal (by rw [hal]; decide +kernel)
                obtain ⟨e1, e2, e3⟩ := mj_min_go_q hcal
                subst e1; subst e2; subst e3
                have q1 : (mj_pool (mj_oc k) idx).2 = 1 := by
                  have : mj_kd 69 = 1 := by decide +kernel
                  omega
                have hii := hopc.2.1 q1
                subst hii
                have hlk := (mj_ent2_q (show (mj_pos (mj_oc k) idx).2 = 2 by simpa [mj_sem] using hm) F.2.2.2.2.2.2.2 F.2.2.2.2.1).2.1
                rw [etg (by omega)] at hlk
                have k2 := kk H locs ls (mj_h_st hh (by
                  intro v hv
                  rcases List.mem_cons.mp hv with h | h
                  · rw [h]
                    show mj_i32 (if y < x then y else x)
                    have hx := hok1 (.inl x) (by simp)
                    have hy := hok1 (.inl y) (by simp)
                    split
                    · exact hy
                    · exact hx
                  · exact hok2 v h))
                have hx : mj_i32 x := hok1 (.inl x) (by simp)
                have hy : mj_i32 y := hok1 (.inl y) (by simp)
                rw [hst]
                have kin' : (Cond.static (mj_y 69)) ∈ mj_tb := by
                  rw [if_pos (show mj_kd 69 = 1 by decide +kernel)] at kin
                  exact kin
                have c9 := mj_catw (X := X) s2
                refine va_mmin (cc := mj_by k) (rest := s2.map (mj_val X)) F.1 F.2.1 (by rw [F.2.2.1, ← hL]; exact hh.2.2.1.1.symm) F.2.2.2.1 hlk (F.2.2.2.2.1 _ kin') (F.2.2.2.2.1 _ iin) (F.2.2.2.2.1 _ cin) (show 1 ≤ R.frames by omega) (show _ + 13 ≤ R.locals by omega) (by omega) (by omega) hd ?_
                have e5 : mj_val X (.inl (if y < x then y else x)) = .int (if Int32.ofInt y < Int32.ofInt x then Int32.ofInt y else Int32.ofInt x) := by
                  show Value.int _ = Value.int _
                  congr 1
                  by_cases hc : y < x
                  · rw [if_pos hc, if_pos ((mj_ltI hy hx).mpr hc)]
                  · rw [if_neg hc, if_neg (fun q => hc ((mj_ltI hy hx).mp q))]
                rw [show (Option.some (Sum.inl (if y < x then y else x) : mj_V)).toList ++ s2 = .inl (if y < x then y else x) :: s2 from rfl, List.map_cons, e5] at k2
                exact k2
              · have hM := mj_toMet_q ih (l := l) (X := X) hcal hkl h69 hal hlng hok1 ⟨hh.2.2.2.2.2.1, hh.2.2.2.2.2.2.1, hb1.2.2, hh.2.2.2.2.2.2.2.2⟩ (by omega)
                have hPcU : ∀ U : State, U.heap = H → s.WarmedH U.vm → mj_Pc_q X G M as (as.map (mj_val X)).toArray U := fun U hU hW => ⟨rfl, mj_sf_mv_q F.2.2.2.2.2.1 hW (fun a h1 h2 => by rw [hU]; exact hh.2.1.2.1 a h1 h2), by rw [hU]; exact hsz, by rw [hU]; exact hh.1⟩
                by_cases hq1 : (mj_pool (mj_oc k) idx).2 = 1
                · have hii := hopc.2.1 hq1
                  subst hii
                  have hkd : mj_kd k' = 1 := by omega
                  obtain ⟨lin, -, -⟩ := mj_ent2_q (show (mj_pos (mj_oc k) idx).2 = 2 by simpa [mj_sem] using hm) F.2.2.2.2.2.2.2 F.2.2.2.2.1
                  rw [etg (by omega)] at lin
                  rw [if_pos hkd] at kin w2
                  have hT : GoodIn mj_tb (va_wsS (mj_own k) idx (mj_y k') (mj_wsm_q k')) := by
                    intro w hw
                    unfold va_wsS at hw
                    rcases List.mem_append.mp hw with h | h
                    · simp only [List.mem_cons, List.not_mem_nil, or_false] at h
                      rcases h with rfl | rfl | rfl
                      · exact ⟨lin, mj_tb_good _ lin⟩
                      · exact ⟨kin, mj_tb_good _ kin⟩
                      · exact ⟨iin, mj_tb_good _ iin⟩
                    · exact gws w h
                  refine mj_after_q (pc := pc) hh hok2 hle1 (va_runS (As := as.map (mj_val X)) (rest := s2.map (mj_val X)) hcf hM (va_cwS (as.length) F.2.2.2.2.1 hT rfl rfl rfl ⟨w3.1, w3.2, by rw [w2, hal]; rfl⟩ hroom) ⟨mj_Pc_blind_q, hPcU⟩ rfl (by simp) hlsz (by rw [hst]; simp) hw8 hd hf) kk
                · obtain ⟨a, t, rfl, hisO⟩ : ∃ a t, as = .inr (.inl a) :: t ∧ mj_isO G a (mj_oc k') = true := by
                    rcases hrec with q | q
                    · exact absurd q hq1
                    · exact q
                  have hkd1 : mj_kd k' ≠ 1 := by omega
                  obtain ⟨o1, o2⟩ := mj_isO_ok hisO
                  obtain ⟨v1, v2, v3⟩ : mj_oc k' < 13 ∧ mj_cn (mj_oc k') = mj_own k' ∧ 1 ≤ mj_na k' := by
                    rcases w5 with q | q
                    · exact absurd q hkd1
                    · exact q
                  rw [if_neg hkd1] at kin w2
                  have hlen : t.length = mj_na k' - 1 := by have := hal; simp at this; omega
                  have hstk : (F0 m pc ls (st.map (mj_val X))).stack = (t.map (mj_val X)).reverse ++ .ref (mj_ad X a) :: s2.map (mj_val X) := by
                    show st.map (mj_val X) = _
                    rw [hst]
                    simp [mj_val]
                  have hrcv := va_recv F.2.2.2.2.2.1.1 hh.1 (mj_cl_get v1) (show (mj_ws X G M)[a]? = some (mj_ad X a, _) by rw [mj_ws_get o1, mj_en_o o2])
                  rw [show (mj_cn (mj_oc k'), mj_F (mj_oc k'), mj_nf (mj_oc k')).1 = mj_own k' from v2] at hrcv
                  by_cases hq0 : (mj_pool (mj_oc k) idx).2 = 0
                  · have hii := hopc.1 hq0
                    subst hii
                    have hkd0 : mj_kd k' = 0 := by omega
                    obtain ⟨lin, -, -⟩ := mj_ent2_q (show (mj_pos (mj_oc k) idx).2 = 2 by simpa [mj_sem] using hm) F.2.2.2.2.2.2.2 F.2.2.2.2.1
                    rw [etg (by omega)] at lin
                    have sin : Cond.selects (mj_own k') (mj_y k') (mj_y k') ∈ mj_tb := w1 (_, _) (by
                      unfold mj_mwd
                      rw [if_pos hkd0]
                      exact List.mem_append_right _ List.mem_cons_self)
                    have hT : GoodIn mj_tb (wsV (mj_own k) idx (mj_own k') (mj_y k') (mj_wsm_q k')) := by
                      intro w hw
                      unfold wsV at hw
                      rcases List.mem_append.mp hw with h | h
                      · simp only [List.mem_cons, List.not_mem_nil, or_false] at h
                        rcases h with rfl | rfl | rfl | rfl
                        · exact ⟨lin, mj_tb_good _ lin⟩
                        · exact ⟨kin, mj_tb_good _ kin⟩
                        · exact ⟨sin, mj_tb_good _ sin⟩
                        · exact ⟨iin, mj_tb_good _ iin⟩
                      · exact gws w h
                    exact mj_after_q (pc := pc) hh hok2 hle1 (va_runV (As := t.map (mj_val X)) (rest := s2.map (mj_val X)) hcf hM (cwV t.length F.2.2.2.2.1 hT rfl rfl rfl ⟨rfl, w3.1, w3.2, by rw [w2, hlen]⟩ hroom) ⟨mj_Pc_blind_q, hrcv, hPcU⟩ rfl (by simp) hlsz hstk hw8 hd hf) kk
                  · have hkd2 : mj_kd k' = 2 := by omega
                    obtain ⟨u1, u2⟩ : (mj_y k').name = "<init>" ∧ mj_rt k' = 0 := by
                      rcases w6 with q | q
                      · exact absurd hkd2 q
                      · exact q
                    have hret : mj_ret k' = none := by unfold mj_ret; rw [if_pos u2]
                    have hwsm : mj_wsm_q k' = Cond.code (mj_y k') (mj_by k') (mj_ml k') none :: mj_tb := by unfold mj_wsm_q; rw [hret]
                    have hii := hopc.2.2 (by omega)
                    subst hii
                    by_cases hq2 : (mj_pool (mj_oc k) idx).2 = 2
                    · have htag2 : (mj_pos (mj_oc k) idx).2 = 2 := by
                        rcases htag with q | q
                        · exact q
                        · exfalso
                          have h1 := mj_ent_ok q (by decide)
                          unfold mj_eck at h1
                          simp only [Bool.and_eq_true] at h1
                          have h2 := h1.1.1.2
                          simp only [bne_self_eq_false, Bool.false_or, Bool.and_eq_true, decide_eq_true_eq] at h2
                          omega
                      obtain ⟨lin, -, -⟩ := mj_ent2_q htag2 F.2.2.2.2.2.2.2 F.2.2.2.2.1
                      rw [etg (by omega)] at lin
                      exact mj_after_q (pc := pc) hh hok2 hle1 (va_runI (As := t.map (mj_val X)) (rest := s2.map (mj_val X)) hcf hM (cwI t.length F.2.2.2.2.1 gws hwsm rfl rfl (F.2.2.2.2.1 _ iin) (F.2.2.2.2.1 _ lin) (F.2.2.2.2.1 _ kin) u1 ⟨w3.1, w3.2, by rw [w2, hlen]⟩ hroom) ⟨mj_Pc_blind_q, hPcU⟩ rfl (by simp) hlsz hstk hw8 hd hf) kk
                    · have hq3 : (mj_pool (mj_oc k) idx).2 = 3 := by omega
                      have htag5 : (mj_pos (mj_oc k) idx).2 = 5 := by
                        rcases htag with q | q
                        · exact absurd hq3 (mj_ent2_q q F.2.2.2.2.2.2.2 F.2.2.2.2.1).2.2
                        · exact q
                      have h1 := mj_ent_ok htag5 (by decide)
                      unfold mj_eck at h1
                      simp only [Bool.and_eq_true] at h1
                      have h2 := h1.1.1.2
                      simp only [bne_self_eq_false, Bool.false_or, Bool.and_eq_true, decide_eq_true_eq] at h2
                      obtain ⟨n1, n2⟩ := F.2.2.2.2.2.1.2.2.2.2.2.1
                      have hnest : va_Nw (.methodLinkNest (mj_own k) idx (mj_y k') "TokenHeart") s := by
                        have ho := F.2.2.2.2.2.2.2
                        rw [hk']
                        rcases h2.2 with ⟨z1, z2, z3⟩ | ⟨z1, z2, z3⟩
                        · rw [z1] at ho
                          rw [← ho, z3, z2]
                          exact n1
                        · rw [z1] at ho
                          rw [← ho, z3, z2]
                          exact n2
                      exact mj_after_q (pc := pc) hh hok2 hle1 (va_runIN (As := t.map (mj_val X)) (rest := s2.map (mj_val X)) hcf hM ⟨va_cnB t.length F.2.2.2.2.1 gws hwsm rfl rfl hnest (F.2.2.2.2.1 _ iin) ⟨w3.1, w3.2, by rw [w2, hlen]⟩ hroom, u1, F.2.2.2.2.1 _ kin⟩ ⟨mj_Pc_blind_q, hPcU⟩ rfl (by simp) hlsz hstk hw8 hd hf) kk
        · dsimp only at h
          cases h
          intro H locs ls hh
          rcases mj_ret_inv_q hs with ⟨rfl, x, rfl, rfl, hx⟩ | ⟨rfl, rfl, rfl, hx⟩
          · exact hend H locs ls pc n _ L hd hm (Or.inl ⟨rfl, x, rfl, hx⟩) hh
          · exact hend H locs ls pc n _ L hd hm (Or.inr ⟨rfl, rfl, hx⟩) hh
