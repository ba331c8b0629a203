section st
variable {p : Program} {l : Launch} {e : Env} {R : Room} {s : State} {m : MethodId} {args : Array Value} {below : List Frame} {meth : Method} {c : Code} {Q : State → Prop} {X : mj_Cx} {n0 s0 : Nat}
variable {k pc n : Nat} {L st L' st' : List mj_V} {G G' : mj_G} {M M' : mj_M} {pc' : Nat}
theorem mj_isI_q (i : Instr) : (∃ idx, mj_isInv i idx) ∨ ¬ ∃ idx, mj_isInv i idx := Classical.em _
/-- no step takes an object or a slot away -/
theorem st_mono_q {i : Instr} (hs : mj_step k pc L st G M i n = some (.inl (pc', L', st', G', M'))) : G.1 ≤ G'.1 ∧ G.2.1 ≤ G'.2.1 ∧ L'.length = L.length := by
  rcases mj_isI_q i with ⟨idx, hi⟩ | hni
  · rw [mj_inv_st hi] at hs
    rcases inv_call hs with ⟨a, s2, q, rfl, hl4, hz⟩ | ⟨x, y, w, a, b, la, lb, s2, q, rfl, ha, hb', hc, hz⟩ | ⟨a, s2, q, rfl, hc, hz⟩ | ⟨x, a, s2, q, rfl, hc, hz⟩ | ⟨as, s2, -, -, -, -, -, -, hz⟩ <;> cases hz <;> exact ⟨Nat.le_refl _, Nat.le_refl _, rfl⟩
  cases i
  case iconst c0 =>
    obtain hz := inv_iconst hs
    cases hz
    exact ⟨by simp [mj_new, mj_newA, mj_newM] <;> omega, by simp [mj_new, mj_newA, mj_newM] <;> omega, by simp⟩
  case bipush c0 =>
    obtain hz := inv_bipush hs
    cases hz
    exact ⟨by simp [mj_new, mj_newA, mj_newM] <;> omega, by simp [mj_new, mj_newA, mj_newM] <;> omega, by simp⟩
  case sipush c0 =>
    obtain hz := inv_sipush hs
    cases hz
    exact ⟨by simp [mj_new, mj_newA, mj_newM] <;> omega, by simp [mj_new, mj_newA, mj_newM] <;> omega, by simp⟩
  case lconst c0 =>
    obtain hz := inv_lconst hs
    cases hz
    exact ⟨by simp [mj_new, mj_newA, mj_newM] <;> omega, by simp [mj_new, mj_newA, mj_newM] <;> omega, by simp⟩
  case iload_n j =>
    obtain ⟨x, hl, hz⟩ := inv_iload_n hs
    cases hz
    exact ⟨by simp [mj_new, mj_newA, mj_newM] <;> omega, by simp [mj_new, mj_newA, mj_newM] <;> omega, by simp⟩
  case iload j =>
    obtain ⟨x, hl, hz⟩ := inv_iload hs
    cases hz
    exact ⟨by simp [mj_new, mj_newA, mj_newM] <;> omega, by simp [mj_new, mj_newA, mj_newM] <;> omega, by simp⟩
  case aload_n j =>
    obtain ⟨x, hl, hz⟩ := inv_aload_n hs
    cases hz
    exact ⟨by simp [mj_new, mj_newA, mj_newM] <;> omega, by simp [mj_new, mj_newA, mj_newM] <;> omega, by simp⟩
  case aload j =>
    obtain ⟨x, hl, hz⟩ := inv_aload hs
    cases hz
    exact ⟨by simp [mj_new, mj_newA, mj_newM] <;> omega, by simp [mj_new, mj_newA, mj_newM] <;> omega, by simp⟩
  case istore_n j =>
    obtain ⟨x, s2, rfl, hl, hz⟩ := inv_istore_n hs
    cases hz
    exact ⟨by simp [mj_new, mj_newA, mj_newM] <;> omega, by simp [mj_new, mj_newA, mj_newM] <;> omega, by simp⟩
  case istore j =>
    obtain ⟨x, s2, rfl, hl, hz⟩ := inv_istore hs
    cases hz
    exact ⟨by simp [mj_new, mj_newA, mj_newM] <;> omega, by simp [mj_new, mj_newA, mj_newM] <;> omega, by simp⟩
  case astore_n j =>
    obtain ⟨x, s2, rfl, hl, hz⟩ := inv_astore_n hs
    cases hz
    exact ⟨by simp [mj_new, mj_newA, mj_newM] <;> omega, by simp [mj_new, mj_newA, mj_newM] <;> omega, by simp⟩
  case astore j =>
    obtain ⟨x, s2, rfl, hl, hz⟩ := inv_astore hs
    cases hz
    exact ⟨by simp [mj_new, mj_newA, mj_newM] <;> omega, by simp [mj_new, mj_newA, mj_newM] <;> omega, by simp⟩
  case iinc j c0 =>
    obtain ⟨x, hl, hz⟩ := inv_iinc hs
    cases hz
    exact ⟨by simp [mj_new, mj_newA, mj_newM] <;> omega, by simp [mj_new, mj_newA, mj_newM] <;> omega, by simp⟩
  case iadd  =>
    obtain ⟨x, y, s2, rfl, hz⟩ := inv_iadd hs
    cases hz
    exact ⟨by simp [mj_new, mj_newA, mj_newM] <;> omega, by simp [mj_new, mj_newA, mj_newM] <;> omega, by simp⟩
  case isub  =>
    obtain ⟨x, y, s2, rfl, hz⟩ := inv_isub hs
    cases hz
    exact ⟨by simp [mj_new, mj_newA, mj_newM] <;> omega, by simp [mj_new, mj_newA, mj_newM] <;> omega, by simp⟩
  case imul  =>
    obtain ⟨x, y, s2, rfl, hz⟩ := inv_imul hs
    cases hz
    exact ⟨by simp [mj_new, mj_newA, mj_newM] <;> omega, by simp [mj_new, mj_newA, mj_newM] <;> omega, by simp⟩
  case iand  =>
    obtain ⟨x, y, s2, rfl, hz⟩ := inv_iand hs
    cases hz
    exact ⟨by simp [mj_new, mj_newA, mj_newM] <;> omega, by simp [mj_new, mj_newA, mj_newM] <;> omega, by simp⟩
  case ior  =>
    obtain ⟨x, y, s2, rfl, hz⟩ := inv_ior hs
    cases hz
    exact ⟨by simp [mj_new, mj_newA, mj_newM] <;> omega, by simp [mj_new, mj_newA, mj_newM] <;> omega, by simp⟩
  case ishl  =>
    obtain ⟨x, y, s2, rfl, hz⟩ := inv_ishl hs
    cases hz
    exact ⟨by simp [mj_new, mj_newA, mj_newM] <;> omega, by simp [mj_new, mj_newA, mj_newM] <;> omega, by simp⟩
  case ishr  =>
    obtain ⟨x, y, s2, rfl, hz⟩ := inv_ishr hs
    cases hz
    exact ⟨by simp [mj_new, mj_newA, mj_newM] <;> omega, by simp [mj_new, mj_newA, mj_newM] <;> omega, by simp⟩
  case iushr  =>
    obtain ⟨x, y, s2, rfl, hz⟩ := inv_iushr hs
    cases hz
    exact ⟨by simp [mj_new, mj_newA, mj_newM] <;> omega, by simp [mj_new, mj_newA, mj_newM] <;> omega, by simp⟩
  case land  =>
    obtain ⟨x, y, s2, rfl, hz⟩ := inv_land hs
    cases hz
    exact ⟨by simp [mj_new, mj_newA, mj_newM] <;> omega, by simp [mj_new, mj_newA, mj_newM] <;> omega, by simp⟩
  case lor  =>
    obtain ⟨x, y, s2, rfl, hz⟩ := inv_lor hs
    cases hz
    exact ⟨by simp [mj_new, mj_newA, mj_newM] <;> omega, by simp [mj_new, mj_newA, mj_newM] <;> omega, by simp⟩
  case lshl  =>
    obtain ⟨x, y, s2, rfl, hz⟩ := inv_lshl hs
    cases hz
    exact ⟨by simp [mj_new, mj_newA, mj_newM] <;> omega, by simp [mj_new, mj_newA, mj_newM] <;> omega, by simp⟩
  case lcmp  =>
    obtain ⟨x, y, s2, rfl, hz⟩ := inv_lcmp hs
    cases hz
    exact ⟨by simp [mj_new, mj_newA, mj_newM] <;> omega, by simp [mj_new, mj_newA, mj_newM] <;> omega, by simp⟩
  case idiv  =>
    obtain ⟨x, y, s2, rfl, hy, hz⟩ := inv_idiv hs
    cases hz
    exact ⟨by simp [mj_new, mj_newA, mj_newM] <;> omega, by simp [mj_new, mj_newA, mj_newM] <;> omega, by simp⟩
  case irem  =>
    obtain ⟨x, y, s2, rfl, hy, hz⟩ := inv_irem hs
    cases hz
    exact ⟨by simp [mj_new, mj_newA, mj_newM] <;> omega, by simp [mj_new, mj_newA, mj_newM] <;> omega, by simp⟩
  case ineg  =>
    obtain ⟨x, s2, rfl, hz⟩ := inv_ineg hs
    cases hz
    exact ⟨by simp [mj_new, mj_newA, mj_newM] <;> omega, by simp [mj_new, mj_newA, mj_newM] <;> omega, by simp⟩
  case dup  =>
    obtain ⟨v, s2, rfl, hv, hz⟩ := inv_dup hs
    cases hz
    exact ⟨by simp [mj_new, mj_newA, mj_newM] <;> omega, by simp [mj_new, mj_newA, mj_newM] <;> omega, by simp⟩
  case dup2  =>
    obtain ⟨x, a, s2, rfl, hz⟩ := inv_dup2 hs
    cases hz
    exact ⟨by simp [mj_new, mj_newA, mj_newM] <;> omega, by simp [mj_new, mj_newA, mj_newM] <;> omega, by simp⟩
  case pop  =>
    obtain ⟨v, s2, rfl, hv, hz⟩ := inv_pop hs
    cases hz
    exact ⟨by simp [mj_new, mj_newA, mj_newM] <;> omega, by simp [mj_new, mj_newA, mj_newM] <;> omega, by simp⟩
  case goto off =>
    obtain hz := inv_goto hs
    cases hz
    exact ⟨by simp [mj_new, mj_newA, mj_newM] <;> omega, by simp [mj_new, mj_newA, mj_newM] <;> omega, by simp⟩
  case tableswitch d lo hi offs =>
    obtain ⟨x, s2, rfl, hz⟩ := inv_tableswitch hs
    cases hz
    exact ⟨by simp [mj_new, mj_newA, mj_newM] <;> omega, by simp [mj_new, mj_newA, mj_newM] <;> omega, by simp⟩
  case lookupswitch d qs =>
    obtain ⟨x, s2, rfl, hz⟩ := inv_lookupswitch hs
    cases hz
    exact ⟨by simp [mj_new, mj_newA, mj_newM] <;> omega, by simp [mj_new, mj_newA, mj_newM] <;> omega, by simp⟩
  case iaload  =>
    obtain ⟨x, a, len, s2, rfl, ha, hi, hz⟩ := inv_iaload hs
    cases hz
    exact ⟨by simp [mj_new, mj_newA, mj_newM] <;> omega, by simp [mj_new, mj_newA, mj_newM] <;> omega, by simp⟩
  case baload  =>
    obtain ⟨x, a, len, s2, rfl, ha, hi, hz⟩ := inv_baload hs
    cases hz
    exact ⟨by simp [mj_new, mj_newA, mj_newM] <;> omega, by simp [mj_new, mj_newA, mj_newM] <;> omega, by simp⟩
  case laload  =>
    obtain ⟨x, a, len, s2, rfl, ha, hi, hz⟩ := inv_laload hs
    cases hz
    exact ⟨by simp [mj_new, mj_newA, mj_newM] <;> omega, by simp [mj_new, mj_newA, mj_newM] <;> omega, by simp⟩
  case aaload  =>
    obtain ⟨x, a, len, s2, rfl, ha, hi, hz⟩ := inv_aaload hs
    cases hz
    exact ⟨by simp [mj_new, mj_newA, mj_newM] <;> omega, by simp [mj_new, mj_newA, mj_newM] <;> omega, by simp⟩
  case arraylength  =>
    obtain ⟨a, len, s2, rfl, ha, hz⟩ := inv_arraylength hs
    cases hz
    exact ⟨by simp [mj_new, mj_newA, mj_newM] <;> omega, by simp [mj_new, mj_newA, mj_newM] <;> omega, by simp⟩
  case iastore  =>
    obtain ⟨x, y, a, len, s2, rfl, ha, hi, hz⟩ := inv_iastore hs
    cases hz
    exact ⟨by simp [mj_new, mj_newA, mj_newM] <;> omega, by simp [mj_new, mj_newA, mj_newM] <;> omega, by simp⟩
  case bastore  =>
    obtain ⟨x, y, a, len, s2, rfl, ha, hi, hz⟩ := inv_bastore hs
    cases hz
    exact ⟨by simp [mj_new, mj_newA, mj_newM] <;> omega, by simp [mj_new, mj_newA, mj_newM] <;> omega, by simp⟩
  case lastore  =>
    obtain ⟨x, y, a, len, s2, rfl, ha, hi, hz⟩ := inv_lastore hs
    cases hz
    exact ⟨by simp [mj_new, mj_newA, mj_newM] <;> omega, by simp [mj_new, mj_newA, mj_newM] <;> omega, by simp⟩
  case getstatic idx =>
    obtain hz := inv_getstatic hs
    cases hz
    exact ⟨by simp [mj_new, mj_newA, mj_newM] <;> omega, by simp [mj_new, mj_newA, mj_newM] <;> omega, by simp⟩
  case ldc idx =>
    obtain ⟨h4, hz⟩ := inv_ldc hs
    cases hz
    exact ⟨by simp [mj_new, mj_newA, mj_newM] <;> omega, by simp [mj_new, mj_newA, mj_newM] <;> omega, by simp⟩
  case new idx =>
    obtain ⟨h4, hz⟩ := inv_new hs
    cases hz
    exact ⟨by simp [mj_new, mj_newA, mj_newM] <;> omega, by simp [mj_new, mj_newA, mj_newM] <;> omega, by simp⟩
  case newarray t =>
    obtain ⟨x, s2, ty, rfl, hx, hty, hz⟩ := inv_newarray hs
    cases hz
    exact ⟨by simp [mj_new, mj_newA, mj_newM] <;> omega, by simp [mj_new, mj_newA, mj_newM] <;> omega, by simp⟩
  case multianewarray idx d =>
    obtain ⟨x, y, s2, rfl, hx, hz⟩ := inv_multianewarray hs
    cases hz
    exact ⟨by simp [mj_new, mj_newA, mj_newM] <;> omega, by simp [mj_new, mj_newA, mj_newM] <;> omega, by simp⟩
  case ifCond c off =>
    obtain ⟨x, s2, rfl, hz⟩ := inv_ifCond hs
    cases c <;> simp only [mj_br] at hz <;> split at hz <;> cases hz <;> exact ⟨Nat.le_refl _, Nat.le_refl _, rfl⟩
  case if_icmp c off =>
    obtain ⟨x, y, s2, rfl, hz⟩ := inv_if_icmp hs
    cases c <;> simp only [mj_br] at hz <;> split at hz <;> cases hz <;> exact ⟨Nat.le_refl _, Nat.le_refl _, rfl⟩
  case getfield idx =>
    obtain ⟨a, ci, j, s2, rfl, hq, ho, hz⟩ := inv_getfield hs
    rcases hz with ⟨-, -, hz⟩ | ⟨-, hz⟩ <;> cases hz <;> exact ⟨Nat.le_refl _, Nat.le_refl _, rfl⟩
  case putfield idx =>
    obtain ⟨v, a, ci, j, s2, rfl, hq, ho, hfn, hz⟩ := inv_putfield hs
    rcases hz with ⟨x, rfl, hv, hz⟩ | ⟨b, rfl, hv, hz⟩ <;> cases hz <;> exact ⟨Nat.le_refl _, Nat.le_refl _, rfl⟩
  case ireturn =>
    obtain ⟨x, -, -, hz⟩ := inv_ireturn hs
    cases hz
  case return_ =>
    obtain ⟨-, -, hz⟩ := inv_return_ hs
    cases hz
  case invokevirtual idx => exact absurd ⟨idx, Or.inr (Or.inl rfl)⟩ hni
  case invokestatic idx => exact absurd ⟨idx, Or.inl rfl⟩ hni
  case invokespecial idx => exact absurd ⟨idx, Or.inr (Or.inr rfl)⟩ hni
  all_goals (simp only [mj_step] at hs; cases hs)
theorem mj_cn_own_q (hk : k < 288) (h2 : mj_kd k = 2) : mj_cn (mj_oc k) = mj_own k := by
  by_cases h : k < 287
  · obtain ⟨-, -, -, -, a5, -⟩ := mj_m_ok h
    rcases a5 with q | q
    · omega
    · exact q.2.1
  · have : k = 287 := by omega
    subst this
    exact absurd h2 (by decide +kernel)
/-- a step of the small machine is a stretch of the machine -/
theorem st_sound_q (hSL : so_slenP_q) (hSC : so_schrP_q) {i : Instr} (F : mj_Fx_q p s m args meth c X k) (hn0 : s.heap.size = mj_N X + n0) (hL : L.length = mj_ml k) (hR : 8 ≤ R.frames ∧ 512 ≤ R.locals ∧ G'.1 - n0 ≤ R.cells ∧ G'.2.1 - s0 ≤ R.slots) (h9 : G'.1 ≤ 9000) (hk : k < 288) (hs : mj_step k pc L st G M i n = some (.inl (pc', L', st', G', M'))) (hd : decode (mj_by k) pc = .ok (i, n)) (hm : mj_sem k pc i n = true) (hm2 : mj_sem2 k i = true) (kk : (∀ (H : Heap) (locs : List Loc) (ls : Array Slot), mj_h X s n0 s0 (G') (M') (L') (st') H locs ls → W p l e R s m args below meth c H locs ((G').1 - n0) ((G').2.1 - s0) Q (F0 m (pc') ls ((st' : List mj_V).map (mj_val X))))) : (∀ (H : Heap) (locs : List Loc) (ls : Array Slot), mj_h X s n0 s0 (G) (M) (L) (st) H locs ls → W p l e R s m args below meth c H locs (G.1 - n0) (G.2.1 - s0) Q (F0 m (pc) ls ((st : List mj_V).map (mj_val X)))) := by
  rcases mj_isI_q i with ⟨idx, hi⟩ | hni
  · have h2 : ((mj_pool (mj_oc k) idx).2 = 9 → i = .invokespecial idx) ∧ ((mj_pool (mj_oc k) idx).2 = 4 → i = .invokestatic idx) ∧ (((mj_pool (mj_oc k) idx).2 = 5 ∨ (mj_pool (mj_oc k) idx).2 = 6) → i = .invokevirtual idx) := by
      rcases hi with rfl | rfl | rfl
      · have := of_decide_eq_true (show decide _ = true from hm2)
        exact ⟨fun q => by omega, fun _ => rfl, fun q => by omega⟩
      · have := of_decide_eq_true (show decide _ = true from hm2)
        exact ⟨fun q => by omega, fun q => by omega, fun _ => rfl⟩
      · have := of_decide_eq_true (show decide _ = true from hm2)
        exact ⟨fun _ => rfl, fun q => by omega, fun q => by omega⟩
    exact ss_inv_q hSL hSC hi F hn0 hL hR h9 hs hd hm h2.1 h2.2.1 h2.2.2 kk
  cases i
  case iconst c0 => exact ss_iconst_q F hn0 hL hR h9 hs hd hm kk
  case bipush c0 => exact ss_bipush_q F hn0 hL hR h9 hs hd hm kk
  case sipush c0 => exact ss_sipush_q F hn0 hL hR h9 hs hd hm kk
  case lconst c0 => exact ss_lconst_q F hn0 hL hR h9 hs hd hm kk
  case iload_n j => exact ss_iload_n_q F hn0 hL hR h9 hs hd hm kk
  case iload j => exact ss_iload_q F hn0 hL hR h9 hs hd hm kk
  case aload_n j => exact ss_aload_n_q F hn0 hL hR h9 hs hd hm kk
  case aload j => exact ss_aload_q F hn0 hL hR h9 hs hd hm kk
  case istore_n j => exact ss_istore_n_q F hn0 hL hR h9 hs hd hm kk
  case istore j => exact ss_istore_q F hn0 hL hR h9 hs hd hm kk
  case astore_n j => exact ss_astore_n_q F hn0 hL hR h9 hs hd hm kk
  case astore j => exact ss_astore_q F hn0 hL hR h9 hs hd hm kk
  case iinc j c0 => exact ss_iinc_q F hn0 hL hR h9 hs hd hm kk
  case iadd  => exact ss_iadd_q F hn0 hL hR h9 hs hd hm kk
  case isub  => exact ss_isub_q F hn0 hL hR h9 hs hd hm kk
  case imul  => exact ss_imul_q F hn0 hL hR h9 hs hd hm kk
  case iand  => exact ss_iand_q F hn0 hL hR h9 hs hd hm kk
  case ior  => exact ss_ior_q F hn0 hL hR h9 hs hd hm kk
  case ishl  => exact ss_ishl_q F hn0 hL hR h9 hs hd hm kk
  case ishr  => exact ss_ishr_q F hn0 hL hR h9 hs hd hm kk
  case iushr  => exact ss_iushr_q F hn0 hL hR h9 hs hd hm kk
  case land  => exact ss_land_q F hn0 hL hR h9 hs hd hm kk
  case lor  => exact ss_lor_q F hn0 hL hR h9 hs hd hm kk
  case lshl  => exact ss_lshl_q F hn0 hL hR h9 hs hd hm kk
  case lcmp  => exact ss_lcmp_q F hn0 hL hR h9 hs hd hm kk
  case idiv  => exact ss_idiv_q F hn0 hL hR h9 hs hd hm kk
  case irem  => exact ss_irem_q F hn0 hL hR h9 hs hd hm kk
  case ineg  => exact ss_ineg_q F hn0 hL hR h9 hs hd hm kk
  case dup  => exact ss_dup_q F hn0 hL hR h9 hs hd hm kk
  case dup2  => exact ss_dup2_q F hn0 hL hR h9 hs hd hm kk
  case pop  => exact ss_pop_q F hn0 hL hR h9 hs hd hm kk
  case goto off => exact ss_goto_q F hn0 hL hR h9 hs hd hm kk
  case tableswitch d lo hi offs => exact ss_tableswitch_q F hn0 hL hR h9 hs hd hm kk
  case lookupswitch d qs => exact ss_lookupswitch_q F hn0 hL hR h9 hs hd hm kk
  case iaload  => exact ss_iaload_q F hn0 hL hR h9 hs hd hm kk
  case baload  => exact ss_baload_q F hn0 hL hR h9 hs hd hm kk
  case laload  => exact ss_laload_q F hn0 hL hR h9 hs hd hm kk
  case aaload  => exact ss_aaload_q F hn0 hL hR h9 hs hd hm kk
  case arraylength  => exact ss_arraylength_q F hn0 hL hR h9 hs hd hm kk
  case iastore  => exact ss_iastore_q F hn0 hL hR h9 hs hd hm kk
  case bastore  => exact ss_bastore_q F hn0 hL hR h9 hs hd hm kk
  case lastore  => exact ss_lastore_q F hn0 hL hR h9 hs hd hm kk
  case getstatic idx => exact ss_getstatic_q F hn0 hL hR h9 hs hd hm kk
  case ldc idx =>
    have h2 : mj_oc k = 11 ∧ (idx, (mj_pool (mj_oc k) idx).1) ∈ [(52, 0), (58, 1), (60, 2), (88, 3)] := of_decide_eq_true (show decide _ = true from hm2)
    have ho := F.2.2.2.2.2.2.2
    rw [h2.1] at ho
    exact ss_ldc_q F hn0 hL hR h9 hs hd hm ⟨by rw [← ho]; rfl, h2.2⟩ kk
  case new idx => exact ss_new_q F hn0 hL hR h9 hs hd hm kk
  case newarray t => exact ss_newarray_q F hn0 hL hR h9 hs hd hm kk
  case multianewarray idx d => exact ss_multianewarray_q F hn0 hL hR h9 hs hd hm kk
  case ifCond c off => exact ss_ifCond_q F hn0 hL hR h9 hs hd hm kk
  case if_icmp c off => exact ss_if_icmp_q F hn0 hL hR h9 hs hd hm kk
  case getfield idx => exact ss_getfield_q F hn0 hL hR h9 hs hd hm kk
  case putfield idx => exact ss_putfield_q F hn0 hL hR h9 hs hd hm (mj_cn_own_q hk) kk
  case ireturn =>
    obtain ⟨x, -, -, hz⟩ := inv_ireturn hs
    cases hz
  case return_ =>
    obtain ⟨-, -, hz⟩ := inv_return_ hs
    cases hz
  case invokevirtual idx => exact absurd ⟨idx, Or.inr (Or.inl rfl)⟩ hni
  case invokestatic idx => exact absurd ⟨idx, Or.inl rfl⟩ hni
  case invokespecial idx => exact absurd ⟨idx, Or.inr (Or.inr rfl)⟩ hni
  all_goals (simp only [mj_step] at hs; cases hs)
theorem mj_call_inv_q {i : Instr} {k' : Nat} {as s2 : List mj_V} (hs : mj_step k pc L st G M i n = some (.inr (.inl (k', as, s2)))) : ∃ idx, mj_isInv i idx ∧ k' = (mj_pool (mj_oc k) idx).1 ∧ ((mj_pool (mj_oc k) idx).2 < 4 ∧ ((mj_pool (mj_oc k) idx).2 = mj_kd k' ∨ ((mj_pool (mj_oc k) idx).2 = 3 ∧ mj_kd k' = 2))) ∧ st = as.reverse ++ s2 ∧ as.length = mj_na k' ∧ mj_wt s2 ≤ 8 ∧ (∀ v ∈ as, mj_lng v = false) ∧ ((mj_pool (mj_oc k) idx).2 = 1 ∨ ∃ a t, as = .inr (.inl a) :: t ∧ mj_isO G a (mj_oc k') = true) := by
  rcases mj_isI_q i with ⟨idx, hi⟩ | hni
  · rw [mj_inv_st hi] at hs
    rcases inv_call hs with ⟨a, s2, q, rfl, hl4, hz⟩ | ⟨x, y, w, a, b, la, lb, s2, q, rfl, ha, hb', hc, hz⟩ | ⟨a, s2, q, rfl, hc, hz⟩ | ⟨x, a, s2, q, rfl, hc, hz⟩ | ⟨as, s2, h1, h2, h3, h4, h5, h6, hz⟩ <;> cases hz
    exact ⟨idx, hi, rfl, h1, h2, h3, h4, h5, h6⟩
  exfalso
  cases i
  case iconst c0 =>
    obtain hz := inv_iconst hs
    cases hz
  case bipush c0 =>
    obtain hz := inv_bipush hs
    cases hz
  case sipush c0 =>
    obtain hz := inv_sipush hs
    cases hz
  case lconst c0 =>
    obtain hz := inv_lconst hs
    cases hz
  case iload_n j =>
    obtain ⟨x, hl, hz⟩ := inv_iload_n hs
    cases hz
  case iload j =>
    obtain ⟨x, hl, hz⟩ := inv_iload hs
    cases hz
  case aload_n j =>
    obtain ⟨x, hl, hz⟩ := inv_aload_n hs
    cases hz
  case aload j =>
    obtain ⟨x, hl, hz⟩ := inv_aload hs
    cases hz
  case istore_n j =>
    obtain ⟨x, s2, rfl, hl, hz⟩ := inv_istore_n hs
    cases hz
  case istore j =>
    obtain ⟨x, s2, rfl, hl, hz⟩ := inv_istore hs
    cases hz
  case astore_n j =>
    obtain ⟨x, s2, rfl, hl, hz⟩ := inv_astore_n hs
    cases hz
  case astore j =>
    obtain ⟨x, s2, rfl, hl, hz⟩ := inv_astore hs
    cases hz
  case iinc j c0 =>
    obtain ⟨x, hl, hz⟩ := inv_iinc hs
    cases hz
  case iadd  =>
    obtain ⟨x, y, s2, rfl, hz⟩ := inv_iadd hs
    cases hz
  case isub  =>
    obtain ⟨x, y, s2, rfl, hz⟩ := inv_isub hs
    cases hz
  case imul  =>
    obtain ⟨x, y, s2, rfl, hz⟩ := inv_imul hs
    cases hz
  case iand  =>
    obtain ⟨x, y, s2, rfl, hz⟩ := inv_iand hs
    cases hz
  case ior  =>
    obtain ⟨x, y, s2, rfl, hz⟩ := inv_ior hs
    cases hz
  case ishl  =>
    obtain ⟨x, y, s2, rfl, hz⟩ := inv_ishl hs
    cases hz
  case ishr  =>
    obtain ⟨x, y, s2, rfl, hz⟩ := inv_ishr hs
    cases hz
  case iushr  =>
    obtain ⟨x, y, s2, rfl, hz⟩ := inv_iushr hs
    cases hz
  case land  =>
    obtain ⟨x, y, s2, rfl, hz⟩ := inv_land hs
    cases hz
  case lor  =>
    obtain ⟨x, y, s2, rfl, hz⟩ := inv_lor hs
    cases hz
  case lshl  =>
    obtain ⟨x, y, s2, rfl, hz⟩ := inv_lshl hs
    cases hz
  case lcmp  =>
    obtain ⟨x, y, s2, rfl, hz⟩ := inv_lcmp hs
    cases hz
  case idiv  =>
    obtain ⟨x, y, s2, rfl, hy, hz⟩ := inv_idiv hs
    cases hz
  case irem  =>
    obtain ⟨x, y, s2, rfl, hy, hz⟩ := inv_irem hs
    cases hz
  case ineg  =>
    obtain ⟨x, s2, rfl, hz⟩ := inv_ineg hs
    cases hz
  case dup  =>
    obtain ⟨v, s2, rfl, hv, hz⟩ := inv_dup hs
    cases hz
  case dup2  =>
    obtain ⟨x, a, s2, rfl, hz⟩ := inv_dup2 hs
    cases hz
  case pop  =>
    obtain ⟨v, s2, rfl, hv, hz⟩ := inv_pop hs
    cases hz
  case goto off =>
    obtain hz := inv_goto hs
    cases hz
  case tableswitch d lo hi offs =>
    obtain ⟨x, s2, rfl, hz⟩ := inv_tableswitch hs
    cases hz
  case lookupswitch d qs =>
    obtain ⟨x, s2, rfl, hz⟩ := inv_lookupswitch hs
    cases hz
  case iaload  =>
    obtain ⟨x, a, len, s2, rfl, ha, hi, hz⟩ := inv_iaload hs
    cases hz
  case baload  =>
    obtain ⟨x, a, len, s2, rfl, ha, hi, hz⟩ := inv_baload hs
    cases hz
  case laload  =>
    obtain ⟨x, a, len, s2, rfl, ha, hi, hz⟩ := inv_laload hs
    cases hz
  case aaload  =>
    obtain ⟨x, a, len, s2, rfl, ha, hi, hz⟩ := inv_aaload hs
    cases hz
  case arraylength  =>
    obtain ⟨a, len, s2, rfl, ha, hz⟩ := inv_arraylength hs
    cases hz
  case iastore  =>
    obtain ⟨x, y, a, len, s2, rfl, ha, hi, hz⟩ := inv_iastore hs
    cases hz
  case bastore  =>
    obtain ⟨x, y, a, len, s2, rfl, ha, hi, hz⟩ := inv_bastore hs
    cases hz
  case lastore  =>
    obtain ⟨x, y, a, len, s2, rfl, ha, hi, hz⟩ := inv_lastore hs
    cases hz
  case getstatic idx =>
    obtain hz := inv_getstatic hs
    cases hz
  case ldc idx =>
    obtain ⟨h4, hz⟩ := inv_ldc hs
    cases hz
  case new idx =>
    obtain ⟨h4, hz⟩ := inv_new hs
    cases hz
  case newarray t =>
    obtain ⟨x, s2, ty, rfl, hx, hty, hz⟩ := inv_newarray hs
    cases hz
  case multianewarray idx d =>
    obtain ⟨x, y, s2, rfl, hx, hz⟩ := inv_multianewarray hs
    cases hz
  case ifCond c off =>
    obtain ⟨x, s2, rfl, hz⟩ := inv_ifCond hs
    cases c <;> simp only [mj_br] at hz <;> split at hz <;> cases hz
  case if_icmp c off =>
    obtain ⟨x, y, s2, rfl, hz⟩ := inv_if_icmp hs
    cases c <;> simp only [mj_br] at hz <;> split at hz <;> cases hz
  case getfield idx =>
    obtain ⟨a, ci, j, s2, rfl, hq, ho, hz⟩ := inv_getfield hs
    rcases hz with ⟨-, -, hz⟩ | ⟨-, hz⟩ <;> cases hz
  case putfield idx =>
    obtain ⟨v, a, ci, j, s2, rfl, hq, ho, hfn, hz⟩ := inv_putfield hs
    rcases hz with ⟨x, rfl, hv, hz⟩ | ⟨b, rfl, hv, hz⟩ <;> cases hz
  case ireturn =>
    obtain ⟨x, -, -, hz⟩ := inv_ireturn hs
    cases hz
  case return_ =>
    obtain ⟨-, -, hz⟩ := inv_return_ hs
    cases hz
  case invokevirtual idx => exact absurd ⟨idx, Or.inr (Or.inl rfl)⟩ hni
  case invokestatic idx => exact absurd ⟨idx, Or.inl rfl⟩ hni
  case invokespecial idx => exact absurd ⟨idx, Or.inr (Or.inr rfl)⟩ hni
  all_goals (simp only [mj_step] at hs; cases hs)
theorem mj_ret_inv_q {i : Instr} {r : Option mj_V} (hs : mj_step k pc L st G M i n = some (.inr (.inr r))) : (i = .ireturn ∧ ∃ x, st = [.inl x] ∧ r = some (.inl x) ∧ (mj_rt k = 1 ∨ (mj_rt k = 2 ∧ 0 ≤ x ∧ x ≤ 1))) ∨ (i = .return_ ∧ st = [] ∧ r = none ∧ mj_rt k = 0) := by
  rcases mj_isI_q i with ⟨idx, hi⟩ | hni
  · rw [mj_inv_st hi] at hs
    rcases inv_call hs with ⟨a, s2, q, rfl, hl4, hz⟩ | ⟨x, y, w, a, b, la, lb, s2, q, rfl, ha, hb', hc, hz⟩ | ⟨a, s2, q, rfl, hc, hz⟩ | ⟨x, a, s2, q, rfl, hc, hz⟩ | ⟨as, s2, h1, h2, h3, h4, h5, h6, hz⟩ <;> cases hz
  cases i
  case iconst c0 =>
    obtain hz := inv_iconst hs
    cases hz
  case bipush c0 =>
    obtain hz := inv_bipush hs
    cases hz
  case sipush c0 =>
    obtain hz := inv_sipush hs
    cases hz
  case lconst c0 =>
    obtain hz := inv_lconst hs
    cases hz
  case iload_n j =>
    obtain ⟨x, hl, hz⟩ := inv_iload_n hs
    cases hz
  case iload j =>
    obtain ⟨x, hl, hz⟩ := inv_iload hs
    cases hz
  case aload_n j =>
    obtain ⟨x, hl, hz⟩ := inv_aload_n hs
    cases hz
  case aload j =>
    obtain ⟨x, hl, hz⟩ := inv_aload hs
    cases hz
  case istore_n j =>
    obtain ⟨x, s2, rfl, hl, hz⟩ := inv_istore_n hs
    cases hz
  case istore j =>
    obtain ⟨x, s2, rfl, hl, hz⟩ := inv_istore hs
    cases hz
  case astore_n j =>
    obtain ⟨x, s2, rfl, hl, hz⟩ := inv_astore_n hs
    cases hz
  case astore j =>
    obtain ⟨x, s2, rfl, hl, hz⟩ := inv_astore hs
    cases hz
  case iinc j c0 =>
    obtain ⟨x, hl, hz⟩ := inv_iinc hs
    cases hz
  case iadd  =>
    obtain ⟨x, y, s2, rfl, hz⟩ := inv_iadd hs
    cases hz
  case isub  =>
    obtain ⟨x, y, s2, rfl, hz⟩ := inv_isub hs
    cases hz
  case imul  =>
    obtain ⟨x, y, s2, rfl, hz⟩ := inv_imul hs
    cases hz
  case iand  =>
    obtain ⟨x, y, s2, rfl, hz⟩ := inv_iand hs
    cases hz
  case ior  =>
    obtain ⟨x, y, s2, rfl, hz⟩ := inv_ior hs
    cases hz
  case ishl  =>
    obtain ⟨x, y, s2, rfl, hz⟩ := inv_ishl hs
    cases hz
  case ishr  =>
    obtain ⟨x, y, s2, rfl, hz⟩ := inv_ishr hs
    cases hz
  case iushr  =>
    obtain ⟨x, y, s2, rfl, hz⟩ := inv_iushr hs
    cases hz
  case land  =>
    obtain ⟨x, y, s2, rfl, hz⟩ := inv_land hs
    cases hz
  case lor  =>
    obtain ⟨x, y, s2, rfl, hz⟩ := inv_lor hs
    cases hz
  case lshl  =>
    obtain ⟨x, y, s2, rfl, hz⟩ := inv_lshl hs
    cases hz
  case lcmp  =>
    obtain ⟨x, y, s2, rfl, hz⟩ := inv_lcmp hs
    cases hz
  case idiv  =>
    obtain ⟨x, y, s2, rfl, hy, hz⟩ := inv_idiv hs
    cases hz
  case irem  =>
    obtain ⟨x, y, s2, rfl, hy, hz⟩ := inv_irem hs
    cases hz
  case ineg  =>
    obtain ⟨x, s2, rfl, hz⟩ := inv_ineg hs
    cases hz
  case dup  =>
    obtain ⟨v, s2, rfl, hv, hz⟩ := inv_dup hs
    cases hz
  case dup2  =>
    obtain ⟨x, a, s2, rfl, hz⟩ := inv_dup2 hs
    cases hz
  case pop  =>
    obtain ⟨v, s2, rfl, hv, hz⟩ := inv_pop hs
    cases hz
  case goto off =>
    obtain hz := inv_goto hs
    cases hz
  case tableswitch d lo hi offs =>
    obtain ⟨x, s2, rfl, hz⟩ := inv_tableswitch hs
    cases hz
  case lookupswitch d qs =>
    obtain ⟨x, s2, rfl, hz⟩ := inv_lookupswitch hs
    cases hz
  case iaload  =>
    obtain ⟨x, a, len, s2, rfl, ha, hi, hz⟩ := inv_iaload hs
    cases hz
  case baload  =>
    obtain ⟨x, a, len, s2, rfl, ha, hi, hz⟩ := inv_baload hs
    cases hz
  case laload  =>
    obtain ⟨x, a, len, s2, rfl, ha, hi, hz⟩ := inv_laload hs
    cases hz
  case aaload  =>
    obtain ⟨x, a, len, s2, rfl, ha, hi, hz⟩ := inv_aaload hs
    cases hz
  case arraylength  =>
    obtain ⟨a, len, s2, rfl, ha, hz⟩ := inv_arraylength hs
    cases hz
  case iastore  =>
    obtain ⟨x, y, a, len, s2, rfl, ha, hi, hz⟩ := inv_iastore hs
    cases hz
  case bastore  =>
    obtain ⟨x, y, a, len, s2, rfl, ha, hi, hz⟩ := inv_bastore hs
    cases hz
  case lastore  =>
    obtain ⟨x, y, a, len, s2, rfl, ha, hi, hz⟩ := inv_lastore hs
    cases hz
  case getstatic idx =>
    obtain hz := inv_getstatic hs
    cases hz
  case ldc idx =>
    obtain ⟨h4, hz⟩ := inv_ldc hs
    cases hz
  case new idx =>
    obtain ⟨h4, hz⟩ := inv_new hs
    cases hz
  case newarray t =>
    obtain ⟨x, s2, ty, rfl, hx, hty, hz⟩ := inv_newarray hs
    cases hz
  case multianewarray idx d =>
    obtain ⟨x, y, s2, rfl, hx, hz⟩ := inv_multianewarray hs
    cases hz
  case ifCond c off =>
    obtain ⟨x, s2, rfl, hz⟩ := inv_ifCond hs
    cases c <;> simp only [mj_br] at hz <;> split at hz <;> cases hz
  case if_icmp c off =>
    obtain ⟨x, y, s2, rfl, hz⟩ := inv_if_icmp hs
    cases c <;> simp only [mj_br] at hz <;> split at hz <;> cases hz
  case getfield idx =>
    obtain ⟨a, ci, j, s2, rfl, hq, ho, hz⟩ := inv_getfield hs
    rcases hz with ⟨-, -, hz⟩ | ⟨-, hz⟩ <;> cases hz
  case putfield idx =>
    obtain ⟨v, a, ci, j, s2, rfl, hq, ho, hfn, hz⟩ := inv_putfield hs
    rcases hz with ⟨x, rfl, hv, hz⟩ | ⟨b, rfl, hv, hz⟩ <;> cases hz
  case ireturn =>
    obtain ⟨x, h1, h2, hz⟩ := inv_ireturn hs
    cases hz
    exact Or.inl ⟨rfl, x, h1, rfl, h2⟩
  case return_ =>
    obtain ⟨h1, h2, hz⟩ := inv_return_ hs
    cases hz
    exact Or.inr ⟨rfl, h1, rfl, h2⟩
  case invokevirtual idx => exact absurd ⟨idx, Or.inr (Or.inl rfl)⟩ hni
  case invokestatic idx => exact absurd ⟨idx, Or.inl rfl⟩ hni
  case invokespecial idx => exact absurd ⟨idx, Or.inr (Or.inr rfl)⟩ hni
  all_goals (simp only [mj_step] at hs; cases hs)
end st
theorem mj_go_le_q : ∀ (f : Nat) {d k pc : Nat} {L st : List mj_V} {G G' : mj_G} {M M' : mj_M} {r : Option mj_V}, mj_go f d k pc L st G M = some (r, G', M') → G.1 ≤ G'.1 ∧ G.2.1 ≤ G'.2.1 := by
  intro f
  induction f with
  | zero => intro d k pc L st G G' M M' r h; cases h
  | succ f ih =>
    intro d k pc L st G G' M M' r h
    unfold mj_go at h
    cases hc : mj_code k pc with
    | none => rw [hc] at h; cases h
    | some q =>
      obtain ⟨i, n⟩ := q
      rw [hc] at h
      dsimp only at h
      cases hs : mj_step k pc L st G M i n with
      | none => rw [hs] at h; cases h
      | some z =>
        rw [hs] at h
        rcases z with ⟨pc', L', st', G1, M1⟩ | ⟨k', as, st'⟩ | r'
        · have h1 := st_mono_q hs
          have h2 := ih h
          exact ⟨Nat.le_trans h1.1 h2.1, Nat.le_trans h1.2.1 h2.2⟩
        · dsimp only at h
          cases d with
          | zero => cases h
          | succ d =>
            dsimp only at h
            cases hcal : mj_go f d k' 0 (mj_ent k' as) [] G M with
            | none => rw [hcal] at h; cases h
            | some w =>
              obtain ⟨r1, G1, M1⟩ := w
              rw [hcal] at h
              have h1 := ih hcal
              have h2 := ih h
              exact ⟨Nat.le_trans h1.1 h2.1, Nat.le_trans h1.2 h2.2⟩
        · cases h
          exact ⟨Nat.le_refl _, Nat.le_refl _⟩
