section ro
variable {k pc n : Nat} {L st L' st' : List mj_V} {G G' : mj_G} {M M' : mj_M} {pc' : Nat}
/-- what is read alone stays -/
theorem st_ro {i : Instr} (hs : mj_step k pc L st G M i n = some (.inl (pc', L', st', G', M'))) (h9 : G'.1 ≤ 9000) : ∀ a, 9000 ≤ a → M' a = M a := by
  rcases mj_isI i with ⟨idx, hi⟩ | hni
  · rw [mj_inv_st hi] at hs
    rcases inv_call hs with ⟨a, s2, q, rfl, hl4, hz⟩ | ⟨x, y, w, a, b, la, lb, s2, q, rfl, ha, hb', hc, hz⟩ | ⟨a, s2, q, rfl, hc, hz⟩ | ⟨x, a, s2, q, rfl, hc, hz⟩ | ⟨as, s2, -, -, -, -, -, -, hz⟩
    · cases hz; exact fun _ _ => rfl
    · cases hz
      have := (mj_ty_ok hb').1
      intro c hc
      unfold mj_cpy mj_upr
      rw [if_neg (by omega)]
    · cases hz; exact fun _ _ => rfl
    · cases hz; exact fun _ _ => rfl
    · cases hz
  cases i
  case iconst c0 =>
    obtain hz := inv_iconst hs
    cases hz
    exact fun _ _ => rfl
  case bipush c0 =>
    obtain hz := inv_bipush hs
    cases hz
    exact fun _ _ => rfl
  case sipush c0 =>
    obtain hz := inv_sipush hs
    cases hz
    exact fun _ _ => rfl
  case lconst c0 =>
    obtain hz := inv_lconst hs
    cases hz
    exact fun _ _ => rfl
  case iload_n j =>
    obtain ⟨x, hl, hz⟩ := inv_iload_n hs
    cases hz
    exact fun _ _ => rfl
  case iload j =>
    obtain ⟨x, hl, hz⟩ := inv_iload hs
    cases hz
    exact fun _ _ => rfl
  case aload_n j =>
    obtain ⟨x, hl, hz⟩ := inv_aload_n hs
    cases hz
    exact fun _ _ => rfl
  case aload j =>
    obtain ⟨x, hl, hz⟩ := inv_aload hs
    cases hz
    exact fun _ _ => rfl
  case istore_n j =>
    obtain ⟨x, s2, rfl, hl, hz⟩ := inv_istore_n hs
    cases hz
    exact fun _ _ => rfl
  case istore j =>
    obtain ⟨x, s2, rfl, hl, hz⟩ := inv_istore hs
    cases hz
    exact fun _ _ => rfl
  case astore_n j =>
    obtain ⟨x, s2, rfl, hl, hz⟩ := inv_astore_n hs
    cases hz
    exact fun _ _ => rfl
  case astore j =>
    obtain ⟨x, s2, rfl, hl, hz⟩ := inv_astore hs
    cases hz
    exact fun _ _ => rfl
  case iinc j c0 =>
    obtain ⟨x, hl, hz⟩ := inv_iinc hs
    cases hz
    exact fun _ _ => rfl
  case iadd  =>
    obtain ⟨x, y, s2, rfl, hz⟩ := inv_iadd hs
    cases hz
    exact fun _ _ => rfl
  case isub  =>
    obtain ⟨x, y, s2, rfl, hz⟩ := inv_isub hs
    cases hz
    exact fun _ _ => rfl
  case imul  =>
    obtain ⟨x, y, s2, rfl, hz⟩ := inv_imul hs
    cases hz
    exact fun _ _ => rfl
  case iand  =>
    obtain ⟨x, y, s2, rfl, hz⟩ := inv_iand hs
    cases hz
    exact fun _ _ => rfl
  case ior  =>
    obtain ⟨x, y, s2, rfl, hz⟩ := inv_ior hs
    cases hz
    exact fun _ _ => rfl
  case ishl  =>
    obtain ⟨x, y, s2, rfl, hz⟩ := inv_ishl hs
    cases hz
    exact fun _ _ => rfl
  case ishr  =>
    obtain ⟨x, y, s2, rfl, hz⟩ := inv_ishr hs
    cases hz
    exact fun _ _ => rfl
  case iushr  =>
    obtain ⟨x, y, s2, rfl, hz⟩ := inv_iushr hs
    cases hz
    exact fun _ _ => rfl
  case land  =>
    obtain ⟨x, y, s2, rfl, hz⟩ := inv_land hs
    cases hz
    exact fun _ _ => rfl
  case lor  =>
    obtain ⟨x, y, s2, rfl, hz⟩ := inv_lor hs
    cases hz
    exact fun _ _ => rfl
  case lshl  =>
    obtain ⟨x, y, s2, rfl, hz⟩ := inv_lshl hs
    cases hz
    exact fun _ _ => rfl
  case lcmp  =>
    obtain ⟨x, y, s2, rfl, hz⟩ := inv_lcmp hs
    cases hz
    exact fun _ _ => rfl
  case idiv  =>
    obtain ⟨x, y, s2, rfl, hy, hz⟩ := inv_idiv hs
    cases hz
    exact fun _ _ => rfl
  case irem  =>
    obtain ⟨x, y, s2, rfl, hy, hz⟩ := inv_irem hs
    cases hz
    exact fun _ _ => rfl
  case ineg  =>
    obtain ⟨x, s2, rfl, hz⟩ := inv_ineg hs
    cases hz
    exact fun _ _ => rfl
  case dup  =>
    obtain ⟨v, s2, rfl, hv, hz⟩ := inv_dup hs
    cases hz
    exact fun _ _ => rfl
  case dup2  =>
    obtain ⟨x, a, s2, rfl, hz⟩ := inv_dup2 hs
    cases hz
    exact fun _ _ => rfl
  case pop  =>
    obtain ⟨v, s2, rfl, hv, hz⟩ := inv_pop hs
    cases hz
    exact fun _ _ => rfl
  case goto off =>
    obtain hz := inv_goto hs
    cases hz
    exact fun _ _ => rfl
  case tableswitch d lo hi offs =>
    obtain ⟨x, s2, rfl, hz⟩ := inv_tableswitch hs
    cases hz
    exact fun _ _ => rfl
  case lookupswitch d qs =>
    obtain ⟨x, s2, rfl, hz⟩ := inv_lookupswitch hs
    cases hz
    exact fun _ _ => rfl
  case iaload  =>
    obtain ⟨x, a, len, s2, rfl, ha, hi, hz⟩ := inv_iaload hs
    cases hz
    exact fun _ _ => rfl
  case baload  =>
    obtain ⟨x, a, len, s2, rfl, ha, hi, hz⟩ := inv_baload hs
    cases hz
    exact fun _ _ => rfl
  case laload  =>
    obtain ⟨x, a, len, s2, rfl, ha, hi, hz⟩ := inv_laload hs
    cases hz
    exact fun _ _ => rfl
  case aaload  =>
    obtain ⟨x, a, len, s2, rfl, ha, hi, hz⟩ := inv_aaload hs
    cases hz
    exact fun _ _ => rfl
  case arraylength  =>
    obtain ⟨a, len, s2, rfl, ha, hz⟩ := inv_arraylength hs
    cases hz
    exact fun _ _ => rfl
  case iastore  =>
    obtain ⟨x, y, a, len, s2, rfl, ha, hi, hz⟩ := inv_iastore hs
    cases hz
    have := (mj_ty_ok ha).1
    exact fun c hc => mj_up_ne (by omega)
  case bastore  =>
    obtain ⟨x, y, a, len, s2, rfl, ha, hi, hz⟩ := inv_bastore hs
    cases hz
    have := (mj_ty_ok ha).1
    exact fun c hc => mj_up_ne (by omega)
  case lastore  =>
    obtain ⟨x, y, a, len, s2, rfl, ha, hi, hz⟩ := inv_lastore hs
    cases hz
    have := (mj_ty_ok ha).1
    exact fun c hc => mj_up_ne (by omega)
  case getstatic idx =>
    obtain hz := inv_getstatic hs
    cases hz
    exact fun _ _ => rfl
  case ldc idx =>
    obtain ⟨h4, hz⟩ := inv_ldc hs
    cases hz
    exact fun _ _ => rfl
  case new idx =>
    obtain ⟨h4, hz⟩ := inv_new hs
    cases hz
    have h8 : G.1 + 1 ≤ 9000 := h9
    intro c hc
    unfold mj_upr
    rw [if_neg (by omega)]
  case newarray t =>
    obtain ⟨x, s2, ty, rfl, hx, hty, hz⟩ := inv_newarray hs
    cases hz
    have h8 : G.1 + 1 ≤ 9000 := h9
    intro c hc
    unfold mj_upr
    rw [if_neg (by omega)]
  case multianewarray idx d =>
    obtain ⟨x, y, s2, rfl, hx, hz⟩ := inv_multianewarray hs
    cases hz
    intro c hc
    unfold mj_newMM
    unfold mj_newM at h9
    dsimp only at h9
    rw [if_neg (by omega)]
  case ifCond c off =>
    obtain ⟨x, s2, rfl, hz⟩ := inv_ifCond hs
    cases c <;> simp only [mj_br] at hz <;> split at hz <;> cases hz <;> exact fun _ _ => rfl
  case if_icmp c off =>
    obtain ⟨x, y, s2, rfl, hz⟩ := inv_if_icmp hs
    cases c <;> simp only [mj_br] at hz <;> split at hz <;> cases hz <;> exact fun _ _ => rfl
  case getfield idx =>
    obtain ⟨a, ci, j, s2, rfl, hq, ho, hz⟩ := inv_getfield hs
    rcases hz with ⟨-, -, hz⟩ | ⟨-, hz⟩ <;> cases hz <;> exact fun _ _ => rfl
  case putfield idx =>
    obtain ⟨v, a, ci, j, s2, rfl, hq, ho, hfn, hz⟩ := inv_putfield hs
    have := (mj_isO_ok ho).1
    rcases hz with ⟨x, rfl, hv, hz⟩ | ⟨b, rfl, hv, hz⟩
    · cases hz; exact fun c hc => mj_up_ne (by omega)
    · cases hz; exact fun _ _ => rfl
  case ireturn =>
    obtain ⟨x, -, -, hz⟩ := inv_ireturn hs
    cases hz
  case return_ =>
    obtain ⟨-, -, hz⟩ := inv_return_ hs
    cases hz
  case invokevirtual idx => exact absurd ⟨idx, Or.inr (Or.inl rfl)⟩ hni
  case invokestatic idx => exact absurd ⟨idx, Or.inl rfl⟩ hni
  case invokespecial idx => exact absurd ⟨idx, Or.inr (Or.inr rfl)⟩ hni
  all_goals (simp only [mj_step] at hs; cases hs)
end ro
theorem mj_go_ro : ∀ (f : Nat) {d k pc : Nat} {L st : List mj_V} {G G' : mj_G} {M M' : mj_M} {r : Option mj_V}, mj_go f d k pc L st G M = some (r, G', M') → G'.1 ≤ 9000 → ∀ a, 9000 ≤ a → M' a = M a := by
  intro f
  induction f with
  | zero => intro d k pc L st G G' M M' r h; cases h
  | succ f ih =>
    intro d k pc L st G G' M M' r h h9 a ha
    unfold mj_go at h
    cases hc : mj_code k pc with
    | none => rw [hc] at h; cases h
    | some q =>
      obtain ⟨i, n⟩ := q
      rw [hc] at h
      dsimp only at h
      cases hs : mj_step k pc L st G M i n with
      | none => rw [hs] at h; cases h
      | some z =>
        rw [hs] at h
        rcases z with ⟨pc', L', st', G1, M1⟩ | ⟨k', as, st'⟩ | r'
        · dsimp only at h
          have h2 := (mj_go_le f h).1
          rw [ih h h9 a ha, st_ro hs (Nat.le_trans h2 h9) a ha]
        · dsimp only at h
          cases d with
          | zero => cases h
          | succ d =>
            dsimp only at h
            cases hcal : mj_go f d k' 0 (mj_ent k' as) [] G M with
            | none => rw [hcal] at h; cases h
            | some w =>
              obtain ⟨r1, G1, M1⟩ := w
              rw [hcal] at h
              dsimp only at h
              have h2 := (mj_go_le f h).1
              rw [ih h h9 a ha, ih hcal (Nat.le_trans h2 h9) a ha]
        · cases h; rfl
theorem mj_Rn_ro {d k : Nat} {L : List mj_V} {G G' : mj_G} {M M' : mj_M} {r : Option mj_V} (h : ∀ Q, mj_Rn d k 0 L [] G M Q = Q r G' M') (h9 : G'.1 ≤ 9000) : ∀ a, 9000 ≤ a → M' a = M a := by
  have t : mj_Rn d k 0 L [] G M (fun r1 G1 M1 => r1 = r ∧ G1 = G' ∧ M1 = M') := by rw [h]; exact ⟨rfl, rfl, rfl⟩
  obtain ⟨f, r1, G1, M1, hf, rfl, rfl, rfl⟩ := t
  exact mj_go_ro f hf h9
