/-- from here the method comes to its end, with Q -/
def mj_Rn (d k pc : Nat) (L st : List mj_V) (G : mj_G) (M : mj_M) (Q : Option mj_V → mj_G → mj_M → Prop) : Prop :=
  ∃ f r G' M', mj_go f d k pc L st G M = some (r, G', M') ∧ Q r G' M'
def mj_pr (d k pc : Nat) (L : List mj_V) (G : mj_G) (M : mj_M) (Q : Option mj_V → mj_G → mj_M → Prop) (W : Nat → List mj_V → List mj_V → mj_G → mj_M → Prop) : Option mj_R → Prop
  | none => False
  | some (.inl (pc', L', st', G', M')) => W pc' L' st' G' M'
  | some (.inr (.inl (k', args, st'))) => (match d with
    | 0 => False
    | d' + 1 => mj_Rn d' k' 0 (mj_ent k' args) [] G M fun r G' M' => W (pc + 3) L (r.toList ++ st') G' M')
  | some (.inr (.inr r)) => Q r G M
def mj_st1 (k pc : Nat) (L st : List mj_V) (G : mj_G) (M : mj_M) : Option mj_R := match mj_code k pc with
    | none => none
    | some (i, n) => mj_step k pc L st G M i n
theorem mj_go_mono : ∀ (f : Nat) {g d k pc : Nat} {L st : List mj_V} {G : mj_G} {M : mj_M} {x : Option mj_V × mj_G × mj_M}, mj_go f d k pc L st G M = some x → f ≤ g → mj_go g d k pc L st G M = some x := by
  intro f
  induction f with
  | zero => intro g d k pc L st G M x h; cases h
  | succ f ih =>
    intro g d k pc L st G M x h hg
    obtain ⟨g, rfl⟩ : ∃ g', g = g' + 1 := ⟨g - 1, by omega⟩
    have hg' : f ≤ g := by omega
    unfold mj_go at h ⊢
    cases hc : mj_code k pc with
    | none => rw [hc] at h; cases h
    | some q =>
      obtain ⟨i, n⟩ := q
      rw [hc] at h
      dsimp only at h ⊢
      cases hs : mj_step k pc L st G M i n with
      | none => rw [hs] at h; cases h
      | some r =>
        rw [hs] at h
        rcases r with ⟨pc', L', st', G', M'⟩ | ⟨k', as, st'⟩ | r
        · exact ih h hg'
        · dsimp only at h ⊢
          cases d with
          | zero => cases h
          | succ d =>
            dsimp only at h ⊢
            cases hcal : mj_go f d k' 0 (mj_ent k' as) [] G M with
            | none => rw [hcal] at h; cases h
            | some z =>
              rw [hcal] at h
              rw [ih hcal hg']
              exact ih h hg'
        · exact h
theorem mj_Rn_step {d k pc : Nat} {L st : List mj_V} {G : mj_G} {M : mj_M} {Q : Option mj_V → mj_G → mj_M → Prop} (h : mj_pr d k pc L G M Q (fun pc' L' st' G' M' => mj_Rn d k pc' L' st' G' M' Q) (mj_st1 k pc L st G M)) : mj_Rn d k pc L st G M Q := by
  unfold mj_st1 at h
  cases hc : mj_code k pc with
  | none => rw [hc] at h; exact h.elim
  | some q =>
    obtain ⟨i, n⟩ := q
    rw [hc] at h
    dsimp only at h
    cases hs : mj_step k pc L st G M i n with
    | none => rw [hs] at h; exact h.elim
    | some r =>
      rw [hs] at h
      rcases r with ⟨pc', L', st', G', M'⟩ | ⟨k', as, st'⟩ | r
      · obtain ⟨f, r, G2, M2, hf, hq⟩ := h
        refine ⟨f + 1, r, G2, M2, ?_, hq⟩
        rw [mj_go, hc]; dsimp only; rw [hs]; exact hf
      · dsimp only [mj_pr] at h
        cases d with
        | zero => exact h.elim
        | succ d =>
          obtain ⟨f, r, G1, M1, hf, f2, r2, G2, M2, hf2, hq⟩ := h
          refine ⟨f + f2 + 1, r2, G2, M2, ?_, hq⟩
          rw [mj_go, hc]; dsimp only; rw [hs]; dsimp only
          rw [mj_go_mono f hf (by omega)]
          exact mj_go_mono f2 hf2 (by omega)
      · refine ⟨1, r, G, M, ?_, h⟩
        rw [mj_go, hc]; dsimp only; rw [hs]
theorem mj_Rn_eq {d k pc : Nat} {L st : List mj_V} {G : mj_G} {M : mj_M} {Q : Option mj_V → mj_G → mj_M → Prop} : mj_Rn d k pc L st G M Q = mj_pr d k pc L G M Q (fun pc' L' st' G' M' => mj_Rn d k pc' L' st' G' M' Q) (mj_st1 k pc L st G M) := by
  apply propext
  refine ⟨fun h => ?_, mj_Rn_step⟩
  obtain ⟨f, r, G2, M2, hf, hq⟩ := h
  cases f with
  | zero => cases hf
  | succ f =>
    unfold mj_st1
    unfold mj_go at hf
    cases hc : mj_code k pc with
    | none => rw [hc] at hf; cases hf
    | some q =>
      obtain ⟨i, n⟩ := q
      rw [hc] at hf
      dsimp only at hf ⊢
      cases hs : mj_step k pc L st G M i n with
      | none => rw [hs] at hf; cases hf
      | some r1 =>
        rw [hs] at hf
        rcases r1 with ⟨pc', L', st', G', M'⟩ | ⟨k', as, st'⟩ | r1
        · exact ⟨f, r, G2, M2, hf, hq⟩
        · dsimp only at hf ⊢
          cases d with
          | zero => cases hf
          | succ d =>
            dsimp only [mj_pr] at hf ⊢
            cases hcal : mj_go f d k' 0 (mj_ent k' as) [] G M with
            | none => rw [hcal] at hf; cases hf
            | some z =>
              obtain ⟨r3, G3, M3⟩ := z
              rw [hcal] at hf
              exact ⟨f, r3, G3, M3, hcal, f, r, G2, M2, hf, hq⟩
        · dsimp only at hf
          cases hf
          exact hq
