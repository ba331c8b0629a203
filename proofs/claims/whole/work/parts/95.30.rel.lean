section re30
variable {A B C M V W A' V' : mj_M} {e e' : Nat}
/-- who calls has called before; who waits serves nobody; who is not there does nothing -/
def z_K (N : Int) (A : mj_M) : Prop := ∀ k : Nat, k < 8 → (A 24 k = 2 → A 34 k < N) ∧ (A 24 k = 1 → A 30 k = -1) ∧ (A 22 13 ≤ k → A 24 k ≠ 1 ∧ A 24 k ≠ 2)
def q_cK (M A : mj_M) : Prop := (∀ N, z_K N M → z_K N A) ∧ (∀ k, M 30 k = -1 → A 30 k = -1) ∧ A 22 = M 22
theorem q_cK_r : q_cK M M := ⟨fun _ h => h, fun _ h => h, rfl⟩
theorem q_cK_t {A B : mj_M} (h : q_cK M A) (h2 : q_cK A B) : q_cK M B := ⟨fun N q => h2.1 N (h.1 N q), fun k q => h2.2.1 k (h.2.1 k q), h2.2.2.trans h.2.2⟩
theorem z_K_c {N : Int} {A : mj_M} (h : z_K N M) (h22 : A 22 = M 22) (h24 : A 24 = M 24) (h30 : A 30 = M 30) (h34 : A 34 = M 34) : z_K N A := by
  intro k hk
  rw [h22, h24, h30, h34]; exact h k hk
theorem q_cK_e {A : mj_M} (h22 : A 22 = M 22) (h24 : A 24 = M 24) (h30 : A 30 = M 30) (h34 : A 34 = M 34) : q_cK M A :=
  ⟨fun N h => z_K_c h h22 h24 h30 h34, fun k q => by rw [h30]; exact q, h22⟩
theorem q_cK_up {A : mj_M} {a i : Nat} {v : Int} (h : q_cK M A) (h2 : (a ≠ 22 ∧ a ≠ 24 ∧ a ≠ 30 ∧ a ≠ 34) ∨ (a = 24 ∧ v ≠ 1 ∧ v ≠ 2) ∨ (a = 30 ∧ v = -1)) : q_cK M (mj_up A a i v) := by
  refine ⟨?_, ?_, ?_⟩
  · intro N q k hk
    have := h.1 N q k hk
    rcases h2 with h2 | ⟨h2, h3, h4⟩ | ⟨h2, h3⟩
    · rw [mj_up_ne (by omega), mj_up_ne (by omega), mj_up_ne (by omega), mj_up_ne (by omega)]; exact this
    · subst h2
      rw [mj_up_at, mj_up_ne (show (34 : Nat) ≠ 24 by omega), mj_up_ne (show (30 : Nat) ≠ 24 by omega), mj_up_ne (show (22 : Nat) ≠ 24 by omega)]
      by_cases c : k = i
      · rw [if_pos c]; exact ⟨fun q => absurd q h4, fun q => absurd q h3, fun _ => ⟨h3, h4⟩⟩
      · rw [if_neg c]; exact this
    · subst h2
      rw [mj_up_at, mj_up_ne (show (34 : Nat) ≠ 30 by omega), mj_up_ne (show (24 : Nat) ≠ 30 by omega), mj_up_ne (show (22 : Nat) ≠ 30 by omega)]
      by_cases c : k = i
      · rw [if_pos c]; exact ⟨this.1, fun _ => h3, this.2.2⟩
      · rw [if_neg c]; exact this
  · intro k q
    have := h.2.1 k q
    rcases h2 with h2 | ⟨h2, h3, h4⟩ | ⟨h2, h3⟩
    · rw [mj_up_ne (by omega)]; exact this
    · subst h2; rw [mj_up_ne (by omega)]; exact this
    · subst h2
      rw [mj_up_at]
      split
      · exact h3
      · exact this
  · rw [mj_up_ne (by omega)]; exact h.2.2
theorem q_cK_for {N : Nat} {F : Nat → mj_M → mj_M} (h : ∀ t M, t < N → q_cK M (F t M)) : ∀ (n t : Nat) (M : mj_M), t + n = N → q_cK M (q_for F n t M) := by
  intro n
  induction n with
  | zero => intro t M _; exact q_cK_r
  | succ n ih => intro t M h2; exact q_cK_t (h t M (by omega)) (ih (t + 1) _ (by omega))
theorem q_put_K {k th r l b s la : Int}  : q_cK M (q_put M k th r l b s la) := by
  unfold q_put
  exact q_cK_up (q_cK_up (q_cK_up (q_cK_up (q_cK_up (q_cK_up (q_cK_up (q_cK_up (q_cK_up (q_cK_up (q_cK_up (q_cK_r) (by omega)) (by omega)) (by omega)) (by omega)) (by omega)) (by omega)) (by omega)) (by omega)) (by omega)) (by omega)) (by omega)
theorem q_lendM_K {f k m b s : Int}  : q_cK M (q_lendM M f k m b s) := by
  unfold q_lendM
  split
  · exact q_put_K
  · exact q_cK_r
theorem q_mark_K {t : Int}  : q_cK M (q_mark M t) := by
  unfold q_mark
  exact q_cK_up (q_cK_up (q_cK_r) (by omega)) (by omega)
theorem q_use_K {t : Int}  : q_cK M (q_use M t) := by
  unfold q_use
  split
  · exact q_mark_K
  · exact q_cK_r
theorem q_wake_K {r a : Int}  : q_cK M (q_wake M r a) := by
  unfold q_wake
  exact q_cK_up (q_cK_up (q_cK_up (q_cK_up (q_cK_up (q_cK_r) (by omega)) (by omega)) (by omega)) (by omega)) (by omega)
theorem q_end1_K {r : Int}  : q_cK M (q_end1 M r) := by
  unfold q_end1
  split
  · exact q_cK_r
  · exact q_cK_up (q_wake_K) (by omega)
theorem q_end2_K {r : Int}  : q_cK M (q_end2 M r) := by
  unfold q_end2
  split
  · exact q_cK_r
  · exact q_cK_up (q_cK_up (q_cK_r) (by omega)) (by omega)
theorem q_end_K {r s : Int} (hs : s ≠ 1 ∧ s ≠ 2) : q_cK M (q_end M r s) := by
  unfold q_end
  exact q_cK_up (q_cK_up (q_cK_t q_end1_K q_end2_K) (by omega)) (by omega)
theorem q_fault_K {r : Int}  : q_cK M (q_fault M r) := by
  unfold q_fault
  have h : q_cK M (q_end (mj_up M 1 11 (mj_w (M 1 11 + 1))) r 3) := q_cK_t (q_cK_up (q_cK_r) (by omega)) (q_end_K (by omega))
  simp only []
  split
  · exact h
  · split
    · exact h
    · exact q_cK_t h q_wake_K
theorem f_49_K {y : Int} {t : Nat}  : q_cK M (f_49 y t M) := by
  unfold f_49
  split
  · exact q_cK_up (q_cK_r) (by omega)
  · exact q_cK_r
theorem f_52_K {y : Int} {t : Nat}  : q_cK M (f_52 y t M) := by
  unfold f_52
  split
  · exact q_cK_up (q_cK_r) (by omega)
  · exact q_cK_r
theorem f_53_K {y : Int} {t : Nat}  : q_cK M (f_53 y t M) := by
  unfold f_53
  split
  · exact q_cK_up (q_cK_r) (by omega)
  · exact q_cK_r
theorem f_111_K {y : Int} {t : Nat}  : q_cK M (f_111 y t M) := by
  unfold f_111
  split
  · exact q_mark_K
  · exact q_cK_r
theorem f_57_K {y : Int} {t : Nat}  : q_cK M (f_57 y t M) := by
  unfold f_57
  split
  · exact q_mark_K
  · exact q_cK_r
theorem f_54_K {y : Int} {t : Nat}  : q_cK M (f_54 y t M) := by
  unfold f_54
  split
  · exact q_end_K (by omega)
  · exact q_cK_r
theorem f_58a_K {y : Int} {t : Nat}  : q_cK M (f_58a y t M) := by
  unfold f_58a
  split
  · exact q_end_K (by omega)
  · exact q_cK_r
theorem f_58b_K {y : Int} {t : Nat}  : q_cK M (f_58b y t M) := by
  unfold f_58b
  split
  · exact q_cK_up (q_cK_r) (by omega)
  · exact q_cK_r
theorem f_58_K {y : Int} {t : Nat}  : q_cK M (f_58 y t M) := by
  unfold f_58
  exact q_cK_t f_58a_K f_58b_K
theorem q_gr_K {t v : Int}  : q_cK M (q_gr M t v) := by
  unfold q_gr
  split
  · exact q_cK_up (q_cK_r) (by omega)
  · exact q_cK_up (q_cK_r) (by omega)
theorem f_43_K {t : Nat}  : q_cK M (f_43 t M) := by
  unfold f_43
  split
  · exact q_cK_up (q_cK_r) (by omega)
  · exact q_cK_r
theorem f_45_K {t : Nat}  : q_cK M (f_45 t M) := by
  unfold f_45
  split
  · exact q_gr_K
  · exact q_cK_r
theorem f_48_K {t : Nat}  : q_cK M (f_48 t M) := by
  unfold f_48 q_lose1
  split
  · exact q_cK_up (q_cK_t (q_cK_up (q_cK_up (q_cK_r) (by omega)) (by omega)) (q_cK_for (N := 40) (fun _ _ _ => f_49_K) 40 0 _ rfl)) (by omega)
  · exact q_cK_r
theorem q_lt0_K {y : Int}  : q_cK M (q_lt0 M y) := by
  unfold q_lt0
  exact q_cK_up (q_gr_K) (by omega)
theorem q_over_K {y : Int}  : q_cK M (q_over M y) := by
  unfold q_over
  exact q_cK_for (N := (M 36 5).toNat) (fun _ _ _ => f_53_K) _ 0 _ (by omega)
theorem q_endIn_K {y : Int}  : q_cK M (q_endIn M y) := by
  unfold q_endIn
  exact q_cK_for (N := (M 22 13).toNat) (fun _ _ _ => f_54_K) _ 0 _ (by omega)
theorem q_stopAt_K {y : Int}  : q_cK M (q_stopAt M y) := by
  unfold q_stopAt
  exact q_cK_for (N := (M 22 13).toNat) (fun _ _ _ => f_58_K) _ 0 _ (by omega)
theorem q_lt1_K {y : Int}  : q_cK M (q_lt1 M y) := by
  unfold q_lt1
  exact q_cK_t (q_cK_t q_lt0_K (q_cK_for (N := 120) (fun _ _ _ => f_52_K) 120 0 _ rfl)) q_over_K
theorem q_lt_K {y : Int}  : q_cK M (q_lt M y) := by
  unfold q_lt
  split
  · exact q_cK_t (q_cK_t q_lt1_K q_endIn_K) (q_cK_for (N := 10) (fun _ _ _ => f_57_K) 10 0 _ rfl)
  · split
    · exact q_cK_t q_lt1_K q_stopAt_K
    · exact q_lt1_K
theorem f_42_K {t : Nat}  : q_cK M (f_42 t M) := by
  unfold f_42
  split
  · exact q_lt_K
  · exact q_cK_r
theorem q_mab_K   : q_cK M (q_mab M) := by
  unfold q_mab
  exact q_cK_for (N := 120) (fun _ _ _ => f_43_K) 120 0 _ rfl
theorem q_gbr_K   : q_cK M (q_gbr M) := by
  unfold q_gbr
  exact q_cK_for (N := 120) (fun _ _ _ => f_45_K) 120 0 _ rfl
theorem q_lts_K   : q_cK M (q_lts M) := by
  unfold q_lts
  exact q_cK_up (q_cK_for (N := 120) (fun _ _ _ => f_48_K) 120 0 _ rfl) (by omega)
theorem q_pass_K   : q_cK M (q_pass M) := by
  unfold q_pass
  exact q_cK_t (q_cK_t q_mab_K (q_cK_t q_gbr_K q_lts_K)) (q_cK_for (N := 40) (fun _ _ _ => f_42_K) 39 1 _ rfl)
theorem q_swp_K : ∀ (n : Nat) (M : mj_M), q_cK M (q_swp n M) := by
  intro n
  induction n with
  | zero => intro M; exact q_cK_r
  | succ n ih =>
    intro M
    unfold q_swp
    split
    · exact q_cK_r
    · exact q_cK_t q_pass_K (ih _)
theorem q_sweep_K : q_cK M (q_sweep M) := q_swp_K 41 M
theorem q_md_K {most : Int} : ∀ (n t : Nat) (m : Int) (M : mj_M), q_cK M (q_md most n t m M) := by
  intro n
  induction n with
  | zero => intro t m M; exact q_cK_r
  | succ n ih =>
    intro t m M
    unfold q_md
    split
    · split
      · exact q_cK_t q_mark_K (ih _ _ _)
      · exact ih _ _ _
    · exact q_cK_r
/-- who serves -/
theorem q_serve_K {s c N : Int} (h : z_K N M) (hs : s < M 22 13) (h0 : 0 ≤ s) : z_K N (q_serve M s c) := by
  have h1 : z_K N (q_wake M s (M 26 c.toNat)) := q_wake_K.1 N h
  obtain ⟨d0, d1, d2, d3, d4, d5⟩ := z_wk (A := M) (u := s) (a := M 26 c.toNat)
  intro k hk
  have := h1 k hk
  have e22 : q_wake M s (M 26 c.toNat) 22 = M 22 := d0 22 (by omega)
  have e1 : ∀ o, o ≠ 29 → o ≠ 30 → q_serve M s c o = q_wake M s (M 26 c.toNat) o := fun o h1 h2 => by unfold q_serve; rw [mj_up_ne h1, mj_up_ne h2]
  have e2 : q_serve M s c 30 k = if k = s.toNat then c else q_wake M s (M 26 c.toNat) 30 k := by unfold q_serve; rw [mj_up_ne (by omega), mj_up_at]
  rw [e1 22 (by omega) (by omega), e1 24 (by omega) (by omega), e1 34 (by omega) (by omega), e2]
  by_cases q : k = s.toNat
  · rw [if_pos q]
    have e4 : q_wake M s (M 26 c.toNat) 24 k = 0 := by rw [d1, if_pos q]
    refine ⟨this.1, fun q2 => by omega, fun q2 => ?_⟩
    rw [e22] at q2; omega
  · rw [if_neg q]; exact this
theorem q_goes_K {r : Nat} {s g b c n N : Int} (h : z_K N M) (hr : (r : Int) < M 22 13) (hs : s = 1 ∧ M 30 r = -1 ∨ s = 2 ∧ n < N) : z_K N (q_goes M r s g b c n) := by
  intro k hk
  have hA := q_goesA (A := M) (r := r) (s := s) (g := g) (b := b) (c := c) (n := n)
  have := h k hk
  rw [hA.2.1, hA.2.2.2.2.2, hA.1 30 (by omega) (by omega) (by omega) (by omega) (by omega), hA.1 22 (by omega) (by omega) (by omega) (by omega) (by omega)]
  by_cases q : k = r
  · rw [if_pos q, if_pos q, q]
    refine ⟨fun _ => by omega, fun _ => by omega, fun _ => by omega⟩
  · rw [if_neg q, if_neg q]; exact this
theorem q_clM_K {r : Nat} {a b c N : Int} (h : z_K N M) (w : q_wr M) (hr : (r : Int) < M 22 13) (hn : M 1 7 < N) : z_K N (q_clM M r a b c) := by
  unfold q_clM
  split
  · refine q_use_K.1 N ?_
    have hl := q_leastW_in (g := M 4 (q_ta M (M 23 r) a).toNat) w
    by_cases c1 : q_clS M r a = -1
    · rw [if_pos c1]
      exact q_goes_K h hr (Or.inr ⟨rfl, hn⟩)
    · rw [if_neg c1]
      have hS : 0 ≤ q_clS M r a ∧ q_clS M r a < M 22 13 := by
        unfold q_clS at c1 ⊢
        simp only [Int.toNat_natCast] at c1 ⊢
        rcases hl with q | q
        · exact absurd q c1
        · exact ⟨q.1, q.2.1⟩
      have hL : q_cK M (q_clLM M r b (q_clS M r a)) := by
        unfold q_clLM
        split
        · exact q_cK_r
        · exact q_lendM_K
      have h2 := q_serve_K (c := (r : Int)) (hL.1 N h) (by rw [hL.2.2]; exact hS.2) hS.1
      exact q_goes_K h2 (by rw [q_serve_o (by omega), hL.2.2]; exact hr) (Or.inr ⟨rfl, hn⟩)
  · exact h
theorem q_wM_K {r g b : Int} : ∀ (n : Nat) (M : mj_M) (u : Int), q_cK M (q_wM r g b n M u) := by
  intro n
  induction n with
  | zero => intro M u; exact q_cK_r
  | succ n ih =>
    intro M u
    unfold q_wM
    split
    · exact q_cK_r
    split
    · exact q_cK_r
    split
    · exact q_lendM_K
    · exact q_cK_t q_fault_K (ih _ _)
theorem q_wtM_K {r : Nat} {a b c N : Int} (h : z_K N M) (hr : (r : Int) < M 22 13) : z_K N (q_wtM M r a b c) := by
  unfold q_wtM
  split
  · rename_i q
    have h30 : M 30 r = -1 := by
      unfold q_wt at q
      split at q
      · rename_i q2; simpa using q2.2
      · omega
    generalize q_wtG M r a = g
    generalize q_wtT M r a = t
    generalize q_wC r g b 8 M (q_firstC M g) = u
    have k1 : q_cK M (q_wM r g b 8 M (q_firstC M g)) := q_wM_K 8 M _
    unfold q_wF
    refine q_use_K.1 N ?_
    have r1 : (r : Int) < q_wM r g b 8 M (q_firstC M g) 22 13 := by rw [k1.2.2]; exact hr
    split
    · exact q_goes_K (k1.1 N h) r1 (Or.inl ⟨rfl, k1.2.1 r h30⟩)
    · exact q_serve_K (k1.1 N h) r1 (by omega)
  · exact h
theorem q_anM_K {r b : Int} : q_cK M (q_anM M r b) := by
  unfold q_anM
  split
  · have wl : q_cK M (q_anL M r b) := by
      unfold q_anL
      split
      · exact q_cK_r
      · exact q_lendM_K
    have ww : q_cK (q_anL M r b) (q_anW (q_anL M r b) r (M 30 r.toNat)) := by
      unfold q_anW
      exact q_cK_up (q_cK_t (q_cK_up q_cK_r (by omega)) q_wake_K) (by omega)
    unfold q_anP
    split
    · exact q_cK_t wl (q_cK_t ww (q_cK_for (N := 120) (fun _ _ _ => f_111_K) 120 0 _ rfl))
    · exact q_cK_t wl ww
  · exact q_cK_r
theorem q_splitM_K {t n b s : Int}  : q_cK M (q_splitM M t n b s) := by
  unfold q_splitM
  split
  · exact q_cK_up (q_cK_up (q_put_K) (by omega)) (by omega)
  · exact q_cK_r
theorem q_sealM_K {t b : Int}  : q_cK M (q_sealM M t b) := by
  unfold q_sealM
  split
  · exact q_cK_t (q_cK_up (q_cK_r) (by omega)) q_use_K
  · exact q_cK_r
theorem q_openM_K {t b : Int}  : q_cK M (q_openM M t b) := by
  unfold q_openM
  split
  · exact q_cK_t (q_cK_up (q_cK_r) (by omega)) q_use_K
  · exact q_cK_r
theorem q_dropM_K {t : Int}  : q_cK M (q_dropM M t) := by
  unfold q_dropM
  split
  · exact q_mark_K
  · exact q_cK_r
theorem q_tillM_K {t k : Int}  : q_cK M (q_tillM M t k) := by
  unfold q_tillM
  split
  · exact q_cK_up (q_cK_r) (by omega)
  · exact q_cK_r
theorem q_dmF_K {o : Int} {t : Nat} : q_cK M (q_dmF M o t) := q_cK_e (q_dmF_ne (by omega)) (q_dmF_ne (by omega)) (q_dmF_ne (by omega)) (q_dmF_ne (by omega))
theorem q_takeM_K {t : Int}  : q_cK M (q_takeM M t) := by
  unfold q_takeM
  split
  · exact q_dmF_K
  · exact q_cK_r
theorem q_ninM_K {t : Int}  : q_cK M (q_ninM M t) := by
  unfold q_ninM
  split
  · exact q_cK_r
  · exact q_cK_up (q_cK_r) (by omega)
theorem q_roL_K {y : Int}  : q_cK M (q_roL M y) := by
  unfold q_roL
  split
  · exact q_cK_up (q_cK_r) (by omega)
  · split
    · exact q_cK_up (q_cK_r) (by omega)
    · exact q_cK_up (q_ninM_K) (by omega)
theorem q_roM_K {b s : Int}  : q_cK M (q_roM M b s) := by
  unfold q_roM
  split
  · exact q_cK_t q_roL_K q_use_K
  · exact q_cK_r
theorem q_ppM_K {t y c : Int}  : q_cK M (q_ppM M t y c) := by
  unfold q_ppM
  split
  · exact q_cK_t q_lendM_K q_use_K
  · exact q_cK_r
theorem q_pgM_K {y b a c : Int}  : q_cK M (q_pgM M y b a c) := by
  unfold q_pgM
  split
  · exact q_cK_t q_lendM_K q_use_K
  · exact q_cK_r
theorem q_beg_K {t k o : Int}  : q_cK M (q_beg M t k o) := by
  unfold q_beg
  exact q_cK_up (q_cK_up (q_cK_up (q_cK_up (q_cK_up (q_cK_up (q_cK_r) (by omega)) (by omega)) (by omega)) (by omega)) (by omega)) (by omega)
theorem q_makeM_K {t k b s : Int}  : q_cK M (q_makeM M t k b s) := by
  unfold q_makeM
  split
  · exact q_cK_up (q_cK_t q_put_K q_beg_K) (by omega)
  · exact q_cK_r
theorem q_pout_K {y v : Int}  : q_cK M (q_pout M y v) := by
  unfold q_pout
  split
  · exact q_cK_up (q_cK_up (q_cK_r) (by omega)) (by omega)
  · exact q_cK_up (q_cK_r) (by omega)
theorem q_wiL_K {y v : Int}  : q_cK M (q_wiL M y v) := by
  unfold q_wiL
  split
  · exact q_cK_up (q_cK_r) (by omega)
  · exact q_pout_K
theorem q_wiM_K {b s v : Int}  : q_cK M (q_wiM M b s v) := by
  unfold q_wiM
  split
  · exact q_cK_t q_wiL_K q_use_K
  · exact q_cK_r
theorem q_prfM_K {box what a b c : Int}  : q_cK M (q_prfM M box what a b c) := by
  unfold q_prfM
  split
  · exact q_lendM_K
  split
  · exact q_lendM_K
  split
  · exact q_lendM_K
  split
  · exact q_splitM_K
  split
  · exact q_makeM_K
  split
  · exact q_sealM_K
  split
  · exact q_openM_K
  split
  · exact q_takeM_K
  split
  · exact q_dropM_K
  split
  · exact q_ppM_K
  split
  · exact q_pgM_K
  split
  · exact q_tillM_K
  · exact q_cK_r
theorem q_wkM_K {r : Int}  : q_cK M (q_wkM M r) := by
  unfold q_wkM
  split
  · refine q_cK_up ?_ (by omega)
    unfold q_wkB
    split
    · exact q_end_K (by omega)
    split
    · exact q_cK_up q_cK_r (by omega)
    split
    · exact q_cK_up q_cK_r (by omega)
    split
    · exact q_cK_r
    split
    · exact q_cK_up q_roM_K (by omega)
    split
    · exact q_wiM_K
    · exact q_prfM_K
  · exact q_cK_r
theorem z_K_m {N L : Int} (h : z_K N M) (l : N ≤ L) : z_K L M := fun k hk => ⟨fun q => by have := (h k hk).1 q; omega, (h k hk).2⟩
theorem q_tkD_K {r : Nat} {N : Int} (h : z_K N M) (w : q_wr M) (hr : (r : Int) < M 22 13) (hn : M 1 7 < N) : z_K N (q_tkD M r) := by
  have hA : z_K N (q_tkA M r) := by
    unfold q_tkA
    split
    · split
      · unfold q_mtM
        split
        · split
          · exact q_clM_K h w hr hn
          split
          · exact q_wtM_K h hr
          · exact q_anM_K.1 N h
        · exact h
      · exact q_wkM_K.1 N h
    · exact h
  unfold q_tkD
  split
  · exact hA
  · exact q_fault_K.1 N hA
/-- the row of what was read -/
def q_cL (M A : mj_M) : Prop := A 132 = M 132
theorem q_cL_r : q_cL M M := rfl
theorem q_cL_t {A B : mj_M} (h : q_cL M A) (h2 : q_cL A B) : q_cL M B := Eq.trans h2 h
theorem q_cL_up {A : mj_M} {a i : Nat} {v : Int} (h : q_cL M A) (h2 : a ≠ 132) : q_cL M (mj_up A a i v) := by
  unfold q_cL; rw [mj_up_ne (by omega)]; exact h
theorem q_cL_for {N : Nat} {F : Nat → mj_M → mj_M} (h : ∀ t M, t < N → q_cL M (F t M)) : ∀ (n t : Nat) (M : mj_M), t + n = N → q_cL M (q_for F n t M) := by
  intro n
  induction n with
  | zero => intro t M _; exact q_cL_r
  | succ n ih => intro t M h2; exact q_cL_t (h t M (by omega)) (ih (t + 1) _ (by omega))
theorem q_mark_L {t : Int}  : q_cL M (q_mark M t) := by
  unfold q_mark
  exact q_cL_up (q_cL_up (q_cL_r) (by omega)) (by omega)
theorem q_wake_L {r a : Int}  : q_cL M (q_wake M r a) := by
  unfold q_wake
  exact q_cL_up (q_cL_up (q_cL_up (q_cL_up (q_cL_up (q_cL_r) (by omega)) (by omega)) (by omega)) (by omega)) (by omega)
theorem q_end1_L {r : Int}  : q_cL M (q_end1 M r) := by
  unfold q_end1
  split
  · exact q_cL_r
  · exact q_cL_up (q_wake_L) (by omega)
theorem q_end2_L {r : Int}  : q_cL M (q_end2 M r) := by
  unfold q_end2
  split
  · exact q_cL_r
  · exact q_cL_up (q_cL_up (q_cL_r) (by omega)) (by omega)
theorem q_end_L {r s : Int} : q_cL M (q_end M r s) := by
  unfold q_end
  exact q_cL_up (q_cL_up (q_cL_t q_end1_L q_end2_L) (by omega)) (by omega)
theorem f_49_L {y : Int} {t : Nat}  : q_cL M (f_49 y t M) := by
  unfold f_49
  split
  · exact q_cL_up (q_cL_r) (by omega)
  · exact q_cL_r
theorem f_52_L {y : Int} {t : Nat}  : q_cL M (f_52 y t M) := by
  unfold f_52
  split
  · exact q_cL_up (q_cL_r) (by omega)
  · exact q_cL_r
theorem f_53_L {y : Int} {t : Nat}  : q_cL M (f_53 y t M) := by
  unfold f_53
  split
  · exact q_cL_up (q_cL_r) (by omega)
  · exact q_cL_r
theorem f_57_L {y : Int} {t : Nat}  : q_cL M (f_57 y t M) := by
  unfold f_57
  split
  · exact q_mark_L
  · exact q_cL_r
theorem f_54_L {y : Int} {t : Nat}  : q_cL M (f_54 y t M) := by
  unfold f_54
  split
  · exact q_end_L
  · exact q_cL_r
theorem f_58a_L {y : Int} {t : Nat}  : q_cL M (f_58a y t M) := by
  unfold f_58a
  split
  · exact q_end_L
  · exact q_cL_r
theorem f_58b_L {y : Int} {t : Nat}  : q_cL M (f_58b y t M) := by
  unfold f_58b
  split
  · exact q_cL_up (q_cL_r) (by omega)
  · exact q_cL_r
theorem f_58_L {y : Int} {t : Nat}  : q_cL M (f_58 y t M) := by
  unfold f_58
  exact q_cL_t f_58a_L f_58b_L
theorem q_gr_L {t v : Int}  : q_cL M (q_gr M t v) := by
  unfold q_gr
  split
  · exact q_cL_up (q_cL_r) (by omega)
  · exact q_cL_up (q_cL_r) (by omega)
theorem f_43_L {t : Nat}  : q_cL M (f_43 t M) := by
  unfold f_43
  split
  · exact q_cL_up (q_cL_r) (by omega)
  · exact q_cL_r
theorem f_45_L {t : Nat}  : q_cL M (f_45 t M) := by
  unfold f_45
  split
  · exact q_gr_L
  · exact q_cL_r
theorem f_48_L {t : Nat}  : q_cL M (f_48 t M) := by
  unfold f_48 q_lose1
  split
  · exact q_cL_up (q_cL_t (q_cL_up (q_cL_up (q_cL_r) (by omega)) (by omega)) (q_cL_for (N := 40) (fun _ _ _ => f_49_L) 40 0 _ rfl)) (by omega)
  · exact q_cL_r
theorem q_lt0_L {y : Int}  : q_cL M (q_lt0 M y) := by
  unfold q_lt0
  exact q_cL_up (q_gr_L) (by omega)
theorem q_over_L {y : Int}  : q_cL M (q_over M y) := by
  unfold q_over
  exact q_cL_for (N := (M 36 5).toNat) (fun _ _ _ => f_53_L) _ 0 _ (by omega)
theorem q_endIn_L {y : Int}  : q_cL M (q_endIn M y) := by
  unfold q_endIn
  exact q_cL_for (N := (M 22 13).toNat) (fun _ _ _ => f_54_L) _ 0 _ (by omega)
theorem q_stopAt_L {y : Int}  : q_cL M (q_stopAt M y) := by
  unfold q_stopAt
  exact q_cL_for (N := (M 22 13).toNat) (fun _ _ _ => f_58_L) _ 0 _ (by omega)
theorem q_lt1_L {y : Int}  : q_cL M (q_lt1 M y) := by
  unfold q_lt1
  exact q_cL_t (q_cL_t q_lt0_L (q_cL_for (N := 120) (fun _ _ _ => f_52_L) 120 0 _ rfl)) q_over_L
theorem q_lt_L {y : Int}  : q_cL M (q_lt M y) := by
  unfold q_lt
  split
  · exact q_cL_t (q_cL_t q_lt1_L q_endIn_L) (q_cL_for (N := 10) (fun _ _ _ => f_57_L) 10 0 _ rfl)
  · split
    · exact q_cL_t q_lt1_L q_stopAt_L
    · exact q_lt1_L
theorem f_42_L {t : Nat}  : q_cL M (f_42 t M) := by
  unfold f_42
  split
  · exact q_lt_L
  · exact q_cL_r
theorem q_mab_L   : q_cL M (q_mab M) := by
  unfold q_mab
  exact q_cL_for (N := 120) (fun _ _ _ => f_43_L) 120 0 _ rfl
theorem q_gbr_L   : q_cL M (q_gbr M) := by
  unfold q_gbr
  exact q_cL_for (N := 120) (fun _ _ _ => f_45_L) 120 0 _ rfl
theorem q_lts_L   : q_cL M (q_lts M) := by
  unfold q_lts
  exact q_cL_up (q_cL_for (N := 120) (fun _ _ _ => f_48_L) 120 0 _ rfl) (by omega)
theorem q_pass_L   : q_cL M (q_pass M) := by
  unfold q_pass
  exact q_cL_t (q_cL_t q_mab_L (q_cL_t q_gbr_L q_lts_L)) (q_cL_for (N := 40) (fun _ _ _ => f_42_L) 39 1 _ rfl)
theorem q_swp_L : ∀ (n : Nat) (M : mj_M), q_cL M (q_swp n M) := by
  intro n
  induction n with
  | zero => intro M; exact q_cL_r
  | succ n ih =>
    intro M
    unfold q_swp
    split
    · exact q_cL_r
    · exact q_cL_t q_pass_L (ih _)
theorem q_sweep_L : q_cL M (q_sweep M) := q_swp_L 41 M
end re30
