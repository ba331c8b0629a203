section sp50
variable {x : Nat} {M : mj_M} {Q : Option mj_V → mj_G → mj_M → Prop} {d : Nat}
def q_mut (a i : Nat) : Prop := (3 ≤ a ∧ a ≤ 12) ∨ (14 ≤ a ∧ a ≤ 21) ∨ (23 ≤ a ∧ a ≤ 30) ∨ (32 ≤ a ∧ a ≤ 34) ∨ a = 41 ∨ a = 42 ∨ a = 130 ∨ a = 131 ∨ a = 132 ∨ (a = 1 ∧ (i = 8 ∨ i = 10 ∨ i = 11))
def q_ch (M A : mj_M) : Prop := ∀ a i, ¬ q_mut a i → A a i = M a i
theorem q_ch_r : q_ch M M := fun _ _ _ => rfl
theorem q_ch_t {A B : mj_M} (h : q_ch M A) (h2 : q_ch A B) : q_ch M B := fun a i q => (h2 a i q).trans (h a i q)
theorem q_ch_up {A : mj_M} {a i : Nat} {v : Int} (h : q_ch M A) (h2 : q_mut a i) : q_ch M (mj_up A a i v) := by
  intro b j q
  rw [← h b j q]
  unfold mj_up
  split
  · split
    · rename_i h3 h4; subst h3; subst h4; exact absurd h2 q
    · rename_i h3 h4; subst h3; rfl
  · rfl
theorem q_ch_for {N : Nat} {F : Nat → mj_M → mj_M} (h : ∀ t M, t < N → q_ch M (F t M)) : ∀ (n t : Nat) (M : mj_M), t + n = N → q_ch M (q_for F n t M) := by
  intro n
  induction n with
  | zero => intro t M _; exact q_ch_r
  | succ n ih => intro t M h2; exact q_ch_t (h t M (by omega)) (ih (t + 1) _ (by omega))
theorem q_put_c {k th r l b s la : Int}  : q_ch M (q_put M k th r l b s la) := by
  unfold q_put
  exact q_ch_up (q_ch_up (q_ch_up (q_ch_up (q_ch_up (q_ch_up (q_ch_up (q_ch_up (q_ch_up (q_ch_up (q_ch_up (q_ch_r) (by unfold q_mut; omega)) (by unfold q_mut; omega)) (by unfold q_mut; omega)) (by unfold q_mut; omega)) (by unfold q_mut; omega)) (by unfold q_mut; omega)) (by unfold q_mut; omega)) (by unfold q_mut; omega)) (by unfold q_mut; omega)) (by unfold q_mut; omega)) (by unfold q_mut; omega)
theorem q_lendM_c {f k m b s : Int}  : q_ch M (q_lendM M f k m b s) := by
  unfold q_lendM
  split
  · exact q_put_c
  · exact q_ch_r
theorem q_mark_c {t : Int}  : q_ch M (q_mark M t) := by
  unfold q_mark
  exact q_ch_up (q_ch_up (q_ch_r) (by unfold q_mut; omega)) (by unfold q_mut; omega)
theorem q_use_c {t : Int}  : q_ch M (q_use M t) := by
  unfold q_use
  split
  · exact q_mark_c
  · exact q_ch_r
theorem q_splitM_c {t n b s : Int}  : q_ch M (q_splitM M t n b s) := by
  unfold q_splitM
  split
  · exact q_ch_up (q_ch_up (q_put_c) (by unfold q_mut; omega)) (by unfold q_mut; omega)
  · exact q_ch_r
theorem q_beg_c {t k o : Int}  : q_ch M (q_beg M t k o) := by
  unfold q_beg
  exact q_ch_up (q_ch_up (q_ch_up (q_ch_up (q_ch_up (q_ch_up (q_ch_r) (by unfold q_mut; omega)) (by unfold q_mut; omega)) (by unfold q_mut; omega)) (by unfold q_mut; omega)) (by unfold q_mut; omega)) (by unfold q_mut; omega)
theorem q_makeM_c {t k b s : Int}  : q_ch M (q_makeM M t k b s) := by
  unfold q_makeM
  split
  · exact q_ch_up (q_ch_t q_put_c q_beg_c) (by unfold q_mut; omega)
  · exact q_ch_r
theorem q_sealM_c {t b : Int}  : q_ch M (q_sealM M t b) := by
  unfold q_sealM
  split
  · exact q_ch_t (q_ch_up (q_ch_r) (by unfold q_mut; omega)) q_use_c
  · exact q_ch_r
theorem q_openM_c {t b : Int}  : q_ch M (q_openM M t b) := by
  unfold q_openM
  split
  · exact q_ch_t (q_ch_up (q_ch_r) (by unfold q_mut; omega)) q_use_c
  · exact q_ch_r
theorem q_dropM_c {t : Int}  : q_ch M (q_dropM M t) := by
  unfold q_dropM
  split
  · exact q_mark_c
  · exact q_ch_r
theorem q_tillM_c {t k : Int}  : q_ch M (q_tillM M t k) := by
  unfold q_tillM
  split
  · exact q_ch_up (q_ch_r) (by unfold q_mut; omega)
  · exact q_ch_r
theorem q_dmF_c {o : Int} {t : Nat} : q_ch M (q_dmF M o t) := by
  intro a i h
  have : a ≠ 12 := fun q => h (by unfold q_mut; omega)
  rw [q_dmF_ne this]
theorem q_takeM_c {t : Int}  : q_ch M (q_takeM M t) := by
  unfold q_takeM
  split
  · exact q_dmF_c
  · exact q_ch_r
theorem q_ninM_c {t : Int}  : q_ch M (q_ninM M t) := by
  unfold q_ninM
  split
  · exact q_ch_r
  · exact q_ch_up (q_ch_r) (by unfold q_mut; omega)
theorem q_pout_c {t v : Int}  : q_ch M (q_pout M t v) := by
  unfold q_pout
  split
  · exact q_ch_up (q_ch_up (q_ch_r) (by unfold q_mut; omega)) (by unfold q_mut; omega)
  · exact q_ch_up (q_ch_r) (by unfold q_mut; omega)
theorem q_wake_c {r a : Int}  : q_ch M (q_wake M r a) := by
  unfold q_wake
  exact q_ch_up (q_ch_up (q_ch_up (q_ch_up (q_ch_up (q_ch_r) (by unfold q_mut; omega)) (by unfold q_mut; omega)) (by unfold q_mut; omega)) (by unfold q_mut; omega)) (by unfold q_mut; omega)
theorem q_goes_c {r s g b c n : Int}  : q_ch M (q_goes M r s g b c n) := by
  unfold q_goes
  exact q_ch_up (q_ch_up (q_ch_up (q_ch_up (q_ch_up (q_ch_r) (by unfold q_mut; omega)) (by unfold q_mut; omega)) (by unfold q_mut; omega)) (by unfold q_mut; omega)) (by unfold q_mut; omega)
theorem q_serve_c {s c : Int}  : q_ch M (q_serve M s c) := by
  unfold q_serve
  exact q_ch_up (q_ch_up (q_wake_c) (by unfold q_mut; omega)) (by unfold q_mut; omega)
theorem q_end1_c {r : Int}  : q_ch M (q_end1 M r) := by
  unfold q_end1
  split
  · exact q_ch_r
  · exact q_ch_up (q_wake_c) (by unfold q_mut; omega)
theorem q_end2_c {r : Int}  : q_ch M (q_end2 M r) := by
  unfold q_end2
  split
  · exact q_ch_r
  · exact q_ch_up (q_ch_up (q_ch_r) (by unfold q_mut; omega)) (by unfold q_mut; omega)
theorem q_end_c {r s : Int}  : q_ch M (q_end M r s) := by
  unfold q_end
  exact q_ch_up (q_ch_up (q_ch_t q_end1_c q_end2_c) (by unfold q_mut; omega)) (by unfold q_mut; omega)
theorem q_fault_c {r : Int}  : q_ch M (q_fault M r) := by
  unfold q_fault
  have h : q_ch M (q_end (mj_up M 1 11 (mj_w (M 1 11 + 1))) r 3) := q_ch_t (q_ch_up (q_ch_r) (by unfold q_mut; omega)) q_end_c
  simp only []
  split
  · exact h
  · split
    · exact h
    · exact q_ch_t h q_wake_c
theorem f_49_c {y : Int} {t : Nat}  : q_ch M (f_49 y t M) := by
  unfold f_49
  split
  · exact q_ch_up (q_ch_r) (by unfold q_mut; omega)
  · exact q_ch_r
theorem f_52_c {y : Int} {t : Nat}  : q_ch M (f_52 y t M) := by
  unfold f_52
  split
  · exact q_ch_up (q_ch_r) (by unfold q_mut; omega)
  · exact q_ch_r
theorem f_53_c {y : Int} {t : Nat}  : q_ch M (f_53 y t M) := by
  unfold f_53
  split
  · exact q_ch_up (q_ch_r) (by unfold q_mut; omega)
  · exact q_ch_r
theorem f_111_c {y : Int} {t : Nat}  : q_ch M (f_111 y t M) := by
  unfold f_111
  split
  · exact q_mark_c
  · exact q_ch_r
theorem f_57_c {y : Int} {t : Nat}  : q_ch M (f_57 y t M) := by
  unfold f_57
  split
  · exact q_mark_c
  · exact q_ch_r
theorem f_54_c {y : Int} {t : Nat}  : q_ch M (f_54 y t M) := by
  unfold f_54
  split
  · exact q_end_c
  · exact q_ch_r
theorem f_58a_c {y : Int} {t : Nat}  : q_ch M (f_58a y t M) := by
  unfold f_58a
  split
  · exact q_end_c
  · exact q_ch_r
theorem f_58b_c {y : Int} {t : Nat}  : q_ch M (f_58b y t M) := by
  unfold f_58b
  split
  · exact q_ch_up (q_ch_r) (by unfold q_mut; omega)
  · exact q_ch_r
theorem f_58_c {y : Int} {t : Nat}  : q_ch M (f_58 y t M) := by
  unfold f_58
  exact q_ch_t f_58a_c f_58b_c
theorem q_gr_c {t v : Int}  : q_ch M (q_gr M t v) := by
  unfold q_gr
  split
  · exact q_ch_up (q_ch_r) (by unfold q_mut; omega)
  · exact q_ch_up (q_ch_r) (by unfold q_mut; omega)
theorem f_43_c {t : Nat}  : q_ch M (f_43 t M) := by
  unfold f_43
  split
  · exact q_ch_up (q_ch_r) (by unfold q_mut; omega)
  · exact q_ch_r
theorem f_45_c {t : Nat}  : q_ch M (f_45 t M) := by
  unfold f_45
  split
  · exact q_gr_c
  · exact q_ch_r
theorem f_48_c {t : Nat}  : q_ch M (f_48 t M) := by
  unfold f_48 q_lose1
  split
  · exact q_ch_up (q_ch_t (q_ch_up (q_ch_up (q_ch_r) (by unfold q_mut; omega)) (by unfold q_mut; omega)) (q_ch_for (N := 40) (fun _ _ _ => f_49_c) 40 0 _ rfl)) (by unfold q_mut; omega)
  · exact q_ch_r
theorem q_lt0_c {y : Int}  : q_ch M (q_lt0 M y) := by
  unfold q_lt0
  exact q_ch_up (q_gr_c) (by unfold q_mut; omega)
theorem q_over_c {y : Int}  : q_ch M (q_over M y) := by
  unfold q_over
  exact q_ch_for (N := (M 36 5).toNat) (fun _ _ _ => f_53_c) _ 0 _ (by omega)
theorem q_endIn_c {y : Int}  : q_ch M (q_endIn M y) := by
  unfold q_endIn
  exact q_ch_for (N := (M 22 13).toNat) (fun _ _ _ => f_54_c) _ 0 _ (by omega)
theorem q_stopAt_c {y : Int}  : q_ch M (q_stopAt M y) := by
  unfold q_stopAt
  exact q_ch_for (N := (M 22 13).toNat) (fun _ _ _ => f_58_c) _ 0 _ (by omega)
theorem q_lt1_c {y : Int}  : q_ch M (q_lt1 M y) := by
  unfold q_lt1
  exact q_ch_t (q_ch_t q_lt0_c (q_ch_for (N := 120) (fun _ _ _ => f_52_c) 120 0 _ rfl)) q_over_c
theorem q_lt_c {y : Int}  : q_ch M (q_lt M y) := by
  unfold q_lt
  split
  · exact q_ch_t (q_ch_t q_lt1_c q_endIn_c) (q_ch_for (N := 10) (fun _ _ _ => f_57_c) 10 0 _ rfl)
  · split
    · exact q_ch_t q_lt1_c q_stopAt_c
    · exact q_lt1_c
theorem f_42_c {t : Nat}  : q_ch M (f_42 t M) := by
  unfold f_42
  split
  · exact q_lt_c
  · exact q_ch_r
theorem q_mab_c   : q_ch M (q_mab M) := by
  unfold q_mab
  exact q_ch_for (N := 120) (fun _ _ _ => f_43_c) 120 0 _ rfl
theorem q_gbr_c   : q_ch M (q_gbr M) := by
  unfold q_gbr
  exact q_ch_for (N := 120) (fun _ _ _ => f_45_c) 120 0 _ rfl
theorem q_lts_c   : q_ch M (q_lts M) := by
  unfold q_lts
  exact q_ch_up (q_ch_for (N := 120) (fun _ _ _ => f_48_c) 120 0 _ rfl) (by unfold q_mut; omega)
theorem q_pass_c   : q_ch M (q_pass M) := by
  unfold q_pass
  exact q_ch_t (q_ch_t q_mab_c (q_ch_t q_gbr_c q_lts_c)) (q_ch_for (N := 40) (fun _ _ _ => f_42_c) 39 1 _ rfl)
theorem q_swp_c : ∀ (n : Nat) (M : mj_M), q_ch M (q_swp n M) := by
  intro n
  induction n with
  | zero => intro M; exact q_ch_r
  | succ n ih =>
    intro M
    unfold q_swp
    split
    · exact q_ch_r
    · exact q_ch_t q_pass_c (ih _)
theorem q_sweep_c : q_ch M (q_sweep M) := q_swp_c 41 M
theorem q_md_c {most : Int} : ∀ (n t : Nat) (m : Int) (M : mj_M), q_ch M (q_md most n t m M) := by
  intro n
  induction n with
  | zero => intro t m M; exact q_ch_r
  | succ n ih =>
    intro t m M
    unfold q_md
    split
    · split
      · exact q_ch_t q_mark_c (ih _ _ _)
      · exact ih _ _ _
    · exact q_ch_r
theorem q_roL_c {y : Int}  : q_ch M (q_roL M y) := by
  unfold q_roL
  split
  · exact q_ch_up (q_ch_r) (by unfold q_mut; omega)
  · split
    · exact q_ch_up (q_ch_r) (by unfold q_mut; omega)
    · exact q_ch_up (q_ninM_c) (by unfold q_mut; omega)
theorem q_roM_c {b s : Int}  : q_ch M (q_roM M b s) := by
  unfold q_roM
  split
  · exact q_ch_t q_roL_c q_use_c
  · exact q_ch_r
theorem q_wiL_c {y v : Int}  : q_ch M (q_wiL M y v) := by
  unfold q_wiL
  split
  · exact q_ch_up (q_ch_r) (by unfold q_mut; omega)
  · exact q_pout_c
theorem q_wiM_c {b s v : Int}  : q_ch M (q_wiM M b s v) := by
  unfold q_wiM
  split
  · exact q_ch_t q_wiL_c q_use_c
  · exact q_ch_r
theorem q_kpM_c {r s : Int}  : q_ch M (q_kpM M r s) := by
  unfold q_kpM
  split
  · exact q_ch_t (q_ch_up (q_ch_r) (by unfold q_mut; omega)) q_use_c
  · exact q_ch_r
theorem q_ppM_c {t y c : Int}  : q_ch M (q_ppM M t y c) := by
  unfold q_ppM
  split
  · exact q_ch_t q_lendM_c q_use_c
  · exact q_ch_r
theorem q_pgM_c {y b a c : Int}  : q_ch M (q_pgM M y b a c) := by
  unfold q_pgM
  split
  · exact q_ch_t q_lendM_c q_use_c
  · exact q_ch_r
theorem q_prfM_c {box what a b c : Int}  : q_ch M (q_prfM M box what a b c) := by
  unfold q_prfM
  split
  · exact q_lendM_c
  split
  · exact q_lendM_c
  split
  · exact q_lendM_c
  split
  · exact q_splitM_c
  split
  · exact q_makeM_c
  split
  · exact q_sealM_c
  split
  · exact q_openM_c
  split
  · exact q_takeM_c
  split
  · exact q_dropM_c
  split
  · exact q_ppM_c
  split
  · exact q_pgM_c
  split
  · exact q_tillM_c
  exact q_ch_r
end sp50
