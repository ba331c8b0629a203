section sp60
variable {x : Nat} {M : mj_M} {Q : Option mj_V → mj_G → mj_M → Prop} {d : Nat}
/-- the counts of what was put out are as they were -/
def q_ck (M A : mj_M) : Prop := A 17 = M 17
theorem q_ck_r : q_ck M M := rfl
theorem q_ck_t {A B : mj_M} (h : q_ck M A) (h2 : q_ck A B) : q_ck M B := Eq.trans h2 h
theorem q_ck_up {A : mj_M} {a i : Nat} {v : Int} (h : q_ck M A) (h2 : 17 ≠ a) : q_ck M (mj_up A a i v) := by
  unfold q_ck; rw [mj_up_ne h2]; exact h
theorem q_ck_for {N : Nat} {F : Nat → mj_M → mj_M} (h : ∀ t M, t < N → q_ck M (F t M)) : ∀ (n t : Nat) (M : mj_M), t + n = N → q_ck M (q_for F n t M) := by
  intro n
  induction n with
  | zero => intro t M _; exact q_ck_r
  | succ n ih => intro t M h2; exact q_ck_t (h t M (by omega)) (ih (t + 1) _ (by omega))
theorem q_put_z {k th r l b s la : Int}  : q_ck M (q_put M k th r l b s la) := by
  unfold q_put
  exact q_ck_up (q_ck_up (q_ck_up (q_ck_up (q_ck_up (q_ck_up (q_ck_up (q_ck_up (q_ck_up (q_ck_up (q_ck_up (q_ck_r) (by omega)) (by omega)) (by omega)) (by omega)) (by omega)) (by omega)) (by omega)) (by omega)) (by omega)) (by omega)) (by omega)
theorem q_lendM_z {f k m b s : Int}  : q_ck M (q_lendM M f k m b s) := by
  unfold q_lendM
  split
  · exact q_put_z
  · exact q_ck_r
theorem q_mark_z {t : Int}  : q_ck M (q_mark M t) := by
  unfold q_mark
  exact q_ck_up (q_ck_up (q_ck_r) (by omega)) (by omega)
theorem q_use_z {t : Int}  : q_ck M (q_use M t) := by
  unfold q_use
  split
  · exact q_mark_z
  · exact q_ck_r
theorem q_splitM_z {t n b s : Int}  : q_ck M (q_splitM M t n b s) := by
  unfold q_splitM
  split
  · exact q_ck_up (q_ck_up (q_put_z) (by omega)) (by omega)
  · exact q_ck_r
theorem q_sealM_z {t b : Int}  : q_ck M (q_sealM M t b) := by
  unfold q_sealM
  split
  · exact q_ck_t (q_ck_up (q_ck_r) (by omega)) q_use_z
  · exact q_ck_r
theorem q_openM_z {t b : Int}  : q_ck M (q_openM M t b) := by
  unfold q_openM
  split
  · exact q_ck_t (q_ck_up (q_ck_r) (by omega)) q_use_z
  · exact q_ck_r
theorem q_dropM_z {t : Int}  : q_ck M (q_dropM M t) := by
  unfold q_dropM
  split
  · exact q_mark_z
  · exact q_ck_r
theorem q_tillM_z {t k : Int}  : q_ck M (q_tillM M t k) := by
  unfold q_tillM
  split
  · exact q_ck_up (q_ck_r) (by omega)
  · exact q_ck_r
theorem q_dmF_z {o : Int} {t : Nat} : q_ck M (q_dmF M o t) := by
  unfold q_ck; rw [q_dmF_ne (by omega)]
theorem q_takeM_z {t : Int}  : q_ck M (q_takeM M t) := by
  unfold q_takeM
  split
  · exact q_dmF_z
  · exact q_ck_r
theorem q_ninM_z {t : Int}  : q_ck M (q_ninM M t) := by
  unfold q_ninM
  split
  · exact q_ck_r
  · exact q_ck_up (q_ck_r) (by omega)
theorem q_wake_z {r a : Int}  : q_ck M (q_wake M r a) := by
  unfold q_wake
  exact q_ck_up (q_ck_up (q_ck_up (q_ck_up (q_ck_up (q_ck_r) (by omega)) (by omega)) (by omega)) (by omega)) (by omega)
theorem q_goes_z {r s g b c n : Int}  : q_ck M (q_goes M r s g b c n) := by
  unfold q_goes
  exact q_ck_up (q_ck_up (q_ck_up (q_ck_up (q_ck_up (q_ck_r) (by omega)) (by omega)) (by omega)) (by omega)) (by omega)
theorem q_serve_z {s c : Int}  : q_ck M (q_serve M s c) := by
  unfold q_serve
  exact q_ck_up (q_ck_up (q_wake_z) (by omega)) (by omega)
theorem q_end1_z {r : Int}  : q_ck M (q_end1 M r) := by
  unfold q_end1
  split
  · exact q_ck_r
  · exact q_ck_up (q_wake_z) (by omega)
theorem q_end2_z {r : Int}  : q_ck M (q_end2 M r) := by
  unfold q_end2
  split
  · exact q_ck_r
  · exact q_ck_up (q_ck_up (q_ck_r) (by omega)) (by omega)
theorem q_end_z {r s : Int}  : q_ck M (q_end M r s) := by
  unfold q_end
  exact q_ck_up (q_ck_up (q_ck_t q_end1_z q_end2_z) (by omega)) (by omega)
theorem q_fault_z {r : Int}  : q_ck M (q_fault M r) := by
  unfold q_fault
  have h : q_ck M (q_end (mj_up M 1 11 (mj_w (M 1 11 + 1))) r 3) := q_ck_t (q_ck_up (q_ck_r) (by omega)) q_end_z
  simp only []
  split
  · exact h
  · split
    · exact h
    · exact q_ck_t h q_wake_z
theorem f_49_z {y : Int} {t : Nat}  : q_ck M (f_49 y t M) := by
  unfold f_49
  split
  · exact q_ck_up (q_ck_r) (by omega)
  · exact q_ck_r
theorem f_52_z {y : Int} {t : Nat}  : q_ck M (f_52 y t M) := by
  unfold f_52
  split
  · exact q_ck_up (q_ck_r) (by omega)
  · exact q_ck_r
theorem f_53_z {y : Int} {t : Nat}  : q_ck M (f_53 y t M) := by
  unfold f_53
  split
  · exact q_ck_up (q_ck_r) (by omega)
  · exact q_ck_r
theorem f_111_z {y : Int} {t : Nat}  : q_ck M (f_111 y t M) := by
  unfold f_111
  split
  · exact q_mark_z
  · exact q_ck_r
theorem f_57_z {y : Int} {t : Nat}  : q_ck M (f_57 y t M) := by
  unfold f_57
  split
  · exact q_mark_z
  · exact q_ck_r
theorem f_54_z {y : Int} {t : Nat}  : q_ck M (f_54 y t M) := by
  unfold f_54
  split
  · exact q_end_z
  · exact q_ck_r
theorem f_58a_z {y : Int} {t : Nat}  : q_ck M (f_58a y t M) := by
  unfold f_58a
  split
  · exact q_end_z
  · exact q_ck_r
theorem f_58b_z {y : Int} {t : Nat}  : q_ck M (f_58b y t M) := by
  unfold f_58b
  split
  · exact q_ck_up (q_ck_r) (by omega)
  · exact q_ck_r
theorem f_58_z {y : Int} {t : Nat}  : q_ck M (f_58 y t M) := by
  unfold f_58
  exact q_ck_t f_58a_z f_58b_z
theorem q_gr_z {t v : Int}  : q_ck M (q_gr M t v) := by
  unfold q_gr
  split
  · exact q_ck_up (q_ck_r) (by omega)
  · exact q_ck_up (q_ck_r) (by omega)
theorem f_43_z {t : Nat}  : q_ck M (f_43 t M) := by
  unfold f_43
  split
  · exact q_ck_up (q_ck_r) (by omega)
  · exact q_ck_r
theorem f_45_z {t : Nat}  : q_ck M (f_45 t M) := by
  unfold f_45
  split
  · exact q_gr_z
  · exact q_ck_r
theorem f_48_z {t : Nat}  : q_ck M (f_48 t M) := by
  unfold f_48 q_lose1
  split
  · exact q_ck_up (q_ck_t (q_ck_up (q_ck_up (q_ck_r) (by omega)) (by omega)) (q_ck_for (N := 40) (fun _ _ _ => f_49_z) 40 0 _ rfl)) (by omega)
  · exact q_ck_r
theorem q_lt0_z {y : Int}  : q_ck M (q_lt0 M y) := by
  unfold q_lt0
  exact q_ck_up (q_gr_z) (by omega)
theorem q_over_z {y : Int}  : q_ck M (q_over M y) := by
  unfold q_over
  exact q_ck_for (N := (M 36 5).toNat) (fun _ _ _ => f_53_z) _ 0 _ (by omega)
theorem q_endIn_z {y : Int}  : q_ck M (q_endIn M y) := by
  unfold q_endIn
  exact q_ck_for (N := (M 22 13).toNat) (fun _ _ _ => f_54_z) _ 0 _ (by omega)
theorem q_stopAt_z {y : Int}  : q_ck M (q_stopAt M y) := by
  unfold q_stopAt
  exact q_ck_for (N := (M 22 13).toNat) (fun _ _ _ => f_58_z) _ 0 _ (by omega)
theorem q_lt1_z {y : Int}  : q_ck M (q_lt1 M y) := by
  unfold q_lt1
  exact q_ck_t (q_ck_t q_lt0_z (q_ck_for (N := 120) (fun _ _ _ => f_52_z) 120 0 _ rfl)) q_over_z
theorem q_lt_z {y : Int}  : q_ck M (q_lt M y) := by
  unfold q_lt
  split
  · exact q_ck_t (q_ck_t q_lt1_z q_endIn_z) (q_ck_for (N := 10) (fun _ _ _ => f_57_z) 10 0 _ rfl)
  · split
    · exact q_ck_t q_lt1_z q_stopAt_z
    · exact q_lt1_z
theorem f_42_z {t : Nat}  : q_ck M (f_42 t M) := by
  unfold f_42
  split
  · exact q_lt_z
  · exact q_ck_r
theorem q_mab_z   : q_ck M (q_mab M) := by
  unfold q_mab
  exact q_ck_for (N := 120) (fun _ _ _ => f_43_z) 120 0 _ rfl
theorem q_gbr_z   : q_ck M (q_gbr M) := by
  unfold q_gbr
  exact q_ck_for (N := 120) (fun _ _ _ => f_45_z) 120 0 _ rfl
theorem q_lts_z   : q_ck M (q_lts M) := by
  unfold q_lts
  exact q_ck_up (q_ck_for (N := 120) (fun _ _ _ => f_48_z) 120 0 _ rfl) (by omega)
theorem q_pass_z   : q_ck M (q_pass M) := by
  unfold q_pass
  exact q_ck_t (q_ck_t q_mab_z (q_ck_t q_gbr_z q_lts_z)) (q_ck_for (N := 40) (fun _ _ _ => f_42_z) 39 1 _ rfl)
theorem q_swp_z : ∀ (n : Nat) (M : mj_M), q_ck M (q_swp n M) := by
  intro n
  induction n with
  | zero => intro M; exact q_ck_r
  | succ n ih =>
    intro M
    unfold q_swp
    split
    · exact q_ck_r
    · exact q_ck_t q_pass_z (ih _)
theorem q_sweep_z : q_ck M (q_sweep M) := q_swp_z 41 M
theorem q_md_z {most : Int} : ∀ (n t : Nat) (m : Int) (M : mj_M), q_ck M (q_md most n t m M) := by
  intro n
  induction n with
  | zero => intro t m M; exact q_ck_r
  | succ n ih =>
    intro t m M
    unfold q_md
    split
    · split
      · exact q_ck_t q_mark_z (ih _ _ _)
      · exact ih _ _ _
    · exact q_ck_r
theorem q_roL_z {y : Int}  : q_ck M (q_roL M y) := by
  unfold q_roL
  split
  · exact q_ck_up (q_ck_r) (by omega)
  · split
    · exact q_ck_up (q_ck_r) (by omega)
    · exact q_ck_up (q_ninM_z) (by omega)
theorem q_roM_z {b s : Int}  : q_ck M (q_roM M b s) := by
  unfold q_roM
  split
  · exact q_ck_t q_roL_z q_use_z
  · exact q_ck_r
theorem q_kpM_z {r s : Int}  : q_ck M (q_kpM M r s) := by
  unfold q_kpM
  split
  · exact q_ck_t (q_ck_up (q_ck_r) (by omega)) q_use_z
  · exact q_ck_r
theorem q_ppM_z {t y c : Int}  : q_ck M (q_ppM M t y c) := by
  unfold q_ppM
  split
  · exact q_ck_t q_lendM_z q_use_z
  · exact q_ck_r
theorem q_pgM_z {y b a c : Int}  : q_ck M (q_pgM M y b a c) := by
  unfold q_pgM
  split
  · exact q_ck_t q_lendM_z q_use_z
  · exact q_ck_r
end sp60
