section sp61
variable {x : Nat} {M : mj_M} {Q : Option mj_V → mj_G → mj_M → Prop} {d : Nat}
def q_o (n : Int) (M : mj_M) : Prop := ∀ i : Nat, i < 40 → M 17 i ≤ n
theorem q_o_z {n : Int} {A : mj_M} (h : q_o n M) (z : q_ck M A) : q_o n A := fun i hi => by rw [show A 17 = M 17 from z]; exact h i hi
theorem q_o_m {n m : Int} (h : q_o n M) (l : n ≤ m) : q_o m M := fun i hi => Int.le_trans (h i hi) l
theorem q_o_up {n v : Int} {i : Nat} (h : q_o n M) (l : v ≤ n) : q_o n (mj_up M 17 i v) := by
  intro j hj
  have := h j hj
  simp only [mj_up, if_true]
  split <;> omega
theorem q_o_few {n : Int} (h : q_o n M) (l : n < 99999999) : q_few M 99999999 := fun i hi => by have := h i hi; omega
theorem q_o_beg {n t k o : Int} (h : q_o n M) (hn : 0 ≤ n) : q_o n (q_beg M t k o) := by
  unfold q_beg
  refine q_o_z (q_o_up (M := mj_up (mj_up (mj_up M 14 t.toNat k) 15 t.toNat o) 16 t.toNat 0) (i := t.toNat) (v := 0) (q_o_z h ?_) hn) ?_
  · exact q_ck_up (q_ck_up (q_ck_up q_ck_r (by omega)) (by omega)) (by omega)
  · exact q_ck_up (q_ck_up q_ck_r (by omega)) (by omega)
theorem q_o_make {n t k b s : Int} (h : q_o n M) (hn : 0 ≤ n) : q_o n (q_makeM M t k b s) := by
  unfold q_makeM
  split
  · exact q_o_z (q_o_beg (q_o_z h q_put_z) hn) (q_ck_up q_ck_r (by omega))
  · exact h
theorem q_o_prf {n box what a b c : Int} (h : q_o n M) (hn : 0 ≤ n) : q_o n (q_prfM M box what a b c) := by
  unfold q_prfM
  split
  · exact q_o_z h q_lendM_z
  split
  · exact q_o_z h q_lendM_z
  split
  · exact q_o_z h q_lendM_z
  split
  · exact q_o_z h q_splitM_z
  split
  · exact q_o_make h hn
  split
  · exact q_o_z h q_sealM_z
  split
  · exact q_o_z h q_openM_z
  split
  · exact q_o_z h q_takeM_z
  split
  · exact q_o_z h q_dropM_z
  split
  · exact q_o_z h q_ppM_z
  split
  · exact q_o_z h q_pgM_z
  split
  · exact q_o_z h q_tillM_z
  · exact h
theorem q_o_wi {n b s v : Int} (w : q_wr M) (h : q_o n M) (hn : 0 ≤ n) : q_o (n + 1) (q_wiM M b s v) := by
  unfold q_wiM
  split
  · rename_i hh
    refine q_o_z ?_ q_use_z
    unfold q_wiL
    split
    · exact q_o_z (q_o_m h (by omega)) (q_ck_up q_ck_r (by omega))
    · have hy : 0 ≤ M 4 (q_ta M b s).toNat ∧ M 4 (q_ta M b s).toNat < 40 := by grind [q_wi, q_wiY, q_of]
      have h17 := h (M 4 (q_ta M b s).toNat).toNat (by omega)
      unfold q_pout
      split
      · exact q_o_up (q_o_z (q_o_m h (by omega)) (q_ck_up q_ck_r (by omega))) (by omega)
      · exact q_o_up (q_o_m h (by omega)) (by omega)
  · exact q_o_m h (by omega)
theorem q_o_wk {n r : Int} (w : q_wr M) (h : q_o n M) (hn : 0 ≤ n) : q_o (n + 1) (q_wkM M r) := by
  unfold q_wkM
  split
  · refine q_o_z ?_ (q_ck_up q_ck_r (by omega))
    unfold q_wkB
    split
    · exact q_o_z (q_o_m h (by omega)) q_end_z
    split
    · exact q_o_z (q_o_m h (by omega)) (q_ck_up q_ck_r (by omega))
    split
    · exact q_o_z (q_o_m h (by omega)) (q_ck_up q_ck_r (by omega))
    split
    · exact q_o_m h (by omega)
    split
    · exact q_o_z (q_o_m h (by omega)) (q_ck_up q_roM_z (by omega))
    split
    · exact q_o_wi w h hn
    · exact q_o_m (q_o_prf h hn) (by omega)
  · exact q_o_m h (by omega)
theorem q_wM_z {r g b : Int} : ∀ (n : Nat) (M : mj_M) (u : Int), q_ck M (q_wM r g b n M u) := by
  intro n
  induction n with
  | zero => intro M u; exact q_ck_r
  | succ n ih =>
    intro M u
    rw [q_wM]
    split
    · exact q_ck_r
    split
    · exact q_ck_r
    split
    · exact q_lendM_z
    · exact q_ck_t q_fault_z (ih _ _)
theorem q_wF_z {r g b c t u : Int} : q_ck M (q_wF M r g b c t u) := by
  unfold q_wF
  refine q_ck_t ?_ q_use_z
  split
  · exact q_goes_z
  · exact q_serve_z
theorem q_mtM_z {r : Int} : q_ck M (q_mtM M r) := by
  unfold q_mtM
  split
  · split
    · unfold q_clM
      split
      · refine q_ck_t (q_ck_t ?_ q_goes_z) q_use_z
        split
        · exact q_ck_r
        · refine q_ck_t ?_ q_serve_z
          unfold q_clLM
          split
          · exact q_ck_r
          · exact q_lendM_z
      · exact q_ck_r
    · split
      · unfold q_wtM
        split
        · exact q_ck_t (q_wM_z 8 M _) q_wF_z
        · exact q_ck_r
      · unfold q_anM
        split
        · have wl : q_ck M (q_anL M r (q_pr M r 2)) := by
            unfold q_anL
            split
            · exact q_ck_r
            · exact q_lendM_z
          have ww : q_ck (q_anL M r (q_pr M r 2)) (q_anW (q_anL M r (q_pr M r 2)) r (M 30 r.toNat)) := by
            unfold q_anW
            exact q_ck_up (q_ck_t (q_ck_up q_ck_r (by omega)) q_wake_z) (by omega)
          unfold q_anP
          split
          · exact q_ck_t wl (q_ck_t ww (q_ck_for (N := 120) (fun _ _ _ => f_111_z) 120 0 _ rfl))
          · exact q_ck_t wl ww
        · exact q_ck_r
  · exact q_ck_r
theorem q_o_tick {n : Int} (w : q_wr M) (h : q_o n M) (hn : 0 ≤ n) (hl : n < 99999999) : q_o (n + 1) (q_tick M) := by
  have w1 := q_tk1_w w
  have h1 : q_o n (q_tk1 M) := q_o_z h (q_ck_t (q_md_z 120 0 0 M) q_sweep_z)
  unfold q_tick
  refine q_o_z ?_ (q_ck_up q_ck_r (by omega))
  unfold q_tk2
  split
  · exact q_o_m h1 (by omega)
  · refine q_o_z ?_ q_sweep_z
    have hr := q_tkR_in w1
    have h8 := q_w22_13 w1
    have w2 : q_wr (mj_up (q_tk1 M) 1 10 (q_tkR (q_tk1 M))) := q_wr_up w1 (by simp [q_okv]; omega)
    have h2 : q_o n (mj_up (q_tk1 M) 1 10 (q_tkR (q_tk1 M))) := q_o_z h1 (q_ck_up q_ck_r (by omega))
    have hA : q_o (n + 1) (q_tkA (mj_up (q_tk1 M) 1 10 (q_tkR (q_tk1 M))) (q_tkR (q_tk1 M))) := by
      unfold q_tkA
      split
      · split
        · exact q_o_z (q_o_m h2 (by omega)) q_mtM_z
        · exact q_o_wk w2 h2 hn
      · exact q_o_m h2 (by omega)
    unfold q_tkD
    split
    · exact hA
    · exact q_o_z hA q_fault_z
theorem q_few_tk1 {n : Int} (h : q_o n M) (l : n < 99999999) : q_few (q_tk1 M) 99999999 := q_o_few (q_o_z h (q_ck_t (q_md_z 120 0 0 M) q_sweep_z)) l
theorem q_tick_w {n : Int} (w : q_wr M) (h : q_o n M) (l : n < 99999999) (hnow : M 1 7 < 9999) : q_wr (q_tick M) := by
  have w1 := q_tk1_w w
  have h8 := q_w22_13 w1
  have hr := q_tkR_in w1
  have hf := q_few_tk1 h l
  have h7 := q_w1_7 w
  have wA : q_wr (q_tk2 (q_tk1 M) (q_tkR (q_tk1 M))) := q_tk2_w w1 (by omega) hf
  have hc : q_ch M (q_tk2 (q_tk1 M) (q_tkR (q_tk1 M))) := q_ch_t q_tk1_c q_tk2_c
  have e7 := hc 1 7 (by unfold q_mut; omega)
  unfold q_tick
  simp only []
  refine q_wr_up wA ?_
  rw [e7, mj_w_id2 (by omega) (by omega)]
  simp [q_okv]; omega
theorem q_tick_nowE (w : q_wr M) : q_tick M 1 7 = M 1 7 + 1 := by
  have h7 := q_w1_7 w
  rw [q_tick_now, mj_w_id2 (by omega) (by omega)]
end sp61
