section sp51
variable {x : Nat} {M : mj_M} {Q : Option mj_V → mj_G → mj_M → Prop} {d : Nat}
theorem q_put_w {k th r l b s la : Int} (w : q_wr M) (hc : q_can M b s = 1) (hk : -1 ≤ k ∧ k ≤ 3) (hth : -1 ≤ th ∧ th < 40) (hl : -1 ≤ l ∧ l < 120) : q_wr (q_put M k th r l b s la) := by
  have h1 := q_ff_in (M := M) (a := 3) 120 0 (by omega)
  have hb : 0 ≤ b ∧ b < 40 ∧ 0 ≤ s ∧ s < 10 := by grind [q_can, q_pl]
  have hf : 0 ≤ q_ff M 3 120 0 ∧ q_ff M 3 120 0 < 120 := by grind [q_can]
  unfold q_put
  refine q_wr_up (q_wr_up (q_wr_up (q_wr_up (q_wr_up (q_wr_up (q_wr_up (q_wr_up (q_wr_up (q_wr_up (q_wr_up w ?_) ?_) (q_okv_o (by decide))) (q_okv_o (by decide))) ?_) ?_) ?_) ?_) (q_okv_o (by decide))) (q_okv_o (by decide))) ?_
  · simp [q_okv]; omega
  · simp [q_okv]; omega
  · simp [q_okv]; omega
  · simp [q_okv]; omega
  · simp [q_okv]; omega
  · simp [q_okv]
  · simp [q_okv]; omega
theorem q_lendM_w {f k m b s : Int} (w : q_wr M) (ht : -1 ≤ f ∧ f < 120) (hk : -1 ≤ k ∧ k ≤ 3) : q_wr (q_lendM M f k m b s) := by
  unfold q_lendM
  split
  · rename_i h
    have hf : f ≠ -1 := by grind [q_lend, q_ml, q_fits]
    have h4 := q_w4 (i := f.toNat) w (by omega)
    exact q_put_w w (by grind [q_lend]) hk h4 ht
  · exact w
theorem q_splitM_w {t n b s : Int} (w : q_wr M) (ht : -1 ≤ t ∧ t < 120) : q_wr (q_splitM M t n b s) := by
  unfold q_splitM
  split
  · rename_i h
    exact q_wr_up (q_wr_up (q_put_w w (by grind [q_split]) (by omega) (by omega) ht) (q_okv_o (by decide))) (q_okv_o (by decide))
  · exact w
theorem q_beg_w {t k o : Int} (w : q_wr M) (hk : 0 ≤ k ∧ k ≤ 5) (ho : -1 ≤ o ∧ o < 120) : q_wr (q_beg M t k o) := by
  unfold q_beg
  refine q_wr_up (q_wr_up (q_wr_up (q_wr_up (q_wr_up (q_wr_up w ?_) ?_) (q_okv_o (by decide))) ?_) ?_) ?_
  · simp [q_okv]; omega
  · simp [q_okv]; omega
  · simp [q_okv]
  · simp [q_okv]
  · simp [q_okv]
theorem q_makeM_w {t k b s : Int} (w : q_wr M) (ht : -1 ≤ t ∧ t < 120) : q_wr (q_makeM M t k b s) := by
  unfold q_makeM
  split
  · rename_i h
    have h2 := q_ff_in (M := M) (a := 14) 40 0 (by omega)
    have h3 : 0 ≤ k ∧ k ≤ 5 ∧ q_ff M 14 40 0 ≠ -1 ∧ q_can M b s = 1 := by grind [q_make]
    exact q_wr_up (q_beg_w (q_put_w w h3.2.2.2 (by omega) (by omega) (by omega)) ⟨h3.1, h3.2.1⟩ ht) (q_okv_o (by decide))
  · exact w
theorem q_sealM_w {t b : Int} (w : q_wr M) (ht : -1 ≤ t ∧ t < 120) (hb : -1 ≤ b ∧ b < 120) : q_wr (q_sealM M t b) := by
  unfold q_sealM
  split
  · rename_i h
    have hf : b ≠ -1 := by grind [q_seal, q_fits]
    have h4 := q_w4 (i := b.toNat) w (by omega)
    refine q_use_w (q_wr_up w ?_)
    simp [q_okv]; omega
  · exact w
theorem q_openM_w {t b : Int} (w : q_wr M) : q_wr (q_openM M t b) := by
  unfold q_openM
  split
  · exact q_use_w (q_wr_up w (by simp [q_okv]))
  · exact w
theorem q_dropM_w {t : Int} (w : q_wr M) : q_wr (q_dropM M t) := by
  unfold q_dropM
  split
  · exact q_mark_w w
  · exact w
theorem q_takeM_w {t : Int} (w : q_wr M) : q_wr (q_takeM M t) := by
  unfold q_takeM
  split
  · exact q_wr_dm w
  · exact w
theorem q_tillM_w {t k : Int} (w : q_wr M) : q_wr (q_tillM M t k) := by
  unfold q_tillM
  split
  · exact q_wr_up w (q_okv_o (by decide))
  · exact w
theorem q_ppM_w {t y c : Int} (w : q_wr M) (ht : -1 ≤ t ∧ t < 120) : q_wr (q_ppM M t y c) := by
  unfold q_ppM
  split
  · exact q_use_w (q_lendM_w w ht (by omega))
  · exact w
theorem q_pgM_w {y b a c : Int} (w : q_wr M) : q_wr (q_pgM M y b a c) := by
  unfold q_pgM
  split
  · exact q_use_w (q_lendM_w w (q_ta_in w) (by omega))
  · exact w
theorem q_prfM_w {box what a b c : Int} (w : q_wr M) : q_wr (q_prfM M box what a b c) := by
  have hta := q_ta_in (b := box) (s := a) w
  have htb := q_ta_in (b := box) (s := b) w
  unfold q_prfM
  split
  · exact q_lendM_w w hta (by omega)
  split
  · exact q_lendM_w w hta (by omega)
  split
  · exact q_lendM_w w hta (by omega)
  split
  · exact q_splitM_w w hta
  split
  · exact q_makeM_w w hta
  split
  · exact q_sealM_w w hta htb
  split
  · exact q_openM_w w
  split
  · exact q_takeM_w w
  split
  · exact q_dropM_w w
  split
  · exact q_ppM_w w hta
  split
  · exact q_pgM_w w
  split
  · exact q_tillM_w w
  · exact w
theorem q_ninM_w {t : Int} (w : q_wr M) (ht : 0 ≤ t ∧ t < 40) : q_wr (q_ninM M t) := by
  have h1 := q_w18 (i := t.toNat) w (by omega)
  have h2 := q_w19 (i := t.toNat) w (by omega)
  unfold q_ninM
  split
  · exact w
  · refine q_wr_up w ?_
    simp [q_okv]; omega
theorem q_roM_w {b s : Int} (w : q_wr M) : q_wr (q_roM M b s) := by
  have hta := q_ta_in (b := b) (s := s) w
  unfold q_roM
  split
  · rename_i h
    refine q_use_w ?_
    unfold q_roL
    split
    · exact q_wr_up w (q_okv_o (by decide))
    · split
      · exact q_wr_up w (q_okv_o (by decide))
      · refine q_wr_up (q_ninM_w w ?_) (q_okv_o (by decide))
        grind [q_ro, q_roY, q_of]
  · exact w
/-- what was put out by now is less than the bound -/
def q_few (M : mj_M) (n : Int) : Prop := ∀ i : Nat, i < 40 → M 17 i < n
theorem q_wiM_w {b s v : Int} (w : q_wr M) (hn : q_few M 99999999) : q_wr (q_wiM M b s v) := by
  have hta := q_ta_in (b := b) (s := s) w
  unfold q_wiM
  split
  · rename_i h
    refine q_use_w ?_
    unfold q_wiL
    split
    · exact q_wr_up w (q_okv_o (by decide))
    · have hy : 0 ≤ M 4 (q_ta M b s).toNat ∧ M 4 (q_ta M b s).toNat < 40 := by grind [q_wi, q_wiY, q_of]
      have h17 := q_w17 (i := (M 4 (q_ta M b s).toNat).toNat) w (by omega)
      have h17b := hn (M 4 (q_ta M b s).toNat).toNat (by omega)
      unfold q_pout
      split
      · refine q_wr_up (q_wr_up w (q_okv_o (by decide))) ?_
        simp [q_okv]; omega
      · refine q_wr_up w ?_
        simp [q_okv]; omega
  · exact w
theorem q_kpM_w {r s : Int} (w : q_wr M) : q_wr (q_kpM M r s) := by
  have hta := q_ta_in (b := M 23 r.toNat) (s := s) w
  unfold q_kpM
  split
  · rename_i h
    have hf : q_ta M (M 23 r.toNat) s ≠ -1 := by grind [q_kp, q_og, q_fits]
    have h4 := q_w4 (i := (q_ta M (M 23 r.toNat) s).toNat) w (by omega)
    refine q_use_w (q_wr_up w ?_)
    simp [q_okv]; omega
  · exact w
theorem q_goes_w {r s g b c n : Int} (w : q_wr M) (hg : -1 ≤ g ∧ g < 40) : q_wr (q_goes M r s g b c n) := by
  unfold q_goes
  refine q_wr_up (q_wr_up (q_wr_up (q_wr_up (q_wr_up w (q_okv_o (by decide))) ?_) (q_okv_o (by decide))) (q_okv_o (by decide))) (q_okv_o (by decide))
  simp [q_okv]; omega
theorem q_serve_w {s c : Int} (w : q_wr M) (hs : -1 ≤ s ∧ s < 8) (hc : -1 ≤ c ∧ c < 8) : q_wr (q_serve M s c) := by
  unfold q_serve
  refine q_wr_up (q_wr_up (q_wake_w w) ?_) ?_
  · simp [q_okv]; omega
  · simp [q_okv]; omega
end sp51
