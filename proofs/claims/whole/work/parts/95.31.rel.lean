section re31
variable {A B C M V W A' V' : mj_M} {e e' : Nat}
/-- the counters of the other side are as they were -/
def m_cB (V W : mj_M) : Prop := W 17 = V 17 ∧ W 201 = V 201
theorem m_cB_r : m_cB V V := ⟨rfl, rfl⟩
theorem m_cB_t (h : m_cB V W) (h2 : m_cB W C) : m_cB V C := ⟨h2.1.trans h.1, h2.2.trans h.2⟩
theorem m_cB_up {a i : Nat} {v : Int} (h : m_cB V W) (h2 : a ≠ 17 ∧ a ≠ 201) : m_cB V (mj_up W a i v) := ⟨by rw [mj_up_ne (by omega)]; exact h.1, by rw [mj_up_ne (by omega)]; exact h.2⟩
theorem m_cB_for {N : Nat} {F : Nat → mj_M → mj_M} (h : ∀ t V, t < N → m_cB V (F t V)) : ∀ (n t : Nat) (V : mj_M), t + n = N → m_cB V (q_for F n t V) := by
  intro n
  induction n with
  | zero => intro t V _; exact m_cB_r
  | succ n ih => intro t V h2; exact m_cB_t (h t V (by omega)) (ih (t + 1) _ (by omega))
theorem m_mk_B {t : Int}  : m_cB V (m_mk V t) := by
  unfold m_mk
  exact m_cB_up (m_cB_r) (by omega)
theorem m_go1_B {t : Int}  : m_cB V (m_go1 V t) := by
  unfold m_go1
  simp only []
  split
  · exact m_cB_up (m_cB_up (m_cB_up (m_cB_r) (by omega)) (by omega)) (by omega)
  · exact m_cB_up (m_cB_up (m_cB_up (m_cB_r) (by omega)) (by omega)) (by omega)
theorem f_m198_B {t : Int} {y : Nat}  : m_cB V (f_m198 t y V) := by
  unfold f_m198
  split
  · exact m_cB_up (m_cB_r) (by omega)
  · exact m_cB_r
theorem m_go2_B {t : Int}  : m_cB V (m_go2 V t) := by
  unfold m_go2
  exact m_cB_t m_go1_B (m_cB_for (N := 40) (fun _ _ _ => f_m198_B) 40 0 _ rfl)
theorem m_goes_B : ∀ (n : Nat) (t : Int) (V : mj_M), m_cB V (m_goes n t V) := by
  intro n
  induction n with
  | zero => intro t V; exact m_cB_r
  | succ n ih =>
    intro t V
    rw [m_goes]
    refine m_cB_t (m_cB_for (N := 120) (fun k V _ => ?_) 120 0 _ rfl) m_go2_B
    show m_cB V (if V 212 k = 1 ∧ V 7 k = t then m_goes n (k : Int) V else V)
    split
    · exact ih _ _
    · exact m_cB_r
theorem f_swT_B {t : Nat}  : m_cB V (f_swT t V) := by
  unfold f_swT
  split
  · exact m_goes_B _ _ _
  · exact m_cB_r
theorem m_gt_B {y : Int} : m_cB V (m_gt V y) := ⟨m_gt_o (by omega), m_gt_o (by omega)⟩
theorem f_swX_B {y : Nat}  : m_cB V (f_swX y V) := by
  unfold f_swX
  split
  · exact m_cB_r
  · exact m_gt_B
theorem m_swP_B   : m_cB V (m_swP V) := by
  unfold m_swP
  exact m_cB_t (m_cB_for (N := 120) (fun _ _ _ => f_swT_B) 120 0 _ rfl) (m_cB_for (N := 40) (fun _ _ _ => f_swX_B) 39 1 _ rfl)
theorem m_sw_B : ∀ (n : Nat) (V : mj_M), m_cB V (m_sw n V) := by
  intro n
  induction n with
  | zero => intro V; exact m_cB_r
  | succ n ih =>
    intro V
    unfold m_sw
    split
    · exact m_swP_B
    · exact m_cB_t m_swP_B (ih _)
theorem m_swp_B : m_cB V (m_swp V) := m_sw_B 41 V
theorem m_drop_B {t : Int}  : m_cB V (m_drop V t) := by
  unfold m_drop
  exact m_cB_t m_mk_B m_swp_B
theorem m_use_B {t : Int}  : m_cB V (m_use V t) := by
  unfold m_use
  split
  · exact m_drop_B
  · exact m_cB_r
theorem m_put_B {k th r ro l b s la : Int}  : m_cB V (m_put V k th r ro l b s la) := by
  unfold m_put
  exact m_cB_up (m_cB_up (m_cB_up (m_cB_up (m_cB_up (m_cB_up (m_cB_up (m_cB_up (m_cB_up (m_cB_up (m_cB_up (m_cB_up (m_cB_up (m_cB_r) (by omega)) (by omega)) (by omega)) (by omega)) (by omega)) (by omega)) (by omega)) (by omega)) (by omega)) (by omega)) (by omega)) (by omega)) (by omega)
theorem m_lnM_B {b a k r u s : Int}  : m_cB V (m_lnM V b a k r u s) := by
  unfold m_lnM
  split
  · exact m_put_B
  · exact m_cB_r
theorem m_spM_B {b a n c : Int}  : m_cB V (m_spM V b a n c) := by
  unfold m_spM m_spA
  split
  · exact m_cB_t (m_cB_up (m_cB_r) (by omega)) m_put_B
  · exact m_cB_r
theorem m_seM_B {b a c : Int}  : m_cB V (m_seM V b a c) := by
  unfold m_seM m_seA
  split
  · exact m_cB_t (m_cB_up (m_cB_r) (by omega)) m_use_B
  · exact m_cB_r
theorem m_opM_B {b a c : Int}  : m_cB V (m_opM V b a c) := by
  unfold m_opM m_opA
  split
  · exact m_cB_t (m_cB_up (m_cB_r) (by omega)) m_use_B
  · exact m_cB_r
theorem m_doom_B {n : Nat} {t : Int} : m_cB V (m_doom n t V) := ⟨m_doom_o (by omega) _ _ _, m_doom_o (by omega) _ _ _⟩
theorem m_taM_B {b a : Int}  : m_cB V (m_taM V b a) := by
  unfold m_taM
  split
  · exact m_doom_B
  · exact m_cB_r
theorem m_drM_B {b a : Int}  : m_cB V (m_drM V b a) := by
  unfold m_drM
  split
  · exact m_drop_B
  · exact m_cB_r
theorem m_puM_B {b a c e : Int}  : m_cB V (m_puM V b a c e) := by
  unfold m_puM
  split
  · exact m_cB_t m_lnM_B m_use_B
  · exact m_cB_r
theorem m_geM_B {b a c e : Int}  : m_cB V (m_geM V b a c e) := by
  unfold m_geM
  split
  · exact m_cB_t m_lnM_B m_use_B
  · exact m_cB_r
theorem m_tiM_B {b a k : Int}  : m_cB V (m_tiM V b a k) := by
  unfold m_tiM
  split
  · exact m_cB_up (m_cB_r) (by omega)
  · exact m_cB_r
theorem m_ldM_B {b a : Int}  : m_cB V (m_ldM V b a) := by
  unfold m_ldM m_ldA
  split
  · split
    · exact m_cB_t (m_cB_up (m_cB_r) (by omega)) m_use_B
    · exact m_use_B
  · exact m_cB_r
theorem m_en_B {r s : Int} : m_cB V (m_en V r s) := ⟨m_en_o (by omega), m_en_o (by omega)⟩
theorem m_fa_B {r : Int} : m_cB V (m_fa V r) := ⟨m_fa_o (by omega), m_fa_o (by omega)⟩
theorem m_rd_B {r : Int}  : m_cB V (m_rd V r) := by
  unfold m_rd
  simp only []
  exact m_cB_up (m_cB_up (m_cB_up (m_cB_up (m_cB_r) (by omega)) (by omega)) (by omega)) (by omega)
theorem m_takL_B {c u s : Int}  : m_cB V (m_takL V c u s) := by
  unfold m_takL
  split
  · exact m_cB_r
  · exact m_lnM_B
theorem m_takM_B {c u s : Int}  : m_cB V (m_takM V c u s) := by
  unfold m_takM
  split
  · exact m_cB_up (m_cB_up (m_cB_up (m_takL_B) (by omega)) (by omega)) (by omega)
  · exact m_cB_r
theorem m_clA_B {r b c : Int}  : m_cB V (m_clA V r b c) := by
  unfold m_clA
  exact m_cB_up (m_cB_up (m_cB_r) (by omega)) (by omega)
theorem m_clW_B {u : Int}  : m_cB V (m_clW V u) := by
  unfold m_clW
  exact m_cB_up (m_cB_up (m_cB_up (m_cB_r) (by omega)) (by omega)) (by omega)
theorem m_clB_B {r a b c : Int}  : m_cB V (m_clB V r a b c) := by
  unfold m_clB
  split
  · exact m_clA_B
  · exact m_cB_t (m_cB_t m_clA_B m_takM_B) m_clW_B
theorem m_wsE_B {r g b : Int}  : m_cB V (m_wsE V r g b) := by
  unfold m_wsE
  exact m_cB_up (m_cB_up (m_cB_up (m_cB_r) (by omega)) (by omega)) (by omega)
theorem m_wsM_B {r b g t : Int} : ∀ (n : Nat) (V : mj_M) (u : Int), m_cB V (m_wsM r b g t n V u) := by
  intro n
  induction n with
  | zero => intro V u; exact m_cB_r
  | succ n ih =>
    intro V u
    unfold m_wsM
    split
    · exact m_cB_t m_wsE_B m_use_B
    split
    · exact m_cB_t m_takM_B m_use_B
    · exact m_cB_t m_fa_B (ih _ _)
theorem m_waM_B {r a b : Int}  : m_cB V (m_waM V r a b) := by
  unfold m_waM
  split
  · exact m_wsM_B _ _ _
  · exact m_cB_r
theorem m_anL_B {r b : Int}  : m_cB V (m_anL V r b) := by
  unfold m_anL
  split
  · exact m_cB_r
  · exact m_lnM_B
theorem m_anW_B {r o : Int}  : m_cB V (m_anW V r o) := by
  unfold m_anW
  exact m_cB_t (m_cB_up (m_cB_up (m_cB_r) (by omega)) (by omega)) m_rd_B
theorem f_an_B {g : Int} {t : Nat}  : m_cB V (f_an g t V) := by
  unfold f_an
  split
  · exact m_mk_B
  · exact m_cB_r
theorem m_anP_B {g : Int}  : m_cB V (m_anP V g) := by
  unfold m_anP
  split
  · exact m_cB_t (m_cB_for (N := 120) (fun _ _ _ => f_an_B) 120 0 _ rfl) m_swp_B
  · exact m_cB_r
theorem m_anM_B {r b : Int}  : m_cB V (m_anM V r b) := by
  unfold m_anM
  split
  · exact m_cB_t (m_cB_t m_anL_B m_anW_B) m_anP_B
  · exact m_cB_r
theorem m_mdV_B : ∀ (n t : Nat) (c : Int) (V : mj_M), m_cB V (m_mdV n t c V) := by
  intro n
  induction n with
  | zero => intro t c V; exact m_cB_r
  | succ n ih =>
    intro t c V
    unfold m_mdV
    split
    · split
      · exact ih _ _ _
      · exact m_cB_t m_mk_B (ih _ _ _)
    · exact m_cB_r
theorem m_pc_B : m_cB V (m_pc V) := by
  unfold m_pc
  split
  · exact m_cB_t (m_mdV_B _ _ _ _) m_swp_B
  · exact m_mdV_B _ _ _ _
/-- the counters are small -/
def m_B (n : Int) (V : mj_M) : Prop := (∀ i : Nat, i < 40 → V 17 i ≤ n) ∧ (0 ≤ V 201 0 ∧ V 201 0 ≤ n) ∧ (0 ≤ V 201 1 ∧ V 201 1 ≤ n)
theorem m_B_c {n : Int} (h : m_B n V) (c : m_cB V W) : m_B n W := by
  unfold m_B at h ⊢
  rw [c.1, c.2]; exact h
theorem m_B_m {n m : Int} (h : m_B n V) (l : n ≤ m) : m_B m V := ⟨fun i hi => Int.le_trans (h.1 i hi) l, ⟨h.2.1.1, Int.le_trans h.2.1.2 l⟩, ⟨h.2.2.1, Int.le_trans h.2.2.2 l⟩⟩
theorem m_B_up {n v : Int} {i : Nat} (h : m_B n V) (l : v ≤ n) : m_B n (mj_up V 17 i v) := by
  refine ⟨fun j hj => ?_, by rw [mj_up_ne (by omega)]; exact h.2.1, by rw [mj_up_ne (by omega)]; exact h.2.2⟩
  rw [mj_up_at]
  have := h.1 j hj
  split
  · exact l
  · exact this
theorem m_stM_B {b a v n : Int} (h : m_B n V) (hn : 0 ≤ n ∧ n < 99999999) (w : q_wr V) (hb : 0 ≤ b ∧ b < 40) : m_B (n + 1) (m_stM V b a v) := by
  have h1 := m_B_m (m := n + 1) h (by omega)
  unfold m_stM
  split
  · refine m_B_c ?_ m_use_B
    unfold m_stA
    split
    · exact m_B_c h1 (m_cB_up m_cB_r (by omega))
    · rename_i q1 q2
      have hf := m_ft_in (s := a) (r := 2) w hb
      have q3 : m_ft V b a 2 ≠ -1 := by
        unfold m_st at q1
        split at q1
        · rename_i q; exact q.1
        · omega
      have h4 : 0 ≤ V 4 (m_ft V b a 2).toNat ∧ V 4 (m_ft V b a 2).toNat < 40 := by
        rcases hf with q | q
        · exact absurd q q3
        · have := q_w4 (i := (m_ft V b a 2).toNat) w (by omega)
          omega
      have hl := h.1 (V 4 (m_ft V b a 2).toNat).toNat (by omega)
      have h17 := q_w17 (i := (V 4 (m_ft V b a 2).toNat).toNat) w (by omega)
      have hw : mj_w (V 17 (V 4 (m_ft V b a 2).toNat).toNat + 1) ≤ n + 1 := by rw [mj_w_id2 (by omega) (by omega)]; omega
      unfold m_stO
      split
      · exact m_B_up (m_B_c h1 (m_cB_up m_cB_r (by omega))) hw
      · exact m_B_up h1 hw
  · exact h1
theorem m_mgM_B {b a k c n : Int} (h : m_B n V) (hn : 0 ≤ n ∧ n < 99999999) : m_B (n + 1) (m_mgM V b a k c) := by
  have h1 := m_B_m (m := n + 1) h (by omega)
  unfold m_mgM
  split
  · rename_i q
    refine m_B_c ?_ m_put_B
    unfold m_mgB
    have hth := m_fth_in (V := V) 40 0
    have q2 : m_fth V 40 0 ≠ 40 := by
      intro g
      unfold m_mg at q
      rw [if_neg (fun t => t.2.2.2.2.2.2 g)] at q
      omega
    have hA : m_B n (m_mgA V (m_fi V b a 16) k) := m_B_c h (by unfold m_mgA; exact m_cB_up m_cB_r (by omega))
    obtain ⟨-, -, -, -, z17, -, -, -, -, -, -, z201⟩ := z_mkt (V := m_mgA V (m_fi V b a 16) k) (y := m_fth V 40 0) (k := k) (o := m_fi V b a 16) (by omega)
    have g1 := hA.2.1
    have g2 := hA.2.2
    refine ⟨fun i hi => ?_, ?_, ?_⟩
    · rw [z17]
      have := hA.1 i hi
      split
      · omega
      · omega
    · rw [z201, if_neg (by omega)]; omega
    · rw [z201, if_pos rfl, mj_w_id2 (by omega) (by omega)]; omega
  · exact h1
theorem m_acM_B {y what a b c n : Int} (h : m_B n V) (hn : 0 ≤ n ∧ n < 99999999) : m_B (n + 1) (m_acM V y what a b c) := by
  have h1 := m_B_m (m := n + 1) h (by omega)
  unfold m_acM
  split
  · exact m_B_c h1 m_lnM_B
  split
  · exact m_B_c h1 m_lnM_B
  split
  · exact m_B_c h1 m_lnM_B
  split
  · exact m_B_c h1 m_spM_B
  split
  · exact m_mgM_B h hn
  split
  · exact m_B_c h1 m_seM_B
  split
  · exact m_B_c h1 m_opM_B
  split
  · exact m_B_c h1 m_taM_B
  split
  · exact m_B_c h1 m_drM_B
  split
  · exact m_B_c h1 m_puM_B
  split
  · exact m_B_c h1 m_geM_B
  split
  · exact m_B_c h1 m_tiM_B
  · exact h1
theorem m_clM_B {r a b c n : Int} (h : m_B n V) (hn : 0 ≤ n ∧ n < 99999999) : m_B (n + 1) (m_clM V r a b c) := by
  have h1 := m_B_m (m := n + 1) h (by omega)
  unfold m_clM
  split
  · split
    · refine m_B_c ?_ m_use_B
      have hB := m_B_c h (m_clB_B (r := r) (a := a) (b := b) (c := c))
      generalize m_clB V r a b c = W at *
      have g1 := hB.2.1
      have g2 := hB.2.2
      unfold m_clF
      refine m_B_c (V := mj_up W 201 0 (mj_w (W 201 0 + 1))) ?_ (m_cB_up (m_cB_up (m_cB_up m_cB_r (by omega)) (by omega)) (by omega))
      refine ⟨fun i hi => by rw [mj_up_ne (by omega)]; have := hB.1 i hi; omega, ?_, ?_⟩
      · rw [mj_up_at, if_pos rfl, mj_w_id2 (by omega) (by omega)]; omega
      · rw [mj_up_at, if_neg (by omega)]; omega
    · exact m_B_c h1 m_clA_B
  · exact h1
theorem m_doM_B {r n : Int} (h : m_B n V) (hn : 0 ≤ n ∧ n < 99999999) (w : q_wr V) (hr : 0 ≤ r ∧ r < 8) : m_B (n + 1) (m_doM V r) := by
  have h1 := m_B_m (m := n + 1) h (by omega)
  have h23 := q_w23 (i := r.toNat) w (by omega)
  unfold m_doM
  by_cases y0 : q_hs V r = 0
  · rw [if_pos y0]; exact h1
  rw [if_neg y0]
  by_cases y1 : q_pr V r 0 = 0
  · rw [if_pos y1]; exact m_B_c h1 m_en_B
  rw [if_neg y1]
  by_cases y2 : q_pr V r 0 = 1
  · rw [if_pos y2]; exact m_B_c h1 (m_cB_up m_cB_r (by omega))
  rw [if_neg y2]
  by_cases y3 : q_pr V r 0 = 2
  · rw [if_pos y3]; exact m_B_c h1 (m_cB_up m_cB_r (by omega))
  rw [if_neg y3]
  by_cases y4 : q_pr V r 0 = 3
  · rw [if_pos y4]
    by_cases yy : V 26 r.toNat = 0
    · rw [if_pos yy]; exact h1
    · rw [if_neg yy]; exact m_B_c h1 (m_cB_up m_cB_r (by omega))
  rw [if_neg y4]
  by_cases y5 : q_pr V r 0 = 4
  · rw [if_pos y5]
    by_cases yy : m_ld V (V 23 r.toNat) (q_pr V r 1) = 1
    · rw [if_pos yy]; exact m_B_c h1 (m_cB_up m_ldM_B (by omega))
    · rw [if_neg yy]; exact h1
  rw [if_neg y5]
  by_cases y6 : q_pr V r 0 = 5
  · rw [if_pos y6]; exact m_stM_B h hn w h23
  rw [if_neg y6]
  by_cases y7 : q_pr V r 0 = 15
  · rw [if_pos y7]; exact m_clM_B h hn
  rw [if_neg y7]
  by_cases y8 : q_pr V r 0 = 16
  · rw [if_pos y8]
    by_cases yy : -1 ≤ q_pr V r 3 ∧ q_pr V r 3 ≤ 9
    · rw [if_pos yy]; exact m_B_c h1 m_waM_B
    · rw [if_neg yy]; exact h1
  rw [if_neg y8]
  by_cases y9 : q_pr V r 0 = 17
  · rw [if_pos y9]
    by_cases yy : -1 ≤ q_pr V r 3 ∧ q_pr V r 3 ≤ 9
    · rw [if_pos yy]; exact m_B_c h1 m_anM_B
    · rw [if_neg yy]; exact h1
  rw [if_neg y9]
  by_cases y10 : q_pr V r 0 = 20
  · rw [if_pos y10]; exact h1
  rw [if_neg y10]
  exact m_acM_B h hn
theorem m_tkM_B {rl n : Int} (h : m_B n V) (hn : 0 ≤ n ∧ n < 99999999) (w : q_wr (m_pc V)) : m_B (n + 1) (m_tkM V rl) := by
  have h1 := m_B_c h m_pc_B
  have hin := m_chS_in (rl := rl) w
  have e1 : m_chS (m_pc V) rl = m_tkR V rl := rfl
  rw [e1] at hin
  unfold m_tkM
  simp only []
  split
  · exact m_B_c (m_B_m h1 (by omega)) (m_cB_up m_cB_r (by omega))
  · refine m_B_c ?_ (m_cB_up m_cB_r (by omega))
    have h2 : m_B n (m_tkB (m_pc V) (m_tkR V rl)) := m_B_c h1 (by unfold m_tkB; exact m_cB_up m_cB_r (by omega))
    have w2 : q_wr (m_tkB (m_pc V) (m_tkR V rl)) := by unfold m_tkB; exact q_wr_up w (by simp [q_okv]; omega)
    have h3 := m_doM_B (r := m_tkR V rl) h2 hn w2 (by omega)
    unfold m_tkC
    split
    · exact m_B_c h3 m_fa_B
    split
    · exact m_B_c h3 (m_cB_up m_cB_r (by omega))
    · exact h3
/-- the rule is as it was -/
def m_cR (V W : mj_M) : Prop := W 1 9 = V 1 9 ∧ W 217 = V 217
theorem m_cR_r : m_cR V V := ⟨rfl, rfl⟩
theorem m_cR_t (h : m_cR V W) (h2 : m_cR W C) : m_cR V C := ⟨h2.1.trans h.1, h2.2.trans h.2⟩
theorem m_cR_up {a i : Nat} {v : Int} (h : m_cR V W) (h2 : (a ≠ 1 ∨ i ≠ 9) ∧ a ≠ 217) : m_cR V (mj_up W a i v) := by
  refine ⟨?_, ?_⟩
  · rw [← h.1]
    by_cases c : a = 1
    · subst c; rw [mj_up_at, if_neg (by omega)]
    · rw [mj_up_ne (by omega)]
  · rw [mj_up_ne (by omega)]; exact h.2
theorem m_cR_for {N : Nat} {F : Nat → mj_M → mj_M} (h : ∀ t V, t < N → m_cR V (F t V)) : ∀ (n t : Nat) (V : mj_M), t + n = N → m_cR V (q_for F n t V) := by
  intro n
  induction n with
  | zero => intro t V _; exact m_cR_r
  | succ n ih => intro t V h2; exact m_cR_t (h t V (by omega)) (ih (t + 1) _ (by omega))
theorem m_mk_R {t : Int}  : m_cR V (m_mk V t) := by
  unfold m_mk
  exact m_cR_up (m_cR_r) (by omega)
theorem m_go1_R {t : Int}  : m_cR V (m_go1 V t) := by
  unfold m_go1
  simp only []
  split
  · exact m_cR_up (m_cR_up (m_cR_up (m_cR_r) (by omega)) (by omega)) (by omega)
  · exact m_cR_up (m_cR_up (m_cR_up (m_cR_r) (by omega)) (by omega)) (by omega)
theorem f_m198_R {t : Int} {y : Nat}  : m_cR V (f_m198 t y V) := by
  unfold f_m198
  split
  · exact m_cR_up (m_cR_r) (by omega)
  · exact m_cR_r
theorem m_go2_R {t : Int}  : m_cR V (m_go2 V t) := by
  unfold m_go2
  exact m_cR_t m_go1_R (m_cR_for (N := 40) (fun _ _ _ => f_m198_R) 40 0 _ rfl)
theorem m_goes_R : ∀ (n : Nat) (t : Int) (V : mj_M), m_cR V (m_goes n t V) := by
  intro n
  induction n with
  | zero => intro t V; exact m_cR_r
  | succ n ih =>
    intro t V
    rw [m_goes]
    refine m_cR_t (m_cR_for (N := 120) (fun k V _ => ?_) 120 0 _ rfl) m_go2_R
    show m_cR V (if V 212 k = 1 ∧ V 7 k = t then m_goes n (k : Int) V else V)
    split
    · exact ih _ _
    · exact m_cR_r
theorem f_swT_R {t : Nat}  : m_cR V (f_swT t V) := by
  unfold f_swT
  split
  · exact m_goes_R _ _ _
  · exact m_cR_r
theorem m_en_R {r s : Int} : m_cR V (m_en V r s) := ⟨by rw [m_en_o (by omega)], m_en_o (by omega)⟩
theorem f_m200t_R {y : Int} {t : Nat}  : m_cR V (f_m200t y t V) := by
  unfold f_m200t
  split
  · exact m_cR_up (m_cR_r) (by omega)
  · exact m_cR_r
theorem f_m200k_R {y : Int} {r : Nat}  : m_cR V (f_m200k y r V) := by
  unfold f_m200k
  split
  · exact m_cR_up (m_cR_r) (by omega)
  · exact m_cR_r
theorem f_m200r_R {y k : Int} {r : Nat}  : m_cR V (f_m200r y k r V) := by
  unfold f_m200r
  split
  · split
    · exact m_cR_t f_m200k_R m_en_R
    · exact f_m200k_R
  · split
    · split
      · exact m_cR_t f_m200k_R m_en_R
      · exact f_m200k_R
    · exact f_m200k_R
theorem f_m200s_R {y : Int} {t : Nat}  : m_cR V (f_m200s y t V) := by
  unfold f_m200s
  split
  · exact m_cR_r
  · exact m_mk_R
theorem m_gtA_R {y : Int}  : m_cR V (m_gtA V y) := by
  unfold m_gtA
  split
  · exact m_cR_up (m_cR_up (m_cR_r) (by omega)) (by omega)
  · exact m_cR_up (m_cR_up (m_cR_r) (by omega)) (by omega)
theorem m_gtR_R {y k : Int}  : m_cR V (m_gtR V y k) := by
  unfold m_gtR
  exact m_cR_for (N := (V 22 13).toNat) (fun _ _ _ => f_m200r_R) _ 0 _ (by omega)
theorem m_gtS_R {y k : Int}  : m_cR V (m_gtS V y k) := by
  unfold m_gtS
  split
  · exact m_cR_for (N := 10) (fun _ _ _ => f_m200s_R) 10 0 _ rfl
  · exact m_cR_r
theorem m_gt_R {y : Int}  : m_cR V (m_gt V y) := by
  unfold m_gt
  exact m_cR_t (m_cR_t (m_cR_t m_gtA_R (m_cR_for (N := 120) (fun _ _ _ => f_m200t_R) 120 0 _ rfl)) m_gtR_R) m_gtS_R
theorem f_swX_R {y : Nat}  : m_cR V (f_swX y V) := by
  unfold f_swX
  split
  · exact m_cR_r
  · exact m_gt_R
theorem m_swP_R   : m_cR V (m_swP V) := by
  unfold m_swP
  exact m_cR_t (m_cR_for (N := 120) (fun _ _ _ => f_swT_R) 120 0 _ rfl) (m_cR_for (N := 40) (fun _ _ _ => f_swX_R) 39 1 _ rfl)
theorem m_sw_R : ∀ (n : Nat) (V : mj_M), m_cR V (m_sw n V) := by
  intro n
  induction n with
  | zero => intro V; exact m_cR_r
  | succ n ih =>
    intro V
    unfold m_sw
    split
    · exact m_swP_R
    · exact m_cR_t m_swP_R (ih _)
theorem m_swp_R : m_cR V (m_swp V) := m_sw_R 41 V
theorem m_drop_R {t : Int}  : m_cR V (m_drop V t) := by
  unfold m_drop
  exact m_cR_t m_mk_R m_swp_R
theorem m_use_R {t : Int}  : m_cR V (m_use V t) := by
  unfold m_use
  split
  · exact m_drop_R
  · exact m_cR_r
theorem m_put_R {k th r ro l b s la : Int}  : m_cR V (m_put V k th r ro l b s la) := by
  unfold m_put
  exact m_cR_up (m_cR_up (m_cR_up (m_cR_up (m_cR_up (m_cR_up (m_cR_up (m_cR_up (m_cR_up (m_cR_up (m_cR_up (m_cR_up (m_cR_up (m_cR_r) (by omega)) (by omega)) (by omega)) (by omega)) (by omega)) (by omega)) (by omega)) (by omega)) (by omega)) (by omega)) (by omega)) (by omega)) (by omega)
theorem m_lnM_R {b a k r u s : Int}  : m_cR V (m_lnM V b a k r u s) := by
  unfold m_lnM
  split
  · exact m_put_R
  · exact m_cR_r
theorem m_spM_R {b a n c : Int}  : m_cR V (m_spM V b a n c) := by
  unfold m_spM m_spA
  split
  · exact m_cR_t (m_cR_up (m_cR_r) (by omega)) m_put_R
  · exact m_cR_r
theorem m_seM_R {b a c : Int}  : m_cR V (m_seM V b a c) := by
  unfold m_seM m_seA
  split
  · exact m_cR_t (m_cR_up (m_cR_r) (by omega)) m_use_R
  · exact m_cR_r
theorem m_opM_R {b a c : Int}  : m_cR V (m_opM V b a c) := by
  unfold m_opM m_opA
  split
  · exact m_cR_t (m_cR_up (m_cR_r) (by omega)) m_use_R
  · exact m_cR_r
theorem m_doom_R {n : Nat} {t : Int} : m_cR V (m_doom n t V) := ⟨by rw [m_doom_o (by omega)], m_doom_o (by omega) _ _ _⟩
theorem m_taM_R {b a : Int}  : m_cR V (m_taM V b a) := by
  unfold m_taM
  split
  · exact m_doom_R
  · exact m_cR_r
theorem m_drM_R {b a : Int}  : m_cR V (m_drM V b a) := by
  unfold m_drM
  split
  · exact m_drop_R
  · exact m_cR_r
theorem m_puM_R {b a c e : Int}  : m_cR V (m_puM V b a c e) := by
  unfold m_puM
  split
  · exact m_cR_t m_lnM_R m_use_R
  · exact m_cR_r
theorem m_geM_R {b a c e : Int}  : m_cR V (m_geM V b a c e) := by
  unfold m_geM
  split
  · exact m_cR_t m_lnM_R m_use_R
  · exact m_cR_r
theorem m_tiM_R {b a k : Int}  : m_cR V (m_tiM V b a k) := by
  unfold m_tiM
  split
  · exact m_cR_up (m_cR_r) (by omega)
  · exact m_cR_r
theorem m_ldM_R {b a : Int}  : m_cR V (m_ldM V b a) := by
  unfold m_ldM m_ldA
  split
  · split
    · exact m_cR_t (m_cR_up (m_cR_r) (by omega)) m_use_R
    · exact m_use_R
  · exact m_cR_r
theorem m_rd_R {r : Int}  : m_cR V (m_rd V r) := by
  unfold m_rd
  simp only []
  exact m_cR_up (m_cR_up (m_cR_up (m_cR_up (m_cR_r) (by omega)) (by omega)) (by omega)) (by omega)
theorem m_fa_R {r : Int}  : m_cR V (m_fa V r) := by
  unfold m_fa m_faB m_faA
  have h : m_cR V (m_en (mj_up V 1 11 (mj_w (V 1 11 + 1))) r 3) := m_cR_t (m_cR_up (m_cR_r) (by omega)) m_en_R
  split
  · exact h
  · exact m_cR_t (m_cR_up (h) (by omega)) m_rd_R
theorem m_takL_R {c u s : Int}  : m_cR V (m_takL V c u s) := by
  unfold m_takL
  split
  · exact m_cR_r
  · exact m_lnM_R
theorem m_takM_R {c u s : Int}  : m_cR V (m_takM V c u s) := by
  unfold m_takM
  split
  · exact m_cR_up (m_cR_up (m_cR_up (m_takL_R) (by omega)) (by omega)) (by omega)
  · exact m_cR_r
theorem m_clA_R {r b c : Int}  : m_cR V (m_clA V r b c) := by
  unfold m_clA
  exact m_cR_up (m_cR_up (m_cR_r) (by omega)) (by omega)
theorem m_clW_R {u : Int}  : m_cR V (m_clW V u) := by
  unfold m_clW
  exact m_cR_up (m_cR_up (m_cR_up (m_cR_r) (by omega)) (by omega)) (by omega)
theorem m_clB_R {r a b c : Int}  : m_cR V (m_clB V r a b c) := by
  unfold m_clB
  split
  · exact m_clA_R
  · exact m_cR_t (m_cR_t m_clA_R m_takM_R) m_clW_R
theorem m_wsE_R {r g b : Int}  : m_cR V (m_wsE V r g b) := by
  unfold m_wsE
  exact m_cR_up (m_cR_up (m_cR_up (m_cR_r) (by omega)) (by omega)) (by omega)
theorem m_wsM_R {r b g t : Int} : ∀ (n : Nat) (V : mj_M) (u : Int), m_cR V (m_wsM r b g t n V u) := by
  intro n
  induction n with
  | zero => intro V u; exact m_cR_r
  | succ n ih =>
    intro V u
    unfold m_wsM
    split
    · exact m_cR_t m_wsE_R m_use_R
    split
    · exact m_cR_t m_takM_R m_use_R
    · exact m_cR_t m_fa_R (ih _ _)
theorem m_waM_R {r a b : Int}  : m_cR V (m_waM V r a b) := by
  unfold m_waM
  split
  · exact m_wsM_R _ _ _
  · exact m_cR_r
theorem m_anL_R {r b : Int}  : m_cR V (m_anL V r b) := by
  unfold m_anL
  split
  · exact m_cR_r
  · exact m_lnM_R
theorem m_anW_R {r o : Int}  : m_cR V (m_anW V r o) := by
  unfold m_anW
  exact m_cR_t (m_cR_up (m_cR_up (m_cR_r) (by omega)) (by omega)) m_rd_R
theorem f_an_R {g : Int} {t : Nat}  : m_cR V (f_an g t V) := by
  unfold f_an
  split
  · exact m_mk_R
  · exact m_cR_r
theorem m_anP_R {g : Int}  : m_cR V (m_anP V g) := by
  unfold m_anP
  split
  · exact m_cR_t (m_cR_for (N := 120) (fun _ _ _ => f_an_R) 120 0 _ rfl) m_swp_R
  · exact m_cR_r
theorem m_anM_R {r b : Int}  : m_cR V (m_anM V r b) := by
  unfold m_anM
  split
  · exact m_cR_t (m_cR_t m_anL_R m_anW_R) m_anP_R
  · exact m_cR_r
theorem m_mdV_R : ∀ (n t : Nat) (c : Int) (V : mj_M), m_cR V (m_mdV n t c V) := by
  intro n
  induction n with
  | zero => intro t c V; exact m_cR_r
  | succ n ih =>
    intro t c V
    unfold m_mdV
    split
    · split
      · exact ih _ _ _
      · exact m_cR_t m_mk_R (ih _ _ _)
    · exact m_cR_r
theorem m_pc_R : m_cR V (m_pc V) := by
  unfold m_pc
  split
  · exact m_cR_t (m_mdV_R _ _ _ _) m_swp_R
  · exact m_mdV_R _ _ _ _
theorem m_stM_R {b a v : Int}  : m_cR V (m_stM V b a v) := by
  unfold m_stM m_stA m_stO
  split
  · refine m_cR_t ?_ m_use_R
    split
    · exact m_cR_up (m_cR_r) (by omega)
    · split
      · exact m_cR_up (m_cR_up (m_cR_r) (by omega)) (by omega)
      · exact m_cR_up (m_cR_r) (by omega)
  · exact m_cR_r
theorem m_mgM_R {b a k c : Int} : m_cR V (m_mgM V b a k c) := by
  unfold m_mgM
  split
  · rename_i q
    refine m_cR_t ?_ m_put_R
    unfold m_mgB
    have hth := m_fth_in (V := V) 40 0
    have q2 : m_fth V 40 0 ≠ 40 := by
      intro g
      unfold m_mg at q
      rw [if_neg (fun t => t.2.2.2.2.2.2 g)] at q
      omega
    have hA : m_cR V (m_mgA V (m_fi V b a 16) k) := by unfold m_mgA; exact m_cR_up m_cR_r (by omega)
    have z := (z_mkt (V := m_mgA V (m_fi V b a 16) k) (y := m_fth V 40 0) (k := k) (o := m_fi V b a 16) (by omega)).1
    exact ⟨by rw [z 1 (by omega) (by omega) (by omega) (by omega) (by omega)]; exact hA.1, by rw [z 217 (by omega) (by omega) (by omega) (by omega) (by omega)]; exact hA.2⟩
  · exact m_cR_r
theorem m_acM_R {y what a b c : Int}  : m_cR V (m_acM V y what a b c) := by
  unfold m_acM
  split
  · exact m_lnM_R
  split
  · exact m_lnM_R
  split
  · exact m_lnM_R
  split
  · exact m_spM_R
  split
  · exact m_mgM_R
  split
  · exact m_seM_R
  split
  · exact m_opM_R
  split
  · exact m_taM_R
  split
  · exact m_drM_R
  split
  · exact m_puM_R
  split
  · exact m_geM_R
  split
  · exact m_tiM_R
  · exact m_cR_r
theorem m_clF_R {r g : Int}  : m_cR V (m_clF V r g) := by
  unfold m_clF
  exact m_cR_up (m_cR_up (m_cR_up (m_cR_up (m_cR_r) (by omega)) (by omega)) (by omega)) (by omega)
theorem m_clM_R {r a b c : Int}  : m_cR V (m_clM V r a b c) := by
  unfold m_clM
  split
  · split
    · exact m_cR_t (m_cR_t m_clB_R m_clF_R) m_use_R
    · exact m_clA_R
  · exact m_cR_r
theorem m_doM_R {r : Int} : m_cR V (m_doM V r) := by
  unfold m_doM
  by_cases y0 : q_hs V r = 0
  · rw [if_pos y0]; exact m_cR_r
  rw [if_neg y0]
  by_cases y1 : q_pr V r 0 = 0
  · rw [if_pos y1]; exact m_en_R
  rw [if_neg y1]
  by_cases y2 : q_pr V r 0 = 1
  · rw [if_pos y2]; exact m_cR_up m_cR_r (by omega)
  rw [if_neg y2]
  by_cases y3 : q_pr V r 0 = 2
  · rw [if_pos y3]; exact m_cR_up m_cR_r (by omega)
  rw [if_neg y3]
  by_cases y4 : q_pr V r 0 = 3
  · rw [if_pos y4]
    by_cases yy : V 26 r.toNat = 0
    · rw [if_pos yy]; exact m_cR_r
    · rw [if_neg yy]; exact m_cR_up m_cR_r (by omega)
  rw [if_neg y4]
  by_cases y5 : q_pr V r 0 = 4
  · rw [if_pos y5]
    by_cases yy : m_ld V (V 23 r.toNat) (q_pr V r 1) = 1
    · rw [if_pos yy]; exact m_cR_up m_ldM_R (by omega)
    · rw [if_neg yy]; exact m_cR_r
  rw [if_neg y5]
  by_cases y6 : q_pr V r 0 = 5
  · rw [if_pos y6]; exact m_stM_R
  rw [if_neg y6]
  by_cases y7 : q_pr V r 0 = 15
  · rw [if_pos y7]; exact m_clM_R
  rw [if_neg y7]
  by_cases y8 : q_pr V r 0 = 16
  · rw [if_pos y8]
    by_cases yy : -1 ≤ q_pr V r 3 ∧ q_pr V r 3 ≤ 9
    · rw [if_pos yy]; exact m_waM_R
    · rw [if_neg yy]; exact m_cR_r
  rw [if_neg y8]
  by_cases y9 : q_pr V r 0 = 17
  · rw [if_pos y9]
    by_cases yy : -1 ≤ q_pr V r 3 ∧ q_pr V r 3 ≤ 9
    · rw [if_pos yy]; exact m_anM_R
    · rw [if_neg yy]; exact m_cR_r
  rw [if_neg y9]
  by_cases y10 : q_pr V r 0 = 20
  · rw [if_pos y10]; exact m_cR_r
  rw [if_neg y10]
  exact m_acM_R
theorem m_tkM_R {rl : Int} : m_cR V (m_tkM V rl) := by
  unfold m_tkM
  simp only []
  refine m_cR_up ?_ (by omega)
  split
  · exact m_pc_R
  · have h2 : m_cR V (m_tkB (m_pc V) (m_tkR V rl)) := m_cR_t m_pc_R (by unfold m_tkB; exact m_cR_up m_cR_r (by omega))
    have h3 := m_cR_t h2 (m_doM_R (r := m_tkR V rl))
    unfold m_tkC
    split
    · exact m_cR_t h3 m_fa_R
    split
    · exact m_cR_up h3 (by omega)
    · exact h3
end re31
