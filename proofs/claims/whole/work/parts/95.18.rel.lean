section re18
variable {A B C V W A' V' : mj_M} {e : Nat}
theorem z_tt (h : z_SW e A V) : m_tt V := by
  intro i hi q
  have h42 := h.2.2.2.2.1 i hi
  rw [h42] at q ⊢
  have hw := q_w42 (i := i) h.1.1 hi
  have := h.2.2.1.2 i hi q
  have hT := h.2.1 (A 42 i).toNat (by omega)
  omega
theorem q_room_1 {t n : Int} : q_room A t n = 1 ↔ (q_fits A t 16 = 1 ∧ A 4 t.toNat = -1 ∧ n ≤ A 6 t.toNat) := by
  unfold q_room
  by_cases c : q_fits A t 16 = 1 ∧ A 4 t.toNat = -1 ∧ n ≤ A 6 t.toNat
  · rw [if_pos c]; exact ⟨fun _ => c, fun _ => rfl⟩
  · rw [if_neg c]; exact ⟨fun q => by omega, fun q => absurd q c⟩
theorem mj_w_rng {v : Int} (h : mj_w v = v) : -2147483648 ≤ v ∧ v < 2147483648 := by
  have := mj_w_in v; rw [h] at this; exact this
/-- the token to be put takes the number that both sides give -/
theorem z_ffeq (hS : z_SW e A V) {b s : Int} (hc : q_can A b s = 1) : q_ff A 3 120 0 = m_ftk V 120 0 ∧ 0 ≤ q_ff A 3 120 0 ∧ q_ff A 3 120 0 < 120 ∧ A 3 (q_ff A 3 120 0).toNat = -1 := by
  have hff := z_ff3 hS.2.1 120 0 rfl
  simp only [Int.natCast_zero] at hff
  have h1 := q_ff_in (M := A) (a := 3) 120 0 (by omega)
  have h2 : q_ff A 3 120 0 ≠ -1 := by
    unfold q_can at hc
    split at hc
    · rename_i g; exact g.1
    · omega
  refine ⟨by omega, by omega, by omega, ?_⟩
  rcases h1 with q | q
  · exact absurd q h2
  · exact q.2.2
/-- after a token was put, rooms and the like may still change -/
theorem z_put_tok (hS : z_SW e A V) {k th r n l b s la : Int} {T : Int} (hc : q_can A b s = 1) (hp : z_SW e (q_put A k th r l b s la) (m_put V k th r 0 l b s la)) (hT : 0 ≤ T ∧ T < 120 ∧ A 3 T.toNat ≠ -1) {u : Int}
    (hu : mj_w u = u) (hn : mj_w n = n) (wA : q_wr A') (wV : q_wr (m_put (mj_up V 6 T.toNat u) k th r n l b s la)) (oA : ∀ a, a ≠ 6 → A' a = q_put A k th r l b s la a)
    (o6 : ∀ j, A' 6 j = if j = (q_ff A 3 120 0).toNat then n else if j = T.toNat then u else A 6 j) : z_SW e A' (m_put (mj_up V 6 T.toNat u) k th r n l b s la) := by
  obtain ⟨f1, f2, f3, f4⟩ := z_ffeq hS hc
  have hm : m_ftk (mj_up V 6 T.toNat u) 120 0 = m_ftk V 120 0 := m_ftk_o (mj_up_ne (by omega)) 120 0
  have v6 : ∀ j, m_put (mj_up V 6 T.toNat u) k th r n l b s la 6 j = if j = (q_ff A 3 120 0).toNat then n else if j = T.toNat then u else V 6 j := fun j => by
    rw [(z_putV (V := mj_up V 6 T.toNat u) (k := k) (th := th) (r := r) (ro := n) (l := l) (b := b) (s := s) (la := la)).2.2.2.2.1 j, hm, ← f1, mj_up_at]
  refine z_SW_tok hp wA wV (fun a h1 _ _ _ => oA a h1) (fun a h1 _ _ _ => m_put_6 a h1) ?_
  intro t ht h3
  have hPt := hp.2.1 t ht
  have hPR := hp.2.2.2.2.2.2.2.2.2.2.2.2.2.2.2.2.1 t ht h3
  have gg : m_put V k th r 0 l b s la 10 t = q_put A k th r l b s la 10 t ∧ m_put V k th r 0 l b s la 11 t = q_put A k th r l b s la 11 t ∧ m_put V k th r 0 l b s la 12 t = q_put A k th r l b s la 12 t := by omega
  rw [oA 10 (by omega), oA 11 (by omega), oA 12 (by omega), m_put_6 10 (by omega), m_put_6 11 (by omega), m_put_6 12 (by omega), v6, o6]
  rw [(z_putA (A := A) (k := k) (th := th) (r := r) (l := l) (b := b) (s := s) (la := la)).2.1 t] at h3
  have hTt := hS.2.1 t ht
  refine ⟨?_, gg.1, gg.2.1, gg.2.2, ?_, hPR.2.2⟩
  · by_cases c1 : t = (q_ff A 3 120 0).toNat
    · rw [if_pos c1, if_pos c1]
    · rw [if_neg c1] at h3
      rw [if_neg c1, if_neg c1]
      by_cases c2 : t = T.toNat
      · rw [if_pos c2, if_pos c2]
      · rw [if_neg c2, if_neg c2]; omega
  · by_cases c1 : t = (q_ff A 3 120 0).toNat
    · rw [if_pos c1]; exact hn
    · rw [if_neg c1] at h3
      rw [if_neg c1]
      by_cases c2 : t = T.toNat
      · rw [if_pos c2]; exact hu
      · rw [if_neg c2]; exact hS.2.2.2.1.1 t ht h3
theorem z_split (h : z_Rl e A V) {y a n s : Int} (hb : 0 ≤ y ∧ y < 40) (h14 : A 14 y.toNat = 1) : z_act e A V (q_split A (q_ta A y a) n y s) (m_sp V y a n s) (q_splitM A (q_ta A y a) n y s) (m_spM V y a n s) := by
  obtain ⟨hS, hF, hH, h0⟩ := h
  have hok := m_sp_ok (a := a) (n := n) (c := s) hS.2.2.2.2.2.2.1 (z_tt hS) hb
  have hfi := z_fi hS (s := a) (r := 16) hb h14
  have hcan := z_can hS (s := s) hb h14
  have tha := z_ta_th hS.1.1 hS.2.2.1 (b := y) (s := a)
  unfold m_spM at hok
  unfold q_splitM m_spM
  have hdef : m_sp V y a n s = if m_fi V y a 16 ≠ -1 ∧ V 4 (m_fi V y a 16).toNat = -1 ∧ 1 ≤ n ∧ n ≤ V 6 (m_fi V y a 16).toNat ∧ m_em V y s = 1 ∧ m_ftk V 120 0 ≠ 120 then 1 else 0 := rfl
  generalize q_ta A y a = T at *
  have heq : q_split A T n y s = m_sp V y a n s := by
    rw [hdef, hfi]
    unfold q_split
    by_cases c1 : q_fits A T 16 = 1
    · rw [if_pos c1]
      have nT := q_fits_ne c1
      have hT : 0 ≤ T ∧ T < 120 ∧ A 3 T.toNat ≠ -1 := by rcases tha with q | q; exact absurd q nT; exact q
      have hTt := hS.2.1 T.toNat (by omega)
      have e4 : V 4 T.toNat = A 4 T.toNat := by omega
      have e6 : V 6 T.toNat = A 6 T.toNat := by omega
      rw [e4, e6]
      by_cases c : 1 ≤ n ∧ q_room A T n = 1 ∧ q_can A y s = 1
      · have g := q_room_1.mp c.2.1
        rw [if_pos c, if_pos ⟨nT, g.2.1, c.1, g.2.2, (hcan.mp c.2.2).1, (hcan.mp c.2.2).2⟩]
      · rw [if_neg c, if_neg (fun q => c ⟨q.2.2.1, q_room_1.mpr ⟨c1, q.2.1, q.2.2.2.1⟩, hcan.mpr ⟨q.2.2.2.2.1, q.2.2.2.2.2⟩⟩)]
    · rw [if_neg c1, if_neg (fun q => c1 (q_room_1.mp q.2.1).1), if_neg (fun q => q.1 rfl)]
  refine ⟨heq, ?_, ?_⟩
  · intro c
    rw [← heq, if_pos c] at hok
    rw [← heq, if_pos c, if_pos c]
    have hc : 1 ≤ n ∧ q_room A T n = 1 ∧ q_can A y s = 1 := by
      unfold q_split at c
      split at c
      · rename_i g; exact g
      · omega
    have hr := q_room_1.mp hc.2.1
    rw [if_pos hr.1] at hfi
    rw [hfi] at hok ⊢
    have nT := q_fits_ne hr.1
    have hT : 0 ≤ T ∧ T < 120 ∧ A 3 T.toNat ≠ -1 := by rcases tha with q | q; exact absurd q nT; exact q
    have hTt := hS.2.1 T.toNat (by omega)
    have hTR := hS.2.2.2.2.2.2.2.2.2.2.2.2.2.2.2.2.1 T.toNat (by omega) hT.2.2
    have e5 : V 5 T.toNat = A 5 T.toNat := by omega
    have e6 : V 6 T.toNat = A 6 T.toNat := by omega
    have e11 : V 11 T.toNat = A 11 T.toNat := by omega
    unfold m_spA at hok ⊢
    rw [e5, e6, e11] at hok ⊢
    obtain ⟨f1, f2, f3, f4⟩ := z_ffeq hS hc.2.2
    have hne : T.toNat ≠ (q_ff A 3 120 0).toNat := fun q => by rw [q] at hT; exact hT.2.2 f4
    have hp := z_put hS (k := 1) (th := -1) (r := A 5 T.toNat) (l := T) (b := y) (s := s) (la := A 11 T.toNat) hc.2.2 hb h14 (by omega) (Or.inl rfl) hTR.1 (fun q => absurd rfl q) (Or.inr hT)
    have x6 := (z_putA (A := A) (k := 1) (th := -1) (r := A 5 T.toNat) (l := T) (b := y) (s := s) (la := A 11 T.toNat)).2.2.2.2.1
    have x0 := (z_putA (A := A) (k := 1) (th := -1) (r := A 5 T.toNat) (l := T) (b := y) (s := s) (la := A 11 T.toNat)).1
    have y0 := (z_putV (V := mj_up V 6 T.toNat (mj_w (A 6 T.toNat - n))) (k := 1) (th := -1) (r := A 5 T.toNat) (ro := n) (l := T) (b := y) (s := s) (la := A 11 T.toNat)).1
    have hrT := mj_w_rng (hS.2.2.2.1.1 T.toNat (by omega) hT.2.2)
    have F1 := z_put_F (k := 1) (th := -1) (r := A 5 T.toNat) (l := T) (b := y) (s := s) (la := A 11 T.toNat) hF
    have H1 := z_put_HT (k := 1) (th := -1) (r := A 5 T.toNat) (l := T) (b := y) (s := s) (la := A 11 T.toNat) hH hc.2.2
    rw [x6 T.toNat, if_neg hne]
    generalize hP : q_put A 1 (-1) (A 5 T.toNat) T y s (A 11 T.toNat) = P at *
    have hSW := z_put_tok (A' := mj_up (mj_up P 6 T.toNat (mj_w (A 6 T.toNat - n))) 6 (q_ff A 3 120 0).toNat n) (u := mj_w (A 6 T.toNat - n)) (n := n) hS hc.2.2 (by rw [hP]; exact hp) hT mj_w_w (mj_w_id2 (by omega) (by omega)) (q_wr_up (q_wr_up hp.1.1 (by simp [q_okv])) (by simp [q_okv])) hok.1
      (fun a ha => by rw [mj_up_ne ha, mj_up_ne ha, hP]) (fun j => by
        rw [mj_up_at, mj_up_at]
        by_cases c1 : j = (q_ff A 3 120 0).toNat
        · rw [if_pos c1, if_pos c1]
        · rw [if_neg c1, if_neg c1, x6 j, if_neg c1])
    exact z_af_no hSW (z_F_c F1 (by rw [mj_up_ne (by omega), mj_up_ne (by omega)]) (by rw [mj_up_ne (by omega), mj_up_ne (by omega)])) (z_HT_c H1 (by rw [mj_up_ne (by omega), mj_up_ne (by omega)]) (by rw [mj_up_ne (by omega), mj_up_ne (by omega)]) (by rw [mj_up_ne (by omega), mj_up_ne (by omega)]))
      (by rw [mj_up_ne (by omega), mj_up_ne (by omega), x0 130 (by omega) (by omega)]; exact h0) (fun k k1 k2 => by rw [mj_up_ne (by omega), mj_up_ne (by omega), x0 k (by omega) (by omega)]) (fun k k1 k2 => by rw [y0 k (by omega) (by omega) (by omega) (by omega), mj_up_ne (by omega)])
      (by rw [mj_up_ne (by omega), mj_up_ne (by omega), x0 1 (by omega) (by omega)]) (by rw [y0 1 (by omega) (by omega) (by omega) (by omega), mj_up_ne (by omega)])
  · intro c
    rw [← heq, if_neg c, if_neg c]
    exact ⟨rfl, rfl⟩
theorem q_begA {t k o : Int} : (∀ a, (a < 14 ∨ 19 < a) → q_beg A t k o a = A a) ∧ (∀ j, q_beg A t k o 14 j = if j = t.toNat then k else A 14 j) ∧ (∀ j, q_beg A t k o 15 j = if j = t.toNat then o else A 15 j) ∧
    (∀ j, q_beg A t k o 16 j = if j = t.toNat then 0 else A 16 j) ∧ (∀ j, q_beg A t k o 17 j = if j = t.toNat then 0 else A 17 j) ∧ (∀ j, q_beg A t k o 18 j = if j = t.toNat then 0 else A 18 j) ∧ (∀ j, q_beg A t k o 19 j = if j = t.toNat then 0 else A 19 j) := by
  unfold q_beg
  refine ⟨?_, ?_, ?_, ?_, ?_, ?_, ?_⟩
  · intro a h; rw [mj_up_ne (by omega), mj_up_ne (by omega), mj_up_ne (by omega), mj_up_ne (by omega), mj_up_ne (by omega), mj_up_ne (by omega)]
  · intro j; rw [mj_up_ne (by omega), mj_up_ne (by omega), mj_up_ne (by omega), mj_up_ne (by omega), mj_up_ne (by omega), mj_up_at]
  · intro j; rw [mj_up_ne (by omega), mj_up_ne (by omega), mj_up_ne (by omega), mj_up_ne (by omega), mj_up_at, mj_up_ne (by omega)]
  · intro j; rw [mj_up_ne (by omega), mj_up_ne (by omega), mj_up_ne (by omega), mj_up_at, mj_up_ne (by omega), mj_up_ne (by omega)]
  · intro j; rw [mj_up_ne (by omega), mj_up_ne (by omega), mj_up_at, mj_up_ne (by omega), mj_up_ne (by omega), mj_up_ne (by omega)]
  · intro j; rw [mj_up_ne (by omega), mj_up_at, mj_up_ne (by omega), mj_up_ne (by omega), mj_up_ne (by omega), mj_up_ne (by omega)]
  · intro j; rw [mj_up_at, mj_up_ne (by omega), mj_up_ne (by omega), mj_up_ne (by omega), mj_up_ne (by omega), mj_up_ne (by omega)]
/-- a thing comes to be -/
theorem z_beg (h : z_SW e A V) (h0 : ∀ k : Nat, k < 120 → A 131 k = 0) {y k T : Int} (hy : 0 ≤ y ∧ y < 40) (hf : A 14 y.toNat = -1) (hk : 0 ≤ k ∧ k ≤ 5) (hT : T = -1 ∨ (0 ≤ T ∧ T < 120 ∧ A 3 T.toNat ≠ -1))
    (hB : -2147483648 ≤ V 201 1 ∧ V 201 1 < 2147483647) : z_SW e (q_beg A y k T) (m_mkt V y k T) := by
  obtain ⟨x0, x14, x15, x16, x17, x18, x19⟩ := q_begA (A := A) (t := y) (k := k) (o := T)
  obtain ⟨v0, v14, v15, v16, v17, v18, v19, v210, v211, v20, v42, v201⟩ := z_mkt (V := V) (k := k) (o := T) hy
  have hw : mj_w (V 201 1 + 1) = V 201 1 + 1 := mj_w_id2 (by omega) (by omega)
  rw [hw] at v201
  rw [hw] at v211
  obtain ⟨s1, s2, s3, s4, s5, s6, s7, s8, s9, s10, s11, s12, s13, s14, s15, s16, s17, s18⟩ := h
  have w' : q_wr (q_beg A y k T) := q_beg_w s1.1 hk (by omega)
  generalize q_beg A y k T = A1 at *
  have wV' : q_wr (m_mkt V y k T) := m_mkt_w s7.1 hk (by omega)
  generalize m_mkt V y k T = V1 at *
  have a : ∀ j, (j < 14 ∨ 19 < j) → A1 j = A j := x0
  have v : ∀ j, (j < 14 ∨ 21 < j) → j ≠ 42 → j < 201 → V1 j = V j := fun j h1 h2 h3 => v0 j (by omega) (by omega) (by omega) (by omega) h1
  refine ⟨z_pre_c s1 w' (a 3 (by omega)) (a 7 (by omega)) (a 131 (by omega)), ?_, z_tb_c s3 (a 3 (by omega)) (a 8 (by omega)) (a 9 (by omega)) (a 42 (by omega)), z_rm_c s4 (a 3 (by omega)) (a 6 (by omega)) (by rw [a 1 (by omega)]), ?_,
    z_Mk_c s6 (a 3 (by omega)) (a 131 (by omega)) (v 131 (by omega) (by omega) (by omega)), m_ok_same s7 wV' (v 7 (by omega) (by omega) (by omega)) (v0 212 (by omega) (by omega) (by omega) (by omega) (by omega)), ?_, ?_, ?_, ?_, ?_, ?_,
    z_G_c s14 (a 1 (by omega)) (a 43 (by omega)) (v 1 (by omega) (by omega) (by omega)) (v 43 (by omega) (by omega) (by omega)), ?_, ?_, z_TR_c s17 (a 3 (by omega)) (a 5 (by omega)) (a 4 (by omega)) (a 12 (by omega)), z_PR_c s18 (a 9001 (by omega))⟩
  · exact z_T_c s2 (a 3 (by omega)) (a 4 (by omega)) (a 5 (by omega)) (a 6 (by omega)) (a 7 (by omega)) (a 8 (by omega)) (a 9 (by omega)) (a 10 (by omega)) (a 11 (by omega)) (a 12 (by omega)) (v0 212 (by omega) (by omega) (by omega) (by omega) (by omega)) (v 3 (by omega) (by omega) (by omega)) (v 4 (by omega) (by omega) (by omega)) (v 5 (by omega) (by omega) (by omega)) (v 6 (by omega) (by omega) (by omega)) (v 7 (by omega) (by omega) (by omega)) (v 8 (by omega) (by omega) (by omega)) (v 9 (by omega) (by omega) (by omega)) (v 10 (by omega) (by omega) (by omega)) (v 11 (by omega) (by omega) (by omega)) (v 12 (by omega) (by omega) (by omega))
  · intro i hi
    rw [v42, a 42 (by omega)]
    by_cases c : 10 * y.toNat ≤ i ∧ i < 10 * y.toNat + 10
    · rw [if_pos c]
      by_cases g : A 42 i = -1
      · exact g.symm
      · exfalso
        have g42 := q_w42 (i := i) s1.1 hi
        have g1 := s3.2 i hi g
        have g2 := s16 (A 42 i).toNat (by omega) g1.1
        have g3 := h0 (A 42 i).toNat (by omega)
        have g8 := q_w8 (i := (A 42 i).toNat) s1.1 (by omega)
        have g9 := q_w9 (i := (A 42 i).toNat) s1.1 (by omega)
        have : (A 8 (A 42 i).toNat).toNat = y.toNat := by omega
        rw [this] at g2
        omega
    · rw [if_neg c]; exact s5 i hi
  · intro z hz
    have g := s8 z hz
    rw [x14, x15, x16, x17, x18, x19, v14, v15, v16, v17, v18, v19, v210]
    by_cases c : z = y.toNat
    · simp only [if_pos c]
      exact Or.inr ⟨by omega, by simp⟩
    · simp only [if_neg c]
      exact g
  · intro z hz
    have g := s9 z hz
    rw [x14, x15, x16, x17, x18, x19, a 3 (by omega)]
    by_cases c : z = y.toNat
    · rw [if_pos c, if_pos c, if_pos c, if_pos c, if_pos c, if_pos c]
      intro _
      refine ⟨fun _ => rfl, fun _ => ⟨rfl, rfl, rfl⟩, fun q => ?_⟩
      rcases hT with q2 | q2
      · exact absurd q2 q
      · exact q2.2.2
    · rw [if_neg c, if_neg c, if_neg c, if_neg c, if_neg c, if_neg c]; exact g
  · intro z hz
    have g := s10 z hz
    rw [x14, x17, x18, a 20 (by omega), a 21 (by omega)]
    by_cases c : z = y.toNat
    · rw [if_pos c, if_pos c, if_pos c]
      intro _
      exact ⟨fun j _ q => by omega, fun j _ q => by omega⟩
    · rw [if_neg c, if_neg c, if_neg c]
      intro q
      obtain ⟨g1, g2⟩ := g q
      refine ⟨fun j hj q => ?_, fun j hj q => ?_⟩
      · rw [v20 20 _ (by omega) (by omega)]; exact g1 j hj q
      · rw [v20 21 _ (by omega) (by omega)]; exact g2 j hj q
  · exact z_RR_o s11 w' (fun k h1 h2 => a k (by omega)) (fun k h1 h2 => v k (by omega) (by omega) (by omega)) (by rw [v201, if_neg (by omega)])
  · intro r hr
    rw [a 22 (by omega)] at hr
    have g := s12 r hr
    rw [a 24 (by omega), a 23 (by omega), a 28 (by omega), a 27 (by omega), x14, x14, x14]
    refine ⟨fun q => ?_, fun q => ?_, fun q => ?_⟩
    · have := g.1 q
      rw [if_neg]
      · exact this
      · intro g2; rw [g2] at this; omega
    · have := g.2.1 q
      rw [if_neg]
      · exact this
      · intro g2; rw [g2] at this; omega
    · have := g.2.2 q
      rw [if_neg]
      · exact this
      · intro g2; rw [g2] at this; omega
  · obtain ⟨g1, g2, g3⟩ := s13
    have hY : V 210 y.toNat = 0 := by
      have := s8 y.toNat (by omega)
      omega
    refine ⟨by rw [a 36 (by omega), v 36 (by omega) (by omega) (by omega)]; exact g1, ?_, ?_⟩
    · intro z hz
      rw [v210, v211, v201, if_pos rfl]
      by_cases c : z = y.toNat
      · rw [if_pos c, if_pos c]; omega
      · rw [if_neg c, if_neg c]
        intro q
        have := g2 z hz q
        omega
    · intro u hu
      rw [a 36 (by omega)] at hu
      obtain ⟨k1, k2, k3, k4, k5, k6, k7, k8, k9, k10⟩ := g3 u hu
      unfold z_al at k8 ⊢
      rw [a 37 (by omega), a 38 (by omega), a 39 (by omega), a 40 (by omega), a 41 (by omega), v 37 (by omega) (by omega) (by omega), v 38 (by omega) (by omega) (by omega), v 39 (by omega) (by omega) (by omega), v 40 (by omega) (by omega) (by omega), v0 214 (by omega) (by omega) (by omega) (by omega) (by omega), v0 215 (by omega) (by omega) (by omega) (by omega) (by omega), v201, if_pos rfl]
      refine ⟨k1, k2, k3, k4, k5, k6, k7, ?_, by omega, by omega⟩
      rw [k8, v210, v210, v211, v211]
      constructor
      · rintro ⟨q1, q2, q3, q4⟩
        have n1 : (V 38 u).toNat ≠ y.toNat := fun q => by rw [q] at q1; omega
        have n2 : (V 39 u).toNat ≠ y.toNat := fun q => by rw [q] at q2; omega
        rw [if_neg n1, if_neg n2, if_neg n1, if_neg n2]
        exact ⟨q1, q2, q3, q4⟩
      · intro q
        by_cases n1 : (V 38 u).toNat = y.toNat
        · rw [if_pos n1, if_pos n1] at q; omega
        · by_cases n2 : (V 39 u).toNat = y.toNat
          · rw [if_pos n2, if_pos n2] at q; omega
          · rw [if_neg n1, if_neg n2, if_neg n1, if_neg n2] at q; exact q
  · intro t ht
    rw [a 3 (by omega), a 4 (by omega), x14]
    intro q1 q2
    split
    · omega
    · exact s15 t ht q1 q2
  · intro t ht
    rw [a 3 (by omega), a 8 (by omega), a 131 (by omega), x14]
    intro q1
    rcases s16 t ht q1 with q | q
    · left
      rw [if_neg]
      · exact q
      · intro g2; rw [g2] at q; omega
    · exact Or.inr q
end re18
