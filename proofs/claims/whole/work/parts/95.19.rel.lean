section re19
variable {A B C V W A' V' : mj_M} {e : Nat}
theorem mj_up_cg {a b i : Nat} {v : Int} (h : B a = A a) : mj_up B b i v a = mj_up A b i v a := by
  by_cases c : a = b
  · subst c; funext j; rw [mj_up_at, mj_up_at, h]
  · rw [mj_up_ne c, mj_up_ne c, h]
theorem q_beg_cg {a : Nat} {t k o : Int} (h : B a = A a) : q_beg B t k o a = q_beg A t k o a := by
  unfold q_beg; exact mj_up_cg (mj_up_cg (mj_up_cg (mj_up_cg (mj_up_cg (mj_up_cg h)))))
theorem q_put_cg {a : Nat} {k th r l b s la : Int} (h : B a = A a) (h3 : B 3 = A 3) (hp : q_pl B b s = q_pl A b s) : q_put B k th r l b s la a = q_put A k th r l b s la a := by
  unfold q_put
  simp only [q_ff_o h3, hp]
  exact mj_up_cg (mj_up_cg (mj_up_cg (mj_up_cg (mj_up_cg (mj_up_cg (mj_up_cg (mj_up_cg (mj_up_cg (mj_up_cg (mj_up_cg h))))))))))
theorem q_pl_o {b s : Int} (h : B 14 b.toNat = A 14 b.toNat) : q_pl B b s = q_pl A b s := by unfold q_pl; rw [h]
theorem q_beg_put {k th r l b s la : Int} {t kk o : Int} (hne : b.toNat ≠ t.toNat) : q_beg (q_put A k th r l b s la) t kk o = q_put (q_beg A t kk o) k th r l b s la := by
  obtain ⟨x0, x14, -⟩ := q_begA (A := A) (t := t) (k := kk) (o := o)
  have hp : q_pl (q_beg A t kk o) b s = q_pl A b s := q_pl_o (by rw [x14, if_neg hne])
  funext a
  by_cases c : a < 14 ∨ 19 < a
  · rw [q_begA.1 a c]
    exact (q_put_cg (x0 a c) (x0 3 (by omega)) hp).symm
  · rw [z_putA.1 a (by omega) (by omega)]
    exact q_beg_cg (z_putA.1 a (by omega) (by omega))
theorem q_can_1 {b s : Int} : q_can A b s = 1 ↔ (q_ff A 3 120 0 ≠ -1 ∧ q_pl A b s ≠ -1 ∧ A 42 (q_pl A b s).toNat = -1) := by
  unfold q_can
  by_cases c : q_ff A 3 120 0 ≠ -1 ∧ q_pl A b s ≠ -1 ∧ A 42 (q_pl A b s).toNat = -1
  · rw [if_pos c]; exact ⟨fun _ => c, fun _ => rfl⟩
  · rw [if_neg c]; exact ⟨fun q => by omega, fun q => absurd q c⟩
theorem q_make_1 {t k b s : Int} : q_make A t k b s = 1 ↔ (0 ≤ k ∧ k ≤ 5 ∧ q_room A t (A 9001 k.toNat) = 1 ∧ q_ff A 14 40 0 ≠ -1 ∧ q_can A b s = 1) := by
  unfold q_make
  by_cases c : 0 ≤ k ∧ k ≤ 5 ∧ q_room A t (A 9001 k.toNat) = 1 ∧ q_ff A 14 40 0 ≠ -1 ∧ q_can A b s = 1
  · rw [if_pos c]; exact ⟨fun _ => c, fun _ => rfl⟩
  · rw [if_neg c]; exact ⟨fun q => by omega, fun q => absurd q c⟩
theorem z_make (h : z_Rl e A V) {y a k s : Int} (hb : 0 ≤ y ∧ y < 40) (h14 : A 14 y.toNat = 1) (hB : -2147483648 ≤ V 201 1 ∧ V 201 1 < 2147483647) : z_act e A V (q_make A (q_ta A y a) k y s) (m_mg V y a k s) (q_makeM A (q_ta A y a) k y s) (m_mgM V y a k s) := by
  obtain ⟨hS, hF, hH, h0⟩ := h
  have hok := m_mgM_ok (a := a) (k := k) (c := s) hS.2.2.2.2.2.2.1 hb
  have hfi := z_fi hS (s := a) (r := 16) hb h14
  have hcan := z_can hS (s := s) hb h14
  have tha := z_ta_th hS.1.1 hS.2.2.1 (b := y) (s := a)
  have hff := z_ff14 hS.2.2.2.2.2.2.2.1 40 0 rfl
  simp only [Int.natCast_zero] at hff
  unfold m_mgM at hok
  unfold q_makeM m_mgM
  have hdef : m_mg V y a k s = if m_fi V y a 16 ≠ -1 ∧ V 4 (m_fi V y a 16).toNat = -1 ∧ (0 ≤ k ∧ k ≤ 5) ∧ m_ro k ≤ V 6 (m_fi V y a 16).toNat ∧ m_em V y s = 1 ∧ m_ftk V 120 0 ≠ 120 ∧ m_fth V 40 0 ≠ 40 then 1 else 0 := rfl
  generalize q_ta A y a = T at *
  have hPR : 0 ≤ k ∧ k ≤ 5 → A 9001 k.toNat = m_ro k := fun q => by
    have := hS.2.2.2.2.2.2.2.2.2.2.2.2.2.2.2.2.2 k.toNat (by omega)
    rw [this, show ((k.toNat : Nat) : Int) = k by omega]
  have heq : q_make A T k y s = m_mg V y a k s := by
    rw [hdef, hfi]
    by_cases c1 : q_fits A T 16 = 1
    · rw [if_pos c1]
      have nT := q_fits_ne c1
      have hT : 0 ≤ T ∧ T < 120 ∧ A 3 T.toNat ≠ -1 := by rcases tha with q | q; exact absurd q nT; exact q
      have hTt := hS.2.1 T.toNat (by omega)
      have e4 : V 4 T.toNat = A 4 T.toNat := by omega
      have e6 : V 6 T.toNat = A 6 T.toNat := by omega
      rw [e4, e6]
      by_cases c : q_make A T k y s = 1
      · have g := q_make_1.mp c
        have g2 := q_room_1.mp g.2.2.1
        rw [c, if_pos ⟨nT, g2.2.1, ⟨g.1, g.2.1⟩, by rw [← hPR ⟨g.1, g.2.1⟩]; exact g2.2.2, (hcan.mp g.2.2.2.2).1, (hcan.mp g.2.2.2.2).2, by omega⟩]
      · rw [if_neg (fun q => c (q_make_1.mpr ⟨q.2.2.1.1, q.2.2.1.2, q_room_1.mpr ⟨c1, q.2.1, by rw [hPR q.2.2.1]; exact q.2.2.2.1⟩, by have := q.2.2.2.2.2.2; omega, hcan.mpr ⟨q.2.2.2.2.1, q.2.2.2.2.2.1⟩⟩))]
        unfold q_make at c ⊢
        split at c
        · omega
        · rename_i g; rw [if_neg g]
    · rw [if_neg c1, if_neg (fun q => q.1 rfl)]
      unfold q_make
      rw [if_neg (fun q => c1 (q_room_1.mp q.2.2.1).1)]
  refine ⟨heq, ?_, ?_⟩
  · intro c
    rw [← heq, if_pos c] at hok
    rw [← heq, if_pos c, if_pos c]
    obtain ⟨k1, k2, hr0, hy0, hc⟩ := q_make_1.mp c
    have hr := q_room_1.mp hr0
    rw [if_pos hr.1] at hfi
    rw [hfi] at hok ⊢
    have nT := q_fits_ne hr.1
    have hT : 0 ≤ T ∧ T < 120 ∧ A 3 T.toNat ≠ -1 := by rcases tha with q | q; exact absurd q nT; exact q
    have hTt := hS.2.1 T.toNat (by omega)
    have e6 : V 6 T.toNat = A 6 T.toNat := by omega
    obtain ⟨f1, f2, f3, f4⟩ := z_ffeq hS hc
    have hne : T.toNat ≠ (q_ff A 3 120 0).toNat := fun q => by rw [q] at hT; exact hT.2.2 f4
    have hYe : q_ff A 14 40 0 = m_fth V 40 0 ∧ 0 ≤ m_fth V 40 0 ∧ m_fth V 40 0 < 40 ∧ A 14 (m_fth V 40 0).toNat = -1 := by omega
    unfold m_mgB m_mgA at hok ⊢
    rw [z_mkt_cm (by omega), e6] at hok ⊢
    rw [hYe.1, hPR ⟨k1, k2⟩]
    generalize m_fth V 40 0 = Y at *
    obtain ⟨-, hY1, hY2, hY3⟩ := hYe
    have hyY : y.toNat ≠ Y.toNat := fun q => by rw [q] at h14; omega
    have hBg := z_beg hS (hF.2 h0) (y := Y) (k := k) (T := T) ⟨hY1, hY2⟩ hY3 ⟨k1, k2⟩ (Or.inr hT) hB
    rw [q_beg_put hyY]
    obtain ⟨x0, x14, -⟩ := q_begA (A := A) (t := Y) (k := k) (o := T)
    have hB14 : q_beg A Y k T 14 y.toNat = 1 := by rw [x14, if_neg hyY]; exact h14
    have hBY : q_beg A Y k T 14 Y.toNat = k := by rw [x14, if_pos rfl]
    have hB3 : q_beg A Y k T 3 = A 3 := x0 3 (by omega)
    have hB6 : q_beg A Y k T 6 = A 6 := x0 6 (by omega)
    have hffB : q_ff (q_beg A Y k T) 3 120 0 = q_ff A 3 120 0 := q_ff_o hB3 120 0
    have hcB : q_can (q_beg A Y k T) y s = 1 := by
      have g := q_can_1.mp hc
      apply q_can_1.mpr
      rw [hffB, q_pl_o (by rw [x14, if_neg hyY]), x0 42 (by omega)]
      exact g
    have xr : ∀ a, 22 ≤ a → q_beg A Y k T a = A a := fun a ha => x0 a (by omega)
    have x1 : q_beg A Y k T 1 = A 1 := x0 1 (by omega)
    have x4 : q_beg A Y k T 4 = A 4 := x0 4 (by omega)
    have x14' : ∀ z, z ≠ Y.toNat → q_beg A Y k T 14 z = A 14 z := fun z hz => by rw [x14, if_neg hz]
    have vr : ∀ a, 22 ≤ a → a ≤ 35 → m_mkt V Y k T a = V a := fun a h1 h2 => (z_mkt (V := V) (k := k) (o := T) ⟨hY1, hY2⟩).1 a (by omega) (by omega) (by omega) (by omega) (by omega)
    have v1 : m_mkt V Y k T 1 = V 1 := (z_mkt (V := V) (k := k) (o := T) ⟨hY1, hY2⟩).1 1 (by omega) (by omega) (by omega) (by omega) (by omega)
    generalize q_beg A Y k T = B at *
    generalize m_mkt V Y k T = W at *
    have hp := z_put hBg (k := 0) (th := Y) (r := 15) (l := -1) (b := y) (s := s) (la := -1) hcB hb hB14 (by omega) (Or.inr ⟨hY1, hY2, by omega⟩) (by omega) (fun _ => by omega) (Or.inl rfl)
    obtain ⟨p0, p3, p4, p5, p6, -⟩ := z_putA (A := B) (k := 0) (th := Y) (r := 15) (l := -1) (b := y) (s := s) (la := -1)
    have y0 := (z_putV (V := mj_up W 6 T.toNat (mj_w (A 6 T.toNat - m_ro k))) (k := 0) (th := Y) (r := 15) (ro := 0) (l := -1) (b := y) (s := s) (la := -1)).1
    have F1 : z_F B := z_F_c hF (xr 130 (by omega)) (xr 131 (by omega))
    have F2 := z_put_F (k := 0) (th := Y) (r := 15) (l := -1) (b := y) (s := s) (la := -1) F1
    rw [p6 T.toNat, hffB, if_neg hne, hB6]
    have hSW := z_put_tok (A' := mj_up (q_put B 0 Y 15 (-1) y s (-1)) 6 T.toNat (mj_w (A 6 T.toNat - m_ro k))) (u := mj_w (A 6 T.toNat - m_ro k)) (n := 0) hBg hcB hp (by rw [hB3]; exact hT) mj_w_w (mj_w_id2 (by omega) (by omega)) (q_wr_up hp.1.1 (by simp [q_okv])) hok.1
      (fun a ha => by rw [mj_up_ne ha]) (fun j => by
        rw [mj_up_at, p6]
        by_cases c1 : j = T.toNat
        · rw [if_pos c1, if_pos c1, if_neg (by rw [c1, hffB]; exact hne)]
        · rw [if_neg c1, if_neg c1])
    refine z_af_no hSW (z_F_c F2 (mj_up_ne (by omega)) (mj_up_ne (by omega))) ?_ (by rw [mj_up_ne (by omega), p0 130 (by omega) (by omega), xr 130 (by omega)]; exact h0) (fun k k1 k2 => by rw [mj_up_ne (by omega), p0 k (by omega) (by omega), xr k k1]) (fun k k1 k2 => by rw [y0 k (by omega) (by omega) (by omega) (by omega), mj_up_ne (by omega), vr k k1 k2])
      (by rw [mj_up_ne (by omega), p0 1 (by omega) (by omega), x1]) (by rw [y0 1 (by omega) (by omega) (by omega) (by omega), mj_up_ne (by omega), v1])
    intro z z1 z2
    rw [mj_up_ne (by omega), mj_up_ne (by omega), mj_up_ne (by omega), p0 14 (by omega) (by omega)]
    intro q
    by_cases g : z = Y.toNat
    · exact ⟨(q_ff B 3 120 0).toNat, by omega, by rw [p3, if_pos rfl]; omega, by rw [p4, if_pos rfl]; omega⟩
    · rw [x14' z g] at q
      obtain ⟨t, t1, t2, t3⟩ := hH z z1 z2 q
      have hne : t ≠ (q_ff B 3 120 0).toNat := fun q => by rw [q, hffB] at t2; exact t2 f4
      exact ⟨t, t1, by rw [p3, if_neg hne, hB3]; exact t2, by rw [p4, if_neg hne, x4]; exact t3⟩
  · intro c
    rw [← heq, if_neg c, if_neg c]
    exact ⟨rfl, rfl⟩
end re19
