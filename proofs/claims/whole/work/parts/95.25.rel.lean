section re25
variable {A B C V W A' V' : mj_M} {e e' : Nat}
theorem q_meet_1 {t : Int} : q_meet A t = 1 ↔ (0 ≤ t ∧ t < 40 ∧ (A 14 t.toNat = 2 ∨ A 14 t.toNat = 3)) := by
  unfold q_meet
  by_cases c : 0 ≤ t ∧ t < 40 ∧ (A 14 t.toNat = 2 ∨ A 14 t.toNat = 3)
  · rw [if_pos c]; exact ⟨fun _ => c, fun _ => rfl⟩
  · rw [if_neg c]; exact ⟨fun q => by omega, fun q => absurd q c⟩
theorem q_og_1 {t r : Int} : q_og A t r = 1 ↔ (q_fits A t r = 1 ∧ 0 ≤ A 4 t.toNat ∧ A 4 t.toNat < 40 ∧ (A 14 (A 4 t.toNat).toNat = 2 ∨ A 14 (A 4 t.toNat).toNat = 3)) := by
  have g := q_meet_1 (A := A) (t := A 4 t.toNat)
  unfold q_og
  by_cases c : q_fits A t r = 1 ∧ q_meet A (A 4 t.toNat) = 1
  · rw [if_pos c]; exact ⟨fun _ => ⟨c.1, g.mp c.2⟩, fun _ => rfl⟩
  · rw [if_neg c]; exact ⟨fun q => by omega, fun q => absurd ⟨q.1, g.mpr q.2⟩ c⟩
theorem z_fg (hS : z_SW e A V) {b s r : Int} (h : 0 ≤ b ∧ b < 40) (h14 : A 14 b.toNat = 1) : m_fg V b s r = if q_og A (q_ta A b s) r = 1 then q_ta A b s else -1 := by
  have hft := z_ft hS (s := s) (r := r) h h14
  have th := z_ta_th hS.1.1 hS.2.2.1 (b := b) (s := s)
  unfold m_fg
  rw [hft]
  generalize q_ta A b s = T at *
  have zz : ∀ P : Prop, ¬ ((-1 : Int) ≠ -1 ∧ P) := fun P q => q.1 rfl
  by_cases c : q_fits A T r = 1 ∧ A 4 T.toNat ≠ -1
  · rw [if_pos c]
    have nT := q_fits_ne c.1
    have hT : 0 ≤ T ∧ T < 120 ∧ A 3 T.toNat ≠ -1 := by rcases th with q | q; exact absurd q nT; exact q
    obtain ⟨t4, t5, t6, t7, t8, -⟩ := z_thf hS hT c.2
    rw [t4, t8]
    by_cases g : q_og A T r = 1
    · have g2 := q_og_1.mp g
      rw [if_pos g, if_pos ⟨nT, g2.2.2.2⟩]
    · rw [if_neg g, if_neg (fun q => g (q_og_1.mpr ⟨c.1, t5, t6, q.2⟩))]
  · rw [if_neg c, if_neg (zz _), if_neg]
    intro q
    have g := q_og_1.mp q
    exact c ⟨g.1, by omega⟩
/-- a runner that is ready -/
theorem z_rdy {r : Nat} (hS : z_SW e A V) (hr : (r : Int) < A 22 13) (h24 : A 24 r = 0) : r < 8 ∧ A 29 r = -1 ∧ A 28 r = -1 ∧ (0 ≤ A 23 r ∧ A 23 r < 40) ∧ A 14 (A 23 r).toNat = 1 := by
  have hsz := q_w22_13 hS.1.1
  have hQ := hS.2.2.2.2.2.2.2.2.2.2.1.2.2.1 r hr
  have hQH := hS.2.2.2.2.2.2.2.2.2.2.2.1 r hr
  have h23 := q_w23 (i := r) hS.1.1 (by omega)
  refine ⟨by omega, ?_, ?_, h23, hQH.1 (by omega)⟩
  · by_cases q : A 29 r = -1
    · exact q
    · have := hQ.2.2.1 q; omega
  · by_cases q : A 28 r = -1
    · exact q
    · have := hQ.2.1.mp q; omega
theorem z_SW_clA {r : Nat} {b c : Int} (hS : z_SW e A V) (h24 : A 24 r = 0) : z_SW e A (m_clA V r b c) := by
  have hRR := hS.2.2.2.2.2.2.2.2.2.2.1
  have hG := hS.2.2.2.2.2.2.2.2.2.2.2.2.2.1
  have o : ∀ a, a ≠ 32 → a ≠ 33 → m_clA V r b c a = V a := fun a h1 h2 => m_clA_o ⟨h1, h2⟩
  refine z_SW_rn hS hS.1.1 (m_clA_w hS.2.2.2.2.2.2.1.1) (fun _ _ _ => rfl) (fun a h1 h2 h3 => o a (by omega) (by omega)) (fun j _ _ => ⟨rfl, by rw [o 1 (by omega) (by omega)]⟩) (by rw [o 1 (by omega) (by omega)]; exact ⟨hG.2.2.2.2.1, hG.2.2.2.2.2.1⟩) (by rw [o 201 (by omega) (by omega)]) ?_ hS.2.2.2.2.2.2.2.2.2.2.2.1
  obtain ⟨hR, hR2, hQ, hO, w⟩ := hRR
  refine ⟨⟨by rw [o 22 (by omega) (by omega)]; exact hR.1, ?_⟩, ?_, hQ, ?_, w⟩
  · intro k hk
    rw [o 23 (by omega) (by omega), o 24 (by omega) (by omega), o 25 (by omega) (by omega), o 26 (by omega) (by omega), o 27 (by omega) (by omega), o 28 (by omega) (by omega), o 29 (by omega) (by omega), o 30 (by omega) (by omega), o 31 (by omega) (by omega)]
    exact hR.2 k hk
  · intro k hk
    obtain ⟨r1, r2, r3⟩ := hR2 k hk
    rw [o 35 (by omega) (by omega)]
    have e32 : m_clA V r b c 32 k = if k = r then b else V 32 k := by unfold m_clA; rw [mj_up_ne (by omega), mj_up_at, Int.toNat_natCast]
    have e33 : m_clA V r b c 33 k = if k = r then c else V 33 k := by unfold m_clA; rw [mj_up_at, mj_up_ne (by omega), Int.toNat_natCast]
    rw [e32, e33]
    by_cases g : k = r
    · subst g
      exact ⟨fun q => by omega, fun q => by omega, r3⟩
    · rw [if_neg g, if_neg g]; exact ⟨r1, r2, r3⟩
  · unfold z_O at hO ⊢
    rw [o 34 (by omega) (by omega), o 201 (by omega) (by omega)]
    exact hO
/-- a token is handed over at a meeting -/
theorem z_tak (h : z_Rl 8 A V) {x z : Nat} {s p : Int} (hx : (x : Int) < A 22 13) (hz : (z : Int) < A 22 13) (hx4 : A 24 x ≠ 4) (hz4 : A 24 z ≠ 4) (hp : V 32 x = p) :
    (p = -1 → m_tak V x z s = 1) ∧ (p ≠ -1 → q_lend A (q_ta A (A 23 x) p) (A 23 z) s = m_tak V x z s) ∧
    z_Rl 8 (if p = -1 then A else q_lendM A (q_ta A (A 23 x) p) 1 (-1) (A 23 z) s) (m_takL V x z s) ∧
    (∀ j, 12 < j → j ≠ 42 → (if p = -1 then A else q_lendM A (q_ta A (A 23 x) p) 1 (-1) (A 23 z) s) j = A j) ∧ (∀ j, 12 < j → j ≠ 42 → j ≠ 131 → j ≠ 212 → m_takL V x z s j = V j) ∧
    (if p = -1 then A else q_lendM A (q_ta A (A 23 x) p) 1 (-1) (A 23 z) s) 1 = A 1 ∧ m_takL V x z s 1 = V 1 ∧ (∀ t : Nat, A 3 t ≠ -1 → (if p = -1 then A else q_lendM A (q_ta A (A 23 x) p) 1 (-1) (A 23 z) s) 3 t = A 3 t ∧ (if p = -1 then A else q_lendM A (q_ta A (A 23 x) p) 1 (-1) (A 23 z) s) 4 t = A 4 t) := by
  have hS := h.1
  have hsz := q_w22_13 hS.1.1
  have hR := hS.2.2.2.2.2.2.2.2.2.2.1.1.2
  have hQH := hS.2.2.2.2.2.2.2.2.2.2.2.1
  have ex : V 23 x = A 23 x := (hR x (by omega)).1
  have ez : V 23 z = A 23 z := (hR z (by omega)).1
  have wx := q_w23 (i := x) hS.1.1 (by omega)
  have wz := q_w23 (i := z) hS.1.1 (by omega)
  unfold m_tak m_takL
  simp only [Int.toNat_natCast]
  rw [hp, ex, ez]
  by_cases c : p = -1
  · simp only [if_pos c]
    exact ⟨fun _ => trivial, fun q => absurd c q, h, fun _ _ _ => trivial, fun _ _ _ _ _ => trivial, trivial, trivial, fun _ _ => ⟨trivial, trivial⟩⟩
  · simp only [if_neg c]
    obtain ⟨l1, l2, l3, l4, l5, l6, l7⟩ := z_lend h (a := p) (s := s) (k := 1) (mask := -1) (r := 31) wx ((hQH x hx).1 hx4) wz ((hQH z hz).1 hz4) (by omega) (fun x hx => by rw [(mj_and_31 hx).1, (mj_and_31 hx).2.1])
    exact ⟨fun q => absurd q c, fun _ => l1, l2, l3, l4, l5, l6, l7⟩
theorem q_goes_cg {a : Nat} {r s g b c n : Int} (h : B a = A a) : q_goes B r s g b c n a = q_goes A r s g b c n a := by
  unfold q_goes; exact mj_up_cg (mj_up_cg (mj_up_cg (mj_up_cg (mj_up_cg h))))
theorem q_goesA {r : Nat} {s g b c n : Int} : z_goA A (q_goes A r s g b c n) r s g b c n := by
  unfold q_goes
  simp only [Int.toNat_natCast]
  refine ⟨fun o h1 h2 h3 h4 h5 => by rw [mj_up_ne h5, mj_up_ne h4, mj_up_ne h3, mj_up_ne h2, mj_up_ne h1], fun k => ?_, fun k => ?_, fun k => ?_, fun k => ?_, fun k => ?_⟩
  · rw [mj_up_ne (by omega), mj_up_ne (by omega), mj_up_ne (by omega), mj_up_ne (by omega), mj_up_at]
  · rw [mj_up_ne (by omega), mj_up_ne (by omega), mj_up_ne (by omega), mj_up_at, mj_up_ne (by omega)]
  · rw [mj_up_ne (by omega), mj_up_ne (by omega), mj_up_at, mj_up_ne (by omega), mj_up_ne (by omega)]
  · rw [mj_up_ne (by omega), mj_up_at, mj_up_ne (by omega), mj_up_ne (by omega), mj_up_ne (by omega)]
  · rw [mj_up_at, mj_up_ne (by omega), mj_up_ne (by omega), mj_up_ne (by omega), mj_up_ne (by omega)]
theorem m_clFV {r : Nat} {g : Int} : (∀ o, o ≠ 24 → o ≠ 28 → o ≠ 34 → o ≠ 201 → m_clF V r g o = V o) ∧ (∀ k, m_clF V r g 24 k = if k = r then 2 else V 24 k) ∧ (∀ k, m_clF V r g 28 k = if k = r then g else V 28 k) ∧
    (∀ k, m_clF V r g 34 k = if k = r then mj_w (V 201 0 + 1) else V 34 k) ∧ (∀ k, m_clF V r g 201 k = if k = 0 then mj_w (V 201 0 + 1) else V 201 k) := by
  unfold m_clF
  simp only [Int.toNat_natCast]
  refine ⟨fun o h1 h2 h3 h4 => by rw [mj_up_ne h2, mj_up_ne h1, mj_up_ne h3, mj_up_ne h4], fun k => ?_, fun k => ?_, fun k => ?_, fun k => ?_⟩
  · rw [mj_up_ne (by omega), mj_up_at, mj_up_ne (by omega), mj_up_ne (by omega)]
  · rw [mj_up_at, mj_up_ne (by omega), mj_up_ne (by omega), mj_up_ne (by omega)]
  · rw [mj_up_ne (by omega), mj_up_ne (by omega), mj_up_at, mj_up_ne (by omega)]
  · rw [mj_up_ne (by omega), mj_up_ne (by omega), mj_up_ne (by omega), mj_up_at]
/-- who calls with nobody waiting -/
theorem z_goes2 {r : Nat} {g b c n : Int} (hS : z_SW 8 A V) (hr : (r : Int) < A 22 13) (h24 : A 24 r = 0) (hg : 0 ≤ g ∧ g < 40) (hg2 : A 14 g.toNat = 2 ∨ A 14 g.toNat = 3) (hb : V 32 r = b) (hc : V 33 r = c)
    (hn : ∀ q : Nat, (q : Int) < A 22 13 → A 24 q = 2 → A 34 q < n) (hC : -2147483648 ≤ V 201 0 ∧ V 201 0 < 2147483647) : z_SW 8 (q_goes A r 2 g b c n) (m_clF V r g) := by
  have hRR := hS.2.2.2.2.2.2.2.2.2.2.1
  have hQH := hS.2.2.2.2.2.2.2.2.2.2.2.1
  have hG := hS.2.2.2.2.2.2.2.2.2.2.2.2.2.1
  have eA := q_goesA (A := A) (r := r) (s := 2) (g := g) (b := b) (c := c) (n := n)
  obtain ⟨f0, f24, f28, f34, f201⟩ := m_clFV (V := V) (r := r) (g := g)
  have hw : mj_w (V 201 0 + 1) = V 201 0 + 1 := mj_w_id2 (by omega) (by omega)
  rw [hw] at f34 f201
  have eV : z_goV V (m_clF V r g) r 2 g b c := by
    refine ⟨fun o h1 h2 h3 h4 h5 h6 => f0 o h1 h2 h5 h6, f24, f28, fun k => ?_, fun k _ => by rw [f0 33 (by omega) (by omega) (by omega) (by omega)], fun _ => by rw [f0 33 (by omega) (by omega) (by omega) (by omega)]; exact hc, fun k hk => by rw [f34, if_neg hk]⟩
    rw [f0 32 (by omega) (by omega) (by omega) (by omega)]
    by_cases q : k = r
    · rw [if_pos q, q]; exact hb
    · rw [if_neg q]
  have w' : q_wr (q_goes A r 2 g b c n) := q_goes_w hS.1.1 (by omega)
  have RR := z_goes_rel hRR hr h24 (by omega) eA eV (Or.inr ⟨rfl, by rw [f34, if_pos rfl, f201, if_pos rfl], by rw [f201, if_pos rfl], hn⟩) w'
  have QH : z_QH (q_goes A r 2 g b c n) := by
    refine z_QH_s hQH (fun a ha => eA.1 a (by omega) (by omega) (by omega) (by omega) (by omega)) ?_ ?_
    · intro k hk
      rw [eA.2.1]
      by_cases q : k = r
      · intro _; rw [q]; omega
      · rw [if_neg q]; exact id
    · intro k hk
      rw [eA.2.2.1]
      by_cases q : k = r
      · rw [if_pos q]; exact fun _ => Or.inr hg2
      · rw [if_neg q]; exact fun _ => Or.inl rfl
  refine z_SW_rn hS w' (m_clF_ok hS.2.2.2.2.2.2.1 (by omega)).1 (fun a h1 h2 => eA.1 a (by omega) (by omega) (by omega) (by omega) (by omega)) (fun a h1 h2 h3 => f0 a (by omega) (by omega) (by omega) h3) (fun j _ _ => by rw [eA.1 1 (by omega) (by omega) (by omega) (by omega) (by omega), f0 1 (by omega) (by omega) (by omega) (by omega)]; exact ⟨rfl, rfl⟩) ?_ (by rw [f201, if_neg (by omega)]) RR QH
  rw [eA.1 1 (by omega) (by omega) (by omega) (by omega) (by omega), f0 1 (by omega) (by omega) (by omega) (by omega)]
  exact ⟨hG.2.2.2.2.1, hG.2.2.2.2.2.1⟩
theorem z_use8 (hS : z_SW 8 B W) (hF : z_F B) (hH : z_HT B 40) (h0 : B 130 2 = 0) {t : Int} (ht : 0 ≤ t ∧ t < 120) (h3 : B 3 t.toNat ≠ -1) : z_Rl 8 (q_sweep (q_use B t)) (m_use W t) := by
  obtain ⟨X, h1, h2, h3, h4, -⟩ := z_use_af (A := B) (V := W) hS hF hH h0 ht h3 (fun _ _ _ => rfl) (fun _ _ _ => rfl) rfl rfl
  rw [h1]
  exact z_fin8 h2 h3 h4
end re25
