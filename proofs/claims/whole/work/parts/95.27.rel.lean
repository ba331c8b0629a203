section re27
variable {A B C V W A' V' : mj_M} {e e' : Nat}
/-- since and order: those that call did so before now -/
def z_now (A : mj_M) : Prop := ∀ q : Nat, (q : Int) < A 22 13 → A 24 q = 2 → A 34 q < A 1 7
def z_30 (A : mj_M) : Prop := ∀ k : Nat, (k : Int) < A 22 13 → A 24 k = 1 → A 30 k = -1
theorem q_clG_1 {r : Nat} {a b : Int} : q_clG A r a b = 1 ↔ (q_og A (q_ta A (A 23 r) a) 2 = 1 ∧ (b = -1 ∨ q_ml A (q_ta A (A 23 r) b) = 1)) := by
  unfold q_clG
  simp only [Int.toNat_natCast]
  by_cases c : q_og A (q_ta A (A 23 r) a) 2 = 1 ∧ (b = -1 ∨ q_ml A (q_ta A (A 23 r) b) = 1)
  · rw [if_pos c]; exact ⟨fun _ => c, fun _ => rfl⟩
  · rw [if_neg c]; exact ⟨fun q => by omega, fun q => absurd q c⟩
theorem m_clG_1 {r : Nat} {a b c : Int} : m_clG V r a b c = 1 ↔ (m_fg V (V 23 r) a 2 ≠ -1 ∧ (-1 ≤ b ∧ b ≤ 9) ∧ (-1 ≤ c ∧ c ≤ 9) ∧ (b = -1 ∨ m_ft V (V 23 r) b 4 ≠ -1)) := by
  have hm : m_ml V (V 23 r) b = 1 ↔ (b = -1 ∨ m_ft V (V 23 r) b 4 ≠ -1) := by
    unfold m_ml
    by_cases g : b = -1 ∨ m_ft V (V 23 r) b 4 ≠ -1
    · rw [if_pos g]; exact ⟨fun _ => g, fun _ => rfl⟩
    · rw [if_neg g]; exact ⟨fun q => by omega, fun q => absurd q g⟩
  rw [← hm]
  unfold m_clG
  simp only [Int.toNat_natCast]
  by_cases g : m_fg V (V 23 r) a 2 ≠ -1 ∧ (-1 ≤ b ∧ b ≤ 9) ∧ (-1 ≤ c ∧ c ≤ 9) ∧ m_ml V (V 23 r) b = 1
  · rw [if_pos g]; exact ⟨fun _ => g, fun _ => rfl⟩
  · rw [if_neg g]; exact ⟨fun q => by omega, fun q => absurd q g⟩
theorem z_call {r : Nat} {a b c : Int} (h : z_Rl 8 A V) (hr : (r : Int) < A 22 13) (h24 : A 24 r = 0) (hn : z_now A) (h30 : z_30 A) (hC : -2147483648 ≤ V 201 0 ∧ V 201 0 < 2147483647) (hb : -1 ≤ b ∧ b ≤ 9) (hc : -1 ≤ c ∧ c ≤ 9) :
    (q_cl A r a b = 1 → m_clY V r a b c = 2 ∧ z_Rl 8 (q_sweep (q_clM A r a b c)) (m_clM V r a b c)) ∧ (q_cl A r a b ≠ 1 → m_clY V r a b c = 1 ∧ q_clM A r a b c = A ∧ z_Rl 8 A (m_clM V r a b c)) := by
  have hS := h.1
  have hRR := hS.2.2.2.2.2.2.2.2.2.2.1
  have hsz := q_w22_13 hS.1.1
  obtain ⟨hr8, hr29, hr28, hy, hy14⟩ := z_rdy hS hr h24
  have e23 : V 23 r = A 23 r := (hRR.1.2 r hr8).1
  have hfg := z_fg hS (s := a) (r := 2) hy hy14
  have hml := z_ml hS (a := b) hy hy14
  have S5 := z_SW_clA (r := r) (b := b) (c := c) hS h24
  have R5 : z_Rl 8 A (m_clA V r b c) := ⟨S5, h.2.1, h.2.2.1, h.2.2.2⟩
  have RR5 := S5.2.2.2.2.2.2.2.2.2.2.1
  have x32 : ∀ k, m_clA V r b c 32 k = if k = r then b else V 32 k := fun k => by unfold m_clA; rw [mj_up_ne (by omega), mj_up_at, Int.toNat_natCast]
  have x33 : ∀ k, m_clA V r b c 33 k = if k = r then c else V 33 k := fun k => by unfold m_clA; rw [mj_up_at, mj_up_ne (by omega), Int.toNat_natCast]
  have x0 : ∀ o, o ≠ 32 → o ≠ 33 → m_clA V r b c o = V o := fun o h1 h2 => m_clA_o ⟨h1, h2⟩
  -- the guards
  have hgd : m_clG V r a b c = 1 ↔ q_clG A r a b = 1 := by
    rw [q_clG_1, m_clG_1, e23, hfg, hml]
    have i1 : (if q_og A (q_ta A (A 23 r) a) 2 = 1 then q_ta A (A 23 r) a else -1) ≠ -1 ↔ q_og A (q_ta A (A 23 r) a) 2 = 1 := by
      by_cases g : q_og A (q_ta A (A 23 r) a) 2 = 1
      · rw [if_pos g]; exact ⟨fun _ => g, fun _ => q_fits_ne (q_og_1.mp g).1⟩
      · rw [if_neg g]; exact ⟨fun q => absurd rfl q, fun q => absurd q g⟩
    have i2 : (if q_ml A (q_ta A (A 23 r) b) = 1 then q_ta A (A 23 r) b else -1) ≠ -1 ↔ q_ml A (q_ta A (A 23 r) b) = 1 := by
      by_cases g : q_ml A (q_ta A (A 23 r) b) = 1
      · rw [if_pos g]; exact ⟨fun _ => g, fun _ => (z_ml_in g).1⟩
      · rw [if_neg g]; exact ⟨fun q => absurd rfl q, fun q => absurd q g⟩
    rw [i1, i2]
    exact ⟨fun q => ⟨q.1, q.2.2.2⟩, fun q => ⟨q.1, hb, hc, q.2⟩⟩
  unfold m_clY m_clM q_clM q_cl
  by_cases g0 : q_clG A r a b = 1
  · have g1 := hgd.mpr g0
    have gg := q_clG_1.mp g0
    have gog := q_og_1.mp gg.1
    rw [if_pos gg.1] at hfg
    have nT := q_fits_ne gog.1
    have tha := z_ta_th hS.1.1 hS.2.2.1 (b := A 23 r) (s := a)
    have hT : 0 ≤ q_ta A (A 23 r) a ∧ q_ta A (A 23 r) a < 120 ∧ A 3 (q_ta A (A 23 r) a).toNat ≠ -1 := by rcases tha with q | q; exact absurd q nT; exact q
    have t4 := (z_thf hS hT (by omega)).1
    unfold m_clE m_clB q_clS q_clL q_clLM
    simp only [Int.toNat_natCast, if_pos g0, g1, true_and, if_true, e23, hfg, t4]
    generalize q_ta A (A 23 r) a = T at *
    have hlw : q_leastW (m_clA V r b c) (A 4 T.toNat) = q_leastW A (A 4 T.toNat) := z_leastW RR5
    rw [hlw]
    by_cases g2 : q_leastW A (A 4 T.toNat) = -1
    · simp only [g2, if_true, true_or]
      refine ⟨fun _ => ⟨trivial, ?_⟩, fun q => absurd rfl q⟩
      have S6 := z_goes2 (r := r) (g := A 4 T.toNat) (b := b) (c := c) (n := A 1 7) S5 hr h24 ⟨gog.2.1, gog.2.2.1⟩ gog.2.2.2 (by rw [x32, if_pos rfl]) (by rw [x33, if_pos rfl]) hn (by rw [x0 201 (by omega) (by omega)]; exact hC)
      have gA := q_goesA (A := A) (r := r) (s := 2) (g := A 4 T.toNat) (b := b) (c := c) (n := A 1 7)
      exact z_use8 S6 (z_F_c h.2.1 (gA.1 130 (by omega) (by omega) (by omega) (by omega) (by omega)) (gA.1 131 (by omega) (by omega) (by omega) (by omega) (by omega))) (z_HT_c h.2.2.1 (gA.1 14 (by omega) (by omega) (by omega) (by omega) (by omega)) (gA.1 3 (by omega) (by omega) (by omega) (by omega) (by omega)) (gA.1 4 (by omega) (by omega) (by omega) (by omega) (by omega)))
        (by rw [gA.1 130 (by omega) (by omega) (by omega) (by omega) (by omega)]; exact h.2.2.2) ⟨hT.1, hT.2.1⟩ (by rw [gA.1 3 (by omega) (by omega) (by omega) (by omega) (by omega)]; exact hT.2.2)
    · have hu := q_leastW_in (g := A 4 T.toNat) hS.1.1
      have hu : 0 ≤ q_leastW A (A 4 T.toNat) ∧ q_leastW A (A 4 T.toNat) < A 22 13 ∧ A 24 (q_leastW A (A 4 T.toNat)).toNat = 1 := by
        rcases hu with q | q
        · exact absurd q g2
        · exact ⟨q.1, q.2.1, q.2.2.1⟩
      generalize q_leastW A (A 4 T.toNat) = u at *
      obtain ⟨u, rfl⟩ : ∃ n : Nat, u = (n : Int) := ⟨u.toNat, by omega⟩
      simp only [Int.toNat_natCast] at hu ⊢
      have hne : u ≠ r := fun q => by rw [q] at hu; omega
      have e32 : m_clA V r b c 32 u = A 32 u := by
        rw [x32, if_neg hne]
        exact (hRR.2.1 u (by omega)).1 (Or.inl hu.2.2)
      simp only [e32]
      obtain ⟨k1, k2, k3, k4, k5, k6, k7, k8⟩ := z_tak R5 (x := r) (z := u) (s := A 32 u) (p := b) hr hu.2.1 (by omega) (by omega) (by rw [x32, if_pos rfl])
      have heq : (if b = -1 then 1 else q_lend A (q_ta A (A 23 r) b) (A 23 u) (A 32 u)) = m_tak (m_clA V r b c) r u (A 32 u) := by
        by_cases g : b = -1
        · rw [if_pos g, k1 g]
        · rw [if_neg g, k2 g]
      simp only [g2, if_false, heq, false_or]
      unfold m_takM
      by_cases g3 : m_tak (m_clA V r b c) r u (A 32 u) = 1
      · simp only [g3, if_true]
        refine ⟨fun _ => ⟨trivial, ?_⟩, fun q => absurd rfl q⟩
        generalize (if b = -1 then A else q_lendM A (q_ta A (A 23 r) b) 1 (-1) (A 23 u) (A 32 u)) = A2 at *
        generalize m_takL (m_clA V r b c) r u (A 32 u) = V2 at *
        have S6 := z_goes2s (r := r) (u := u) (g := A 4 T.toNat) (b := b) (c := c) (n := A 1 7) k3.1 (by rw [k4 22 (by omega) (by omega)]; exact hr) (by rw [k4 24 (by omega) (by omega)]; exact h24) (by rw [k4 22 (by omega) (by omega)]; exact hu.2.1) (by rw [k4 24 (by omega) (by omega)]; exact hu.2.2) (by rw [k4 30 (by omega) (by omega)]; exact h30 u hu.2.1 hu.2.2)
          ⟨gog.2.1, gog.2.2.1⟩ (by rw [k4 14 (by omega) (by omega)]; exact gog.2.2.2) (by rw [k5 32 (by omega) (by omega) (by omega) (by omega), x32, if_pos rfl]) (by rw [k5 33 (by omega) (by omega) (by omega) (by omega), x33, if_pos rfl]) (by rw [k4 22 (by omega) (by omega), k4 24 (by omega) (by omega), k4 34 (by omega) (by omega)]; exact hn) (by rw [k5 201 (by omega) (by omega) (by omega) (by omega), x0 201 (by omega) (by omega)]; exact hC)
        have gA := q_goesA (A := q_serve A2 u r) (r := r) (s := 2) (g := A 4 T.toNat) (b := b) (c := c) (n := A 1 7)
        have gs : ∀ o, o < 24 ∨ 34 < o → q_goes (q_serve A2 u r) r 2 (A 4 T.toNat) b c (A 1 7) o = A2 o := fun o ho => by rw [gA.1 o (by omega) (by omega) (by omega) (by omega) (by omega)]; exact q_serve_o (by omega)
        exact z_use8 S6 (z_F_c k3.2.1 (gs 130 (by omega)) (gs 131 (by omega))) (z_HT_c k3.2.2.1 (gs 14 (by omega)) (gs 3 (by omega)) (gs 4 (by omega)))
          (by rw [gs 130 (by omega)]; exact k3.2.2.2) ⟨hT.1, hT.2.1⟩ (by rw [gs 3 (by omega), (k8 _ hT.2.2).1]; exact hT.2.2)
      · simp only [g3, if_false]
        exact ⟨fun q => absurd q (by simp), fun _ => ⟨trivial, trivial, R5⟩⟩
  · have g1 : m_clG V r a b c ≠ 1 := fun q => g0 (hgd.mp q)
    rw [if_neg g0]
    exact ⟨fun q => by omega, fun _ => ⟨if_neg (fun q => g1 q.1), by simp, by rw [if_neg g1]; exact h⟩⟩
end re27
