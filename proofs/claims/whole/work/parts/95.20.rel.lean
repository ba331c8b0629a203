section re20
variable {A B C V W A' V' : mj_M} {e : Nat}
theorem co_mono {o : Int} : ∀ (n m : Nat) (u : Int), n ≤ m → q_co A o n u = 1 → q_co A o m u = 1 := by
  intro n
  induction n with
  | zero => intro m u h q; unfold q_co at q; omega
  | succ n ih =>
    intro m u h q
    obtain ⟨m, rfl⟩ : ∃ m', m = m' + 1 := ⟨m - 1, by omega⟩
    rw [q_co] at q ⊢
    by_cases c1 : u = -1
    · rw [if_pos c1] at q; omega
    · rw [if_neg c1] at q ⊢
      by_cases c2 : u = o
      · rw [if_pos c2]
      · rw [if_neg c2] at q ⊢
        exact ih m _ (by omega) q
theorem co_bd {ρ : Nat → Nat} {o : Int} (w : q_wr A) (hl : z_lt A) (ha : z_acy ρ A) : ∀ (n : Nat) (u : Int), z_tn A u → q_co A o n u = 1 → q_co A o (120 - ρ u.toNat) u = 1 := by
  intro n
  induction n with
  | zero => intro u h q; unfold q_co at q; omega
  | succ n ih =>
    intro u h q
    rw [q_co] at q
    by_cases c1 : u = -1
    · rw [if_pos c1] at q; omega
    rw [if_neg c1] at q
    have hu : 0 ≤ u ∧ u < 120 ∧ A 3 u.toNat ≠ -1 := by rcases h with g | g; exact absurd g c1; exact g
    have hρ := ha.1 u.toNat
    by_cases c2 : u = o
    · obtain ⟨m, hm⟩ : ∃ m, 120 - ρ u.toNat = m + 1 := ⟨120 - ρ u.toNat - 1, by omega⟩
      rw [hm, q_co, if_neg c1, if_pos c2]
    · rw [if_neg c2] at q
      have h7 := z_tn_up w hl hu
      have g := ih _ h7 q
      have n7 : A 7 u.toNat ≠ -1 := by
        intro g2
        rw [g2] at q
        cases n with
        | zero => unfold q_co at q; omega
        | succ n => rw [q_co, if_pos rfl] at q; omega
      have hr := ha.2 u.toNat (by omega) hu.2.2 n7
      obtain ⟨m, hm⟩ : ∃ m, 120 - ρ u.toNat = m + 1 := ⟨120 - ρ u.toNat - 1, by omega⟩
      rw [hm, q_co, if_neg c1, if_neg c2]
      exact co_mono _ _ _ (by omega) g
/-- a token is lent on from t -/
def z_D (A : mj_M) (t : Int) (j : Nat) : Prop := j < 120 ∧ A 3 j ≠ -1 ∧ ∃ n, q_co A t n (A 7 j) = 1
theorem z_D_120 (hp : z_pre A) {t : Int} {j : Nat} : z_D A t j ↔ (j < 120 ∧ A 3 j ≠ -1 ∧ q_co A t 120 (A 7 j) = 1) := by
  obtain ⟨w, hl, -, ρ, ha⟩ := hp
  constructor
  · rintro ⟨h1, h2, n, h3⟩
    have h7 := z_tn_up w hl (u := (j : Int)) ⟨by omega, by omega, by simpa using h2⟩
    simp only [Int.toNat_natCast] at h7
    exact ⟨h1, h2, co_mono _ _ _ (by omega) (co_bd w hl ha n _ h7 h3)⟩
  · rintro ⟨h1, h2, h3⟩
    exact ⟨h1, h2, 120, h3⟩
theorem co_tr {k t : Int} (hk : 0 ≤ k) (ht : 0 ≤ t) (h : A 7 k.toNat = t) : ∀ (n : Nat) (u : Int), q_co A k n u = 1 → q_co A t (n + 1) u = 1 := by
  intro n
  induction n with
  | zero => intro u q; unfold q_co at q; omega
  | succ n ih =>
    intro u q
    rw [q_co] at q ⊢
    by_cases c1 : u = -1
    · rw [if_pos c1] at q; omega
    rw [if_neg c1] at q ⊢
    by_cases c2 : u = t
    · rw [if_pos c2]
    · rw [if_neg c2]
      by_cases c3 : u = k
      · rw [c3, h, q_co, if_neg (by omega), if_pos rfl]
      · rw [if_neg c3] at q; exact ih _ q
theorem z_D_dn (hp : z_pre A) {t : Int} (ht : 0 ≤ t) : ∀ (n : Nat) (j : Nat), j < 120 → A 3 j ≠ -1 → q_co A t n (A 7 j) = 1 → ∃ k : Nat, k < 120 ∧ A 3 k ≠ -1 ∧ A 7 k = t ∧ (k = j ∨ z_D A (k : Int) j) := by
  obtain ⟨w, hl, -, ρ, ha⟩ := hp
  intro n
  induction n with
  | zero => intro j h1 h2 q; unfold q_co at q; omega
  | succ n ih =>
    intro j h1 h2 q
    rw [q_co] at q
    by_cases c1 : A 7 j = -1
    · rw [if_pos c1] at q; omega
    rw [if_neg c1] at q
    by_cases c2 : A 7 j = t
    · exact ⟨j, h1, h2, c2, Or.inl rfl⟩
    · rw [if_neg c2] at q
      have h7w := q_w7 (i := j) w h1
      have h73 := hl j h1 h2 c1
      obtain ⟨k, k1, k2, k3, k4⟩ := ih (A 7 j).toNat (by omega) h73 q
      refine ⟨k, k1, k2, k3, Or.inr ⟨h1, h2, ?_⟩⟩
      rcases k4 with g | ⟨g1, g2, m, g3⟩
      · exact ⟨1, by rw [q_co, if_neg c1, if_pos (by omega)]⟩
      · refine ⟨m + 1, ?_⟩
        rw [q_co, if_neg c1]
        by_cases c3 : A 7 j = (k : Int)
        · rw [if_pos c3]
        · rw [if_neg c3]; exact g3
theorem z_D_up {t : Int} {k j : Nat} (ht : 0 ≤ t) (hj : j < 120) (h3 : A 3 j ≠ -1) (h7 : A 7 k = t) (h : k = j ∨ z_D A (k : Int) j) : z_D A t j := by
  refine ⟨hj, h3, ?_⟩
  rcases h with g | ⟨_, _, n, g⟩
  · subst g
    exact ⟨1, by rw [q_co, if_neg (by omega), if_pos h7]⟩
  · exact ⟨n + 1, co_tr (by omega) ht (by simpa using h7) n _ g⟩
theorem q_for_12 {F : Nat → mj_M → mj_M} {E : Nat → Nat → Prop} {P : mj_M → Prop} (hP : ∀ k V, k < 120 → P V → P (F k V)) (hE : ∀ k V, k < 120 → P V → ∀ j, (E k j → F k V 12 j = 1) ∧ (¬ E k j → F k V 12 j = V 12 j)) :
    ∀ (n t : Nat) (V : mj_M), t + n = 120 → P V → ∀ j, ((∃ k, t ≤ k ∧ k < 120 ∧ E k j) → q_for F n t V 12 j = 1) ∧ ((∀ k, t ≤ k → k < 120 → ¬ E k j) → q_for F n t V 12 j = V 12 j) := by
  intro n
  induction n with
  | zero => intro t V h p j; exact ⟨fun ⟨k, k1, k2, _⟩ => by omega, fun _ => rfl⟩
  | succ n ih =>
    intro t V h p j
    rw [q_for]
    obtain ⟨i1, i2⟩ := ih (t + 1) (F t V) (by omega) (hP t V (by omega) p) j
    obtain ⟨e1, e2⟩ := hE t V (by omega) p j
    by_cases c : ∃ k, t + 1 ≤ k ∧ k < 120 ∧ E k j
    · refine ⟨fun _ => i1 c, fun q => ?_⟩
      obtain ⟨k, k1, k2, k3⟩ := c
      exact absurd k3 (q k (by omega) k2)
    · have c' : ∀ k, t + 1 ≤ k → k < 120 → ¬ E k j := fun k k1 k2 k3 => c ⟨k, k1, k2, k3⟩
      rw [i2 c']
      refine ⟨fun ⟨k, k1, k2, k3⟩ => ?_, fun q => e2 (q t (by omega) (by omega))⟩
      by_cases g : k = t
      · subst g; exact e1 k3
      · exact absurd k3 (c' k (by omega) k2)
theorem z_doom {ρ : Nat → Nat} (hp : z_pre A) (ha : z_acy ρ A) : ∀ (n : Nat) (t : Int) (V : mj_M), (∀ k : Nat, k < 120 → (V 212 k ≠ 0 ↔ A 3 k ≠ -1) ∧ (A 3 k ≠ -1 → V 7 k = A 7 k)) → 0 ≤ t ∧ t < 120 → ρ t.toNat < n →
    ∀ j, (z_D A t j → m_doom n t V 12 j = 1) ∧ (¬ z_D A t j → m_doom n t V 12 j = V 12 j) := by
  intro n
  induction n with
  | zero => intro t V _ _ h; omega
  | succ n ih =>
    intro t V hV ht hρ j
    unfold m_doom
    have Hl := q_for_12 (F := fun k V => if V 212 k ≠ 0 ∧ V 7 k = t then m_doom n (k : Int) (mj_up V 12 k 1) else V) (E := fun k j => A 3 k ≠ -1 ∧ A 7 k = t ∧ (k = j ∨ z_D A (k : Int) j))
      (P := fun V => ∀ k : Nat, k < 120 → (V 212 k ≠ 0 ↔ A 3 k ≠ -1) ∧ (A 3 k ≠ -1 → V 7 k = A 7 k))
      (fun k W hk hW => by
        show ∀ i : Nat, i < 120 → _
        split
        · rw [m_doom_o (by omega), m_doom_o (by omega), mj_up_ne (by omega), mj_up_ne (by omega)]; exact hW
        · exact hW)
      (fun k W hk hW j => by
        show (_ → (if W 212 k ≠ 0 ∧ W 7 k = t then m_doom n (k : Int) (mj_up W 12 k 1) else W) 12 j = 1) ∧ (_ → (if W 212 k ≠ 0 ∧ W 7 k = t then m_doom n (k : Int) (mj_up W 12 k 1) else W) 12 j = W 12 j)
        by_cases c : A 3 k ≠ -1 ∧ A 7 k = t
        · have hk7 : A 7 k ≠ -1 := by omega
          have hr := ha.2 k hk c.1 hk7
          rw [c.2] at hr
          have hih := ih (k : Int) (mj_up W 12 k 1) (by rw [mj_up_ne (by omega), mj_up_ne (by omega)]; exact hW) ⟨by omega, by omega⟩ (by simp only [Int.toNat_natCast]; omega) j
          rw [if_pos ⟨(hW k hk).1.mpr c.1, by rw [(hW k hk).2 c.1]; exact c.2⟩]
          constructor
          · rintro ⟨_, _, g⟩
            by_cases c2 : z_D A (k : Int) j
            · exact hih.1 c2
            · rw [hih.2 c2, mj_up_at]
              rcases g with g | g
              · rw [if_pos g.symm]
              · exact absurd g c2
          · intro g
            rw [hih.2 (fun q => g ⟨c.1, c.2, Or.inr q⟩), mj_up_at, if_neg (fun q => g ⟨c.1, c.2, Or.inl q.symm⟩)]
        · rw [if_neg (fun q => c ⟨(hW k hk).1.mp q.1, by rw [← (hW k hk).2 ((hW k hk).1.mp q.1)]; exact q.2⟩)]
          exact ⟨fun q => absurd ⟨q.1, q.2.1⟩ c, fun _ => rfl⟩)
      120 0 V rfl hV j
    constructor
    · rintro ⟨h1, h2, m, h3⟩
      obtain ⟨k, k1, k2, k3, k4⟩ := z_D_dn hp ht.1 m j h1 h2 h3
      exact Hl.1 ⟨k, by omega, k1, k2, k3, k4⟩
    · intro g
      apply Hl.2
      rintro k k1 k2 ⟨g1, g2, g3⟩
      apply g
      have hj : j < 120 ∧ A 3 j ≠ -1 := by
        rcases g3 with q | q
        · subst q; exact ⟨k2, g1⟩
        · exact ⟨q.1, q.2.1⟩
      exact z_D_up ht.1 hj.1 hj.2 g2 g3
theorem z_take (h : z_Rl e A V) {y a : Int} (hb : 0 ≤ y ∧ y < 40) (h14 : A 14 y.toNat = 1) : z_act e A V (q_take A (q_ta A y a)) (m_ta V y a) (q_takeM A (q_ta A y a)) (m_taM V y a) := by
  obtain ⟨hS, hF, hH, h0⟩ := h
  have hok := m_taM_ok (b := y) (a := a) hS.2.2.2.2.2.2.1
  have hfi := z_fi hS (s := a) (r := 8) hb h14
  have tha := z_ta_th hS.1.1 hS.2.2.1 (b := y) (s := a)
  unfold q_take m_ta q_takeM
  unfold m_taM at hok ⊢
  rw [hfi] at hok ⊢
  generalize q_ta A y a = T at *
  by_cases c : q_fits A T 8 = 1
  · rw [if_pos c] at hok ⊢
    have nT := q_fits_ne c
    have hT : 0 ≤ T ∧ T < 120 ∧ A 3 T.toNat ≠ -1 := by rcases tha with q | q; exact absurd q nT; exact q
    rw [if_pos nT] at hok
    rw [if_pos nT, if_pos nT, if_pos c]
    refine ⟨c, fun _ => ?_, fun q => absurd c q⟩
    obtain ⟨w, hl, hm, ρ, ha⟩ := hS.1
    have hd := z_doom hS.1 ha 120 T V (fun k hk => by
      have := hS.2.1 k hk
      constructor
      · constructor
        · intro q; omega
        · intro q; omega
      · intro q; omega) ⟨hT.1, hT.2.1⟩ (ha.1 _)
    have hA : ∀ j, (z_D A T j → q_dmF A T 120 12 j = 1) ∧ (¬ z_D A T j → q_dmF A T 120 12 j = A 12 j) := by
      intro j
      have e : q_dmF A T 120 12 j = if j < 120 ∧ A 3 j ≠ -1 ∧ q_co A T 120 (A 7 j) = 1 then 1 else A 12 j := by unfold q_dmF mj_upr; rw [if_pos rfl]
      rw [e]
      have g := z_D_120 hS.1 (t := T) (j := j)
      exact ⟨fun q => by rw [if_pos (g.mp q)], fun q => by rw [if_neg (fun q2 => q (g.mpr q2))]⟩
    have wA : q_wr (q_dmF A T 120) := q_wr_dm w
    have oA : ∀ a, a ≠ 12 → q_dmF A T 120 a = A a := fun a ha => q_dmF_ne ha
    have oV : ∀ a, a ≠ 12 → m_doom 120 T V a = V a := fun a ha => m_doom_o ha 120 T V
    have hSW : z_SW e (q_dmF A T 120) (m_doom 120 T V) := by
      refine z_SW_tok hS wA hok.1 (fun a _ _ _ h4 => oA a h4) (fun a _ _ _ h4 => oV a h4) ?_
      intro t ht h3
      have hTt := hS.2.1 t ht
      have hTR := hS.2.2.2.2.2.2.2.2.2.2.2.2.2.2.2.2.1 t ht h3
      rw [oA 6 (by omega), oV 6 (by omega), oA 10 (by omega), oV 10 (by omega), oA 11 (by omega), oV 11 (by omega)]
      refine ⟨by omega, by omega, by omega, ?_, hS.2.2.2.1.1 t ht h3, ?_⟩
      · by_cases g : z_D A T t
        · rw [(hd t).1 g, (hA t).1 g]
        · rw [(hd t).2 g, (hA t).2 g]; omega
      · by_cases g : z_D A T t
        · rw [(hA t).1 g]; omega
        · rw [(hA t).2 g]; exact hTR.2.2
    exact z_af_no hSW (z_F_c hF (oA 130 (by omega)) (oA 131 (by omega))) (z_HT_c hH (oA 14 (by omega)) (oA 3 (by omega)) (oA 4 (by omega))) (by rw [oA 130 (by omega)]; exact h0) (fun k _ _ => oA k (by omega)) (fun k _ _ => oV k (by omega)) (oA 1 (by omega)) (oV 1 (by omega))
  · rw [if_neg c, if_neg c, if_neg (fun q => q rfl), if_neg (fun q => q rfl)]
    have h01 : q_fits A T 8 = 0 := by
      unfold q_fits at c ⊢
      split at c
      · omega
      · rename_i g; rw [if_neg g]
    exact ⟨h01, fun q => by omega, fun _ => ⟨rfl, rfl⟩⟩
/-- the acts that a runner does in its own box -/
theorem z_acts (h : z_Rl e A V) {y what a b c : Int} (hb : 0 ≤ y ∧ y < 40) (h14 : A 14 y.toNat = 1) (hB : -2147483648 ≤ V 201 1 ∧ V 201 1 < 2147483647) : z_act e A V (q_prf A y what a b c) (m_ac V y what a b c) (q_prfM A y what a b c) (m_acM V y what a b c) := by
  unfold q_prf m_ac q_prfM m_acM
  by_cases h6 : what = 6
  · simp only [if_pos h6, if_pos (show what = 6 ∨ what = 7 ∨ what = 8 from Or.inl h6)]
    exact z_lend_act h hb h14 (by omega) (fun x hx => by rw [(mj_and_31 hx).1, (mj_and_31 hx).2.1])
  by_cases h7 : what = 7
  · simp only [if_neg h6, if_pos h7, if_pos (show what = 6 ∨ what = 7 ∨ what = 8 from Or.inr (Or.inl h7))]
    exact z_lend_act h hb h14 (by omega) (fun x hx => rfl)
  by_cases h8 : what = 8
  · simp only [if_neg h6, if_neg h7, if_pos h8, if_pos (show what = 6 ∨ what = 7 ∨ what = 8 from Or.inr (Or.inr h8))]
    exact z_lend_act h hb h14 (by omega) (fun x hx => (mj_and_31 hx).2.2)
  have hn : ¬ (what = 6 ∨ what = 7 ∨ what = 8) := by omega
  simp only [if_neg h6, if_neg h7, if_neg h8, if_neg hn]
  by_cases h9 : what = 9
  · simp only [if_pos h9]; exact z_split h hb h14
  by_cases h10 : what = 10
  · simp only [if_neg h9, if_pos h10]; exact z_make h hb h14 hB
  by_cases h11 : what = 11
  · simp only [if_neg h9, if_neg h10, if_pos h11]; exact z_seal h hb h14
  by_cases h12 : what = 12
  · simp only [if_neg h9, if_neg h10, if_neg h11, if_pos h12]; exact z_open h hb h14
  by_cases h13 : what = 13
  · simp only [if_neg h9, if_neg h10, if_neg h11, if_neg h12, if_pos h13]; exact z_take h hb h14
  by_cases hd : what = 14
  · simp only [if_neg h9, if_neg h10, if_neg h11, if_neg h12, if_neg h13, if_pos hd]; exact z_drop h hb h14
  by_cases h18 : what = 18
  · simp only [if_neg h9, if_neg h10, if_neg h11, if_neg h12, if_neg h13, if_neg hd, if_pos h18]; exact z_putbox h hb h14
  by_cases h19 : what = 19
  · simp only [if_neg h9, if_neg h10, if_neg h11, if_neg h12, if_neg h13, if_neg hd, if_neg h18, if_pos h19]; exact z_getbox h hb h14
  by_cases h20 : what = 20
  · simp only [if_neg h9, if_neg h10, if_neg h11, if_neg h12, if_neg h13, if_neg hd, if_neg h18, if_neg h19, if_pos h20]; exact z_till h hb h14
  simp only [if_neg h9, if_neg h10, if_neg h11, if_neg h12, if_neg h13, if_neg hd, if_neg h18, if_neg h19, if_neg h20]
  exact ⟨rfl, fun q => by omega, fun _ => ⟨rfl, rfl⟩⟩
end re20
