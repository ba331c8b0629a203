section re2
variable {A B C V : mj_M}
theorem mj_w_add {a b : Int} : mj_w (mj_w a + b) = mj_w (a + b) := by unfold mj_w; simp
theorem mj_w_add2 {a b : Int} : mj_w (a + mj_w b) = mj_w (a + b) := by unfold mj_w; simp
theorem mj_w_w {a : Int} : mj_w (mj_w a) = mj_w a := by unfold mj_w; simp
theorem q_sum_snoc {f : Nat → Int} : ∀ (n t : Nat), q_sum f (n + 1) t = q_sum f n t + f (t + n) := by
  intro n
  induction n with
  | zero => intro t; simp [q_sum]
  | succ n ih =>
    intro t
    rw [q_sum, ih (t + 1), q_sum]
    rw [show t + 1 + n = t + (n + 1) by omega]
    omega
/-- what a class state that is swept wants -/
def z_pre (A : mj_M) : Prop := q_wr A ∧ z_lt A ∧ (∀ k : Nat, k < 120 → A 131 k ≠ 0 → A 3 k ≠ -1) ∧ (∃ ρ, z_acy ρ A)
/-- rooms are ints -/
def z_rm (A : mj_M) : Prop := (∀ k : Nat, k < 120 → A 3 k ≠ -1 → mj_w (A 6 k) = A 6 k) ∧ mj_w (A 1 8) = A 1 8
/-- the table tells where tokens are -/
def z_tb (A : mj_M) : Prop := (∀ t : Nat, t < 120 → A 3 t ≠ -1 → A 42 (10 * A 8 t + A 9 t).toNat = t) ∧ (∀ i : Nat, i < 400 → A 42 i ≠ -1 → A 3 (A 42 i).toNat ≠ -1 ∧ (10 * A 8 (A 42 i).toNat + A 9 (A 42 i).toNat).toNat = i)
def z_sm (A : mj_M) (u : Int) (i : Nat) : Int := q_sum (fun t => if z_d A t = 1 ∧ z_n A (A 7 t) = u then A 6 t else 0) i 0
theorem z_sm_s {u : Int} {i : Nat} : z_sm A u (i + 1) = z_sm A u i + (if z_d A i = 1 ∧ z_n A (A 7 i) = u then A 6 i else 0) := by
  unfold z_sm; rw [q_sum_snoc]; simp
theorem z_gbr (h : z_pre A) (hr : z_rm A) :
    (∀ a, a ≠ 6 → a ≠ 1 → q_gbr (q_mab A) a = q_mab A a) ∧ (∀ j, j ≠ 8 → q_gbr (q_mab A) 1 j = A 1 j) ∧
    (∀ u : Nat, u < 120 → A 3 u ≠ -1 → z_d A u = 0 → q_gbr (q_mab A) 6 u = mj_w (A 6 u + z_sm A u 120)) ∧ q_gbr (q_mab A) 1 8 = mj_w (A 1 8 + z_sm A (-1) 120) := by
  obtain ⟨w, hl, hm, ρ, ha⟩ := h
  obtain ⟨m1, m2⟩ := z_mab w hl ha hm
  have e6 := m1 6 (by omega)
  have e1 := m1 1 (by omega)
  have e7 := m1 7 (by omega)
  generalize hB : q_mab A = B at *
  have key := q_for_inv (N := 120) (F := f_45) (P := fun i C => (∀ a, a ≠ 6 → a ≠ 1 → C a = B a) ∧ (∀ j, j ≠ 8 → C 1 j = A 1 j) ∧
      (∀ u : Nat, u < 120 → z_d A u = 1 → C 6 u = A 6 u) ∧ (∀ u : Nat, u < 120 → A 3 u ≠ -1 → z_d A u = 0 → C 6 u = mj_w (A 6 u + z_sm A u i)) ∧ C 1 8 = mj_w (A 1 8 + z_sm A (-1) i))
    (by
      intro i C hi hC
      obtain ⟨c1, c2, c3, c4, c5⟩ := hC
      have f131 := c1 131 (by omega) (by omega)
      have f7 := c1 7 (by omega) (by omega)
      unfold f_45
      rw [f131]
      by_cases hd : z_d A i = 1
      · rw [if_pos ((m2 i hi).mpr hd)]
        have hup := z_d_up w hl ha hi hd
        have htn := z_tn_k w hl hi hup.1
        have hns : q_ns C 120 (C 7 i) = z_n A (A 7 i) := by
          rw [f7, e7]
          have h7 := q_w7 (i := i) w hi
          exact z_ns_s (by rw [f7, e7]) (fun k hk => by rw [f131]; exact m2 k hk) w 120 _ (by omega)
        have hst := z_n_stays w hl ha htn
        rw [hns, c3 i hi hd]
        unfold q_gr
        by_cases hv : z_n A (A 7 i) = -1
        · rw [if_pos hv]
          refine ⟨fun a h6 h1 => by rw [mj_up_ne h1, c1 a h6 h1], fun j hj => by simp only [mj_up, if_true]; rw [if_neg hj]; exact c2 j hj, ?_, ?_, ?_⟩
          · intro u hu hu2; rw [mj_up_ne (by omega)]; exact c3 u hu hu2
          · intro u hu hu2 hu3
            rw [mj_up_ne (by omega), c4 u hu hu2 hu3, z_sm_s, if_neg (fun q => by omega), Int.add_zero]
          · simp only [mj_up, if_true]
            rw [c5, mj_w_add, z_sm_s, if_pos ⟨hd, hv⟩, Int.add_assoc]
        · rw [if_neg hv]
          have hst2 : 0 ≤ z_n A (A 7 i) ∧ z_n A (A 7 i) < 120 ∧ A 3 (z_n A (A 7 i)).toNat ≠ -1 ∧ z_d A (z_n A (A 7 i)).toNat = 0 := by
            rcases hst with q | q
            · exact absurd q hv
            · exact q
          refine ⟨fun a h6 h1 => by rw [mj_up_ne h6, c1 a h6 h1], fun j hj => by rw [mj_up_ne (by omega)]; exact c2 j hj, ?_, ?_, ?_⟩
          · intro u hu hu2
            simp only [mj_up, if_true]
            rw [if_neg (fun q => by rw [q] at hu2; omega)]
            exact c3 u hu hu2
          · intro u hu hu2 hu3
            simp only [mj_up, if_true]
            by_cases hq : u = (z_n A (A 7 i)).toNat
            · rw [if_pos hq, ← hq, c4 u hu hu2 hu3, mj_w_add, z_sm_s, if_pos ⟨hd, by omega⟩, Int.add_assoc]
            · rw [if_neg hq, c4 u hu hu2 hu3, z_sm_s, if_neg (fun q => by omega), Int.add_zero]
          · rw [mj_up_ne (by omega), c5, z_sm_s, if_neg (fun q => hv q.2), Int.add_zero]
      · have hn : ¬ B 131 i ≠ 0 := fun q => hd ((m2 i hi).mp q)
        rw [if_neg hn]
        refine ⟨c1, c2, c3, ?_, ?_⟩
        · intro u hu hu2 hu3
          rw [c4 u hu hu2 hu3, z_sm_s, if_neg (fun q => hd q.1), Int.add_zero]
        · rw [c5, z_sm_s, if_neg (fun q => hd q.1), Int.add_zero])
    120 0 B rfl ⟨fun _ _ _ => rfl, fun j _ => by rw [e1], fun u _ _ => by rw [e6], fun u hu h3 _ => by rw [e6]; simp [z_sm, q_sum, hr.1 u hu h3], by rw [e1]; simp [z_sm, q_sum, hr.2]⟩
  exact ⟨key.1, key.2.1, key.2.2.2.1, key.2.2.2.2⟩
theorem z_49 {tok : Int} : ∀ (n t : Nat) (C : mj_M), (∀ a, a ≠ 15 → q_for (f_49 tok) n t C a = C a) ∧ (∀ y : Nat, q_for (f_49 tok) n t C 15 y = if t ≤ y ∧ y < t + n ∧ C 15 y = tok then -1 else C 15 y) := by
  intro n
  induction n with
  | zero => intro t C; exact ⟨fun _ _ => rfl, fun y => by rw [if_neg (by omega)]; rfl⟩
  | succ n ih =>
    intro t C
    obtain ⟨h1, h2⟩ := ih (t + 1) (f_49 tok t C)
    rw [q_for]
    constructor
    · intro a ha
      rw [h1 a ha]
      unfold f_49; split
      · rw [mj_up_ne ha]
      · rfl
    · intro y
      rw [h2 y]
      have e : f_49 tok t C 15 y = if y = t ∧ C 15 t = tok then -1 else C 15 y := by
        unfold f_49
        by_cases c : C 15 t = tok
        · rw [if_pos c]
          simp only [mj_up, if_true]
          by_cases e : y = t
          · rw [if_pos e, if_pos ⟨e, c⟩]
          · rw [if_neg e, if_neg (fun q => e q.1)]
        · rw [if_neg c, if_neg (fun q => c q.2)]
      rw [e]
      by_cases e1 : y = t
      · subst e1
        by_cases c : C 15 y = tok
        · rw [if_neg (by omega), if_pos ⟨rfl, c⟩, if_pos ⟨by omega, by omega, c⟩]
        · rw [if_neg (by omega), if_neg (fun q => c q.2), if_neg (fun q => c q.2.2)]
      · rw [if_neg (fun q : y = t ∧ _ => e1 q.1)]
        by_cases c : t + 1 ≤ y ∧ y < t + 1 + n ∧ C 15 y = tok
        · rw [if_pos c, if_pos ⟨by omega, by omega, c.2.2⟩]
        · rw [if_neg c, if_neg (fun q => c ⟨by omega, by omega, q.2.2⟩)]
/-- tokens that go, as one sees it behind -/
def z_gone (A : mj_M) (v : Int) : Prop := v ≠ -1 ∧ z_d A v.toNat = 1
theorem z_lts (h : z_pre A) (ht : z_tb A) (hB : ∀ a, a ≠ 6 → a ≠ 1 → a ≠ 131 → B a = A a) (h131 : ∀ k : Nat, k < 120 → (B 131 k ≠ 0 ↔ z_d A k = 1)) :
    (∀ a, a ≠ 3 → a ≠ 15 → a ≠ 42 → a ≠ 130 → a ≠ 131 → q_lts B a = B a) ∧ (∀ k : Nat, k < 120 → q_lts B 131 k = 0) ∧ (∀ k : Nat, k < 120 → q_lts B 3 k = if z_d A k = 1 then -1 else A 3 k) ∧
    (∀ i : Nat, i < 400 → (z_gone A (A 42 i) → q_lts B 42 i = -1) ∧ (¬ z_gone A (A 42 i) → q_lts B 42 i = A 42 i)) ∧
    (∀ y : Nat, y < 40 → (z_gone A (A 15 y) → q_lts B 15 y = -1) ∧ (¬ z_gone A (A 15 y) → q_lts B 15 y = A 15 y)) ∧ q_lts B 130 2 = 0 ∧ (∀ j, j ≠ 2 → q_lts B 130 j = A 130 j) := by
  obtain ⟨w, hl, hm, ρ, ha⟩ := h
  have key := q_for_inv (N := 120) (F := f_48) (P := fun i C => (∀ a, a ≠ 3 → a ≠ 15 → a ≠ 42 → a ≠ 131 → C a = B a) ∧
      (∀ k : Nat, k < 120 → (k < i → C 131 k = 0) ∧ (i ≤ k → C 131 k = B 131 k)) ∧ (∀ k : Nat, k < 120 → C 3 k = if z_d A k = 1 ∧ k < i then -1 else A 3 k) ∧
      (∀ j : Nat, j < 400 → (z_gone A (A 42 j) ∧ A 42 j < i → C 42 j = -1) ∧ (¬ (z_gone A (A 42 j) ∧ A 42 j < i) → C 42 j = A 42 j)) ∧
      (∀ y : Nat, y < 40 → (z_gone A (A 15 y) ∧ A 15 y < i → C 15 y = -1) ∧ (¬ (z_gone A (A 15 y) ∧ A 15 y < i) → C 15 y = A 15 y)))
    (by
      intro i C hi hC
      obtain ⟨c1, c2, c3, c4, c5⟩ := hC
      have hc8 := c1 8 (by omega) (by omega) (by omega) (by omega)
      have hc9 := c1 9 (by omega) (by omega) (by omega) (by omega)
      have hb8 := hB 8 (by omega) (by omega) (by omega)
      have hb9 := hB 9 (by omega) (by omega) (by omega)
      have h131i := (c2 i hi).2 (Nat.le_refl _)
      unfold f_48
      by_cases hd : z_d A i = 1
      · have hb := (h131 i hi).mpr hd
        rw [if_pos (by rw [h131i]; exact hb)]
        have hth := (z_d_up w hl ha hi hd).1
        have hcell := ht.1 i hi hth
        have w8 := q_w8 (i := i) w hi
        have w9 := q_w9 (i := i) w hi
        obtain ⟨g1, g2⟩ := z_49 (tok := (i : Int)) 40 0 (q_lose1 i C)
        have l1 : ∀ a, a ≠ 42 → a ≠ 3 → q_lose1 i C a = C a := by
          intro a h1 h2; unfold q_lose1; rw [mj_up_ne h2, mj_up_ne h1]
        refine ⟨?_, ?_, ?_, ?_, ?_⟩
        · intro a a1 a2 a3 a4
          rw [mj_up_ne a4, g1 a a2, l1 a a3 a1]; exact c1 a a1 a2 a3 a4
        · intro k hk
          simp only [mj_up, if_true]
          by_cases e : k = i
          · subst e; rw [if_pos rfl]; exact ⟨fun _ => rfl, fun q => by omega⟩
          · rw [if_neg e, g1 131 (by omega), l1 131 (by omega) (by omega)]
            exact ⟨fun q => (c2 k hk).1 (by omega), fun q => (c2 k hk).2 (by omega)⟩
        · intro k hk
          rw [mj_up_ne (by omega), g1 3 (by omega)]
          have e3 : q_lose1 i C 3 k = if k = i then -1 else C 3 k := by
            unfold q_lose1
            simp only [mj_up, if_true]
            split
            · rfl
            · rw [if_neg (by omega)]
          rw [e3]
          by_cases e : k = i
          · subst e; rw [if_pos rfl, if_pos ⟨hd, by omega⟩]
          · rw [if_neg e, c3 k hk]
            by_cases q : z_d A k = 1 ∧ k < i
            · rw [if_pos q, if_pos ⟨q.1, by omega⟩]
            · rw [if_neg q, if_neg (fun q2 => q ⟨q2.1, by omega⟩)]
        · intro j hj
          rw [mj_up_ne (by omega), g1 42 (by omega)]
          have e42 : q_lose1 i C 42 j = if j = (10 * A 8 i + A 9 i).toNat then -1 else C 42 j := by
            unfold q_lose1
            rw [hc8, hc9, hb8, hb9, mj_up_ne (by omega)]
            simp [mj_up]
          rw [e42]
          by_cases e : j = (10 * A 8 i + A 9 i).toNat
          · rw [if_pos e]
            rw [← e] at hcell
            refine ⟨fun _ => rfl, fun q => ?_⟩
            exfalso; apply q
            rw [hcell]
            exact ⟨⟨by omega, by simpa using hd⟩, by omega⟩
          · rw [if_neg e]
            have hne : A 42 j ≠ i := by
              intro q
              have h4 := (ht.2 j hj (by omega)).2
              rw [q] at h4
              simp only [Int.toNat_natCast] at h4
              exact e h4.symm
            refine ⟨fun q => (c4 j hj).1 ⟨q.1, by omega⟩, fun q => (c4 j hj).2 (fun q2 => q ⟨q2.1, by omega⟩)⟩
        · intro y hy
          rw [mj_up_ne (by omega), g2 y, l1 15 (by omega) (by omega)]
          have c5y := c5 y hy
          by_cases e : A 15 y = i
          · have g : z_gone A (A 15 y) := by rw [e]; exact ⟨by omega, by simpa using hd⟩
            have e2 : C 15 y = A 15 y := c5y.2 (fun q => by omega)
            rw [if_pos ⟨by omega, by omega, by rw [e2]; exact e⟩]
            exact ⟨fun _ => rfl, fun q => absurd ⟨g, by omega⟩ q⟩
          · have h15 := q_w15 (i := y) w hy
            have hne : ¬ C 15 y = i := by
              intro q
              by_cases g : z_gone A (A 15 y) ∧ A 15 y < i
              · rw [c5y.1 g] at q; omega
              · rw [c5y.2 g] at q; exact e q
            rw [if_neg (fun q => hne q.2.2)]
            exact ⟨fun q => c5y.1 ⟨q.1, by omega⟩, fun q => c5y.2 (fun q2 => q ⟨q2.1, by omega⟩)⟩
      · have hn : ¬ C 131 i ≠ 0 := by rw [h131i]; exact fun q => hd ((h131 i hi).mp q)
        rw [if_neg hn]
        refine ⟨c1, ?_, ?_, ?_, ?_⟩
        · intro k hk
          refine ⟨fun q => ?_, fun q => (c2 k hk).2 (by omega)⟩
          by_cases e : k = i
          · subst e; omega
          · exact (c2 k hk).1 (by omega)
        · intro k hk
          rw [c3 k hk]
          by_cases e : k = i
          · subst e; rw [if_neg (fun q => hd q.1), if_neg (fun q => hd q.1)]
          · by_cases q : z_d A k = 1 ∧ k < i
            · rw [if_pos q, if_pos ⟨q.1, by omega⟩]
            · rw [if_neg q, if_neg (fun q2 => q ⟨q2.1, by omega⟩)]
        · intro j hj
          have hne : z_gone A (A 42 j) → A 42 j ≠ i := by
            intro g q; rw [q] at g; exact hd (by simpa using g.2)
          refine ⟨fun q => (c4 j hj).1 ⟨q.1, by have := hne q.1; omega⟩, fun q => (c4 j hj).2 (fun q2 => q ⟨q2.1, by omega⟩)⟩
        · intro y hy
          have hne : z_gone A (A 15 y) → A 15 y ≠ i := by
            intro g q; rw [q] at g; exact hd (by simpa using g.2)
          refine ⟨fun q => (c5 y hy).1 ⟨q.1, by have := hne q.1; omega⟩, fun q => (c5 y hy).2 (fun q2 => q ⟨q2.1, by omega⟩)⟩)
    120 0 B rfl ⟨fun _ _ _ _ _ => rfl, fun k _ => ⟨fun q => by omega, fun _ => rfl⟩, fun k _ => by rw [if_neg (by omega), hB 3 (by omega) (by omega) (by omega)],
      fun j hj => ⟨fun q => by have := q.1.1; have := q_w42 (i := j) w hj; omega, fun _ => by rw [hB 42 (by omega) (by omega) (by omega)]⟩,
      fun y hy => ⟨fun q => by have := q.1.1; have := q_w15 (i := y) w hy; omega, fun _ => by rw [hB 15 (by omega) (by omega) (by omega)]⟩⟩
  obtain ⟨k1, k2, k3, k4, k5⟩ := key
  unfold q_lts
  refine ⟨?_, ?_, ?_, ?_, ?_, ?_, ?_⟩
  · intro a a1 a2 a3 a4 a5; rw [mj_up_ne a4]; exact k1 a a1 a2 a3 a5
  · intro k hk; rw [mj_up_ne (by omega)]; exact (k2 k hk).1 hk
  · intro k hk
    rw [mj_up_ne (by omega), k3 k hk]
    by_cases q : z_d A k = 1
    · rw [if_pos ⟨q, hk⟩, if_pos q]
    · rw [if_neg (fun q2 => q q2.1), if_neg q]
  · intro i hi
    rw [mj_up_ne (by omega)]
    have := q_w42 (i := i) w hi
    exact ⟨fun q => (k4 i hi).1 ⟨q, by omega⟩, fun q => (k4 i hi).2 (fun q2 => q q2.1)⟩
  · intro y hy
    rw [mj_up_ne (by omega)]
    have := q_w15 (i := y) w hy
    exact ⟨fun q => (k5 y hy).1 ⟨q, by omega⟩, fun q => (k5 y hy).2 (fun q2 => q q2.1)⟩
  · simp [mj_up]
  · intro j hj
    simp only [mj_up, if_true]
    rw [if_neg hj, k1 130 (by omega) (by omega) (by omega) (by omega), hB 130 (by omega) (by omega) (by omega)]
end re2
