section re11
variable {A B C V W A' V' : mj_M} {e : Nat}
theorem z_to {y : Int} (hT : z_T A V) : ∀ (n t : Nat) (a : Int), t + n ≤ 120 → m_to V y n t a = a + q_sum (fun t => if A 3 t ≠ -1 ∧ A 4 t = y then 1 else 0) n t := by
  intro n
  induction n with
  | zero => intro t a _; simp [m_to, q_sum]
  | succ n ih =>
    intro t a h
    rw [m_to, ih (t + 1) _ (by omega), q_sum]
    have hTt := hT t (by omega)
    have e1 : (if V 212 t = 1 ∧ V 4 t = y then (1 : Int) else 0) = (if A 3 t ≠ -1 ∧ A 4 t = y then 1 else 0) := by
      rcases hTt with q | q
      · rw [if_neg (by omega), if_neg (by omega)]
      · by_cases c : A 4 t = y
        · rw [if_pos (by omega), if_pos ⟨q.1, c⟩]
        · rw [if_neg (by omega), if_neg (fun q2 => c q2.2)]
    rw [e1]
    omega
theorem z_hm0 {y : Int} : q_hm A y = 0 ↔ ∀ t : Nat, t < 120 → A 3 t ≠ -1 → A 4 t ≠ y := by
  have pos : ∀ (n t : Nat), 0 ≤ q_sum (fun t => if A 3 t ≠ -1 ∧ A 4 t = y then (1 : Int) else 0) n t := fun n t => (q_sum_b (fun t => by split <;> omega) n t).1
  have gen : ∀ (n t : Nat), q_sum (fun t => if A 3 t ≠ -1 ∧ A 4 t = y then (1 : Int) else 0) n t = 0 ↔ ∀ k : Nat, t ≤ k → k < t + n → A 3 k ≠ -1 → A 4 k ≠ y := by
    intro n
    induction n with
    | zero => intro t; simp [q_sum]; omega
    | succ n ih =>
      intro t
      rw [q_sum]
      have h1 := pos n (t + 1)
      constructor
      · intro h k k1 k2 k3 k4
        by_cases ek : k = t
        · subst ek
          rw [if_pos ⟨k3, k4⟩] at h; omega
        · have : q_sum (fun t => if A 3 t ≠ -1 ∧ A 4 t = y then (1 : Int) else 0) n (t + 1) = 0 := by
            by_cases c : A 3 t ≠ -1 ∧ A 4 t = y
            · rw [if_pos c] at h; omega
            · rw [if_neg c] at h; omega
          exact (ih (t + 1)).mp this k (by omega) (by omega) k3 k4
      · intro h
        rw [if_neg (fun q => h t (Nat.le_refl _) (by omega) q.1 q.2), (ih (t + 1)).mpr (fun k k1 k2 => h k (by omega) (by omega))]
        rfl
  unfold q_hm
  rw [gen 120 0]
  constructor
  · exact fun h t ht => h t (by omega) (by omega)
  · exact fun h k _ hk => h k (by omega)
theorem z_hm_pos {y : Int} : 0 ≤ q_hm A y := (q_sum_b (fun t => by split <;> omega) 120 0).1
theorem m_swF_one : ∀ (n y : Nat) (V : mj_M), m_swF n y V 1 = 1 := by
  intro n
  induction n with
  | zero => intro y V; rfl
  | succ n ih =>
    intro y V
    rw [m_swF]
    split
    · exact ih _ _
    · exact ih _ _
/-- the loop over things -/
theorem z_loopX (n : Nat) : ∀ (y : Nat) (A V : mj_M) (c : Int), y + n = 40 → 1 ≤ y → (c = 0 ∨ c = 1) → z_SW e A V → z_F A → z_HT A y →
    z_SW e (q_for f_42 n y A) (q_for f_swX n y V) ∧ z_F (q_for f_42 n y A) ∧ z_HT (q_for f_42 n y A) 40 ∧ z_ex e A (q_for f_42 n y A) V (q_for f_swX n y V) ∧ (∀ k, A 29 k = -1 → q_for f_42 n y A 29 k = -1) ∧ (m_swF n y V c = 0 → q_for f_42 n y A = A) := by
  induction n with
  | zero =>
    intro y A V c h hy1 hc hS hF hH
    have : y = 40 := by omega
    subst this
    exact ⟨hS, hF, hH, fun _ _ => ⟨rfl, rfl, rfl, rfl⟩, fun _ q => q, fun _ => rfl⟩
  | succ n ih =>
    intro y A V c h hy1 hc hS hF hH
    have hT := hS.2.1
    have hHy := hS.2.2.2.2.2.2.2.1 y (by omega)
    have hto := z_to (y := (y : Int)) hT 120 0 0 (by omega)
    have hq : m_to V (y : Int) 120 0 0 = q_hm A y := by rw [hto]; unfold q_hm; omega
    have hp := z_hm_pos (A := A) (y := (y : Int))
    rw [q_for, q_for, m_swF]
    by_cases c1 : A 14 y ≠ -1 ∧ q_hm A y = 0
    · have c2 : ¬ (V 210 y = 0 ∨ 0 < m_to V (y : Int) 120 0 0) := by rw [hq]; omega
      have eA : f_42 y A = q_lt A (y : Int) := by unfold f_42; rw [if_pos c1]
      have eV : f_swX y V = m_gt V (y : Int) := by unfold f_swX; rw [if_neg c2]
      have hno : ∀ t : Nat, t < 120 → A 3 t ≠ -1 → A 4 t ≠ y := fun t ht h3 => z_hm0.mp c1.2 t ht h3
      obtain ⟨l1, l2, l3, l4, l5, l6, l7⟩ := z_lost (e := e) (y := y) (by omega) hS hF c1.1 hno
      rw [eA, eV, if_neg c2]
      have hH' : z_HT (q_lt A (y : Int)) (y + 1) := by
        intro k k1 k2 k3
        rw [l7] at k3
        by_cases ek : k = y
        · rw [if_pos ek] at k3; exact absurd rfl k3
        · rw [if_neg ek] at k3
          rw [l5, l6]
          exact hH k k1 (by omega) k3
      obtain ⟨i1, i2, i3, i4, i5, i6⟩ := ih (y + 1) (q_lt A y) (m_gt V y) 1 (by omega) (by omega) (Or.inr rfl) l1 l2 hH'
      refine ⟨i1, i2, i3, ?_, fun k q => i5 k (l4 k q), ?_⟩
      · intro he h29
        obtain ⟨x1, x2, x3, x4⟩ := l3 he h29
        obtain ⟨y1, y2, y3, y4⟩ := i4 he (l4 e h29)
        exact ⟨by rw [y1, x1], by rw [y2, x2], by rw [y3, x3], by rw [y4, x4]⟩
      · intro q
        have := m_swF_one n (y + 1) (m_gt V y)
        rw [this] at q
        omega
    · have c2 : V 210 y = 0 ∨ 0 < m_to V (y : Int) 120 0 0 := by rw [hq]; omega
      have eA : f_42 y A = A := by unfold f_42; rw [if_neg c1]
      have eV : f_swX y V = V := by unfold f_swX; rw [if_pos c2]
      rw [eA, eV, if_pos c2]
      have hH' : z_HT A (y + 1) := by
        intro k k1 k2 k3
        by_cases ek : k = y
        · subst ek
          have hne : q_hm A k ≠ 0 := fun q => c1 ⟨k3, q⟩
          by_cases ex : ∃ t : Nat, t < 120 ∧ A 3 t ≠ -1 ∧ A 4 t = k
          · exact ex
          · exact absurd (z_hm0.mpr (fun t ht h3 h4 => ex ⟨t, ht, h3, h4⟩)) hne
        · exact hH k k1 (by omega) k3
      exact ih (y + 1) A V c (by omega) (by omega) hc hS hF hH'
/-- behind the tokens -/
theorem z_mid (hS : z_SW e A V) : z_SW e (z_lo A) (q_for f_swT 120 0 V) ∧ z_F (z_lo A) ∧ z_ex e A (z_lo A) V (q_for f_swT 120 0 V) ∧ z_lo A 29 = A 29 ∧ z_lo A 130 2 = 0 := by
  obtain ⟨s1, s2, s3, s4, s5, s6, s7, s8, s9, s10, s11, s12, s13, s14, s15, s16, s17, s18⟩ := hS
  have w := s1.1
  obtain ⟨p1, p2, p3, p4, p5, p6, p7, p8, p9, p10, p11, p12, p13, p14, p15, p16, p17⟩ := z_pass1 s1 s2 s3 s4 s5 s6 s7 s14.2.2.1.symm (fun y hy h => by have := s8 y hy; omega)
  have o : ∀ a, (a = 4 ∨ a = 5 ∨ a = 7 ∨ a = 8 ∨ a = 9 ∨ a = 10 ∨ a = 11 ∨ a = 12 ∨ a = 14 ∨ (16 ≤ a ∧ a ≤ 41) ∨ a = 43 ∨ a = 9001) → z_lo A a = A a := fun a h => p10 a (by omega) (by omega) (by omega) (by omega) (by omega) (by omega) (by omega)
  have v : ∀ a, (a = 14 ∨ (16 ≤ a ∧ a ≤ 41) ∨ a = 43 ∨ a = 201 ∨ a = 210 ∨ a = 211 ∨ a = 214 ∨ a = 215 ∨ a = 131) → q_for f_swT 120 0 V a = V a := fun a h => p13 a (by omega) (by omega) (by omega) (by omega) (by omega)
  have th : ∀ k : Nat, k < 120 → z_lo A 3 k ≠ -1 → A 3 k ≠ -1 ∧ z_d A k ≠ 1 := by
    intro k hk q
    rw [p15 k hk] at q
    split at q
    · exact absurd rfl q
    · rename_i c; exact ⟨q, c⟩
  refine ⟨⟨p2, p1, p3, p4, p5, ?_, m_swT_ok s7, ?_, ?_, ?_, ?_, ?_, ?_, ?_, ?_, ?_, ?_, ?_⟩, ⟨Or.inl p7, fun _ => p6⟩, ?_, o 29 (by omega), p7⟩
  · intro t ht h3
    rw [p6 t ht, v 131 (by omega)]
    have := p16 t ht h3
    constructor
    · intro q; exact absurd rfl q
    · intro q; exact absurd q this
  · intro y hy
    rw [o 14 (by omega), o 16 (by omega), o 17 (by omega), o 18 (by omega), o 19 (by omega), v 210 (by omega), v 14 (by omega), v 16 (by omega), v 17 (by omega), v 18 (by omega), v 19 (by omega)]
    rcases s8 y hy with q | q
    · exact Or.inl q
    · exact Or.inr ⟨q.1, q.2.1, q.2.2.1, p9 y hy q.2.1, q.2.2.2.2⟩
  · intro y hy
    rw [o 14 (by omega), o 16 (by omega), o 17 (by omega), o 18 (by omega), o 19 (by omega)]
    intro h
    obtain ⟨g1, g2, g3⟩ := s9 y hy h
    refine ⟨g1, g2, fun q => ?_⟩
    have h15 := q_w15 (i := y) w hy
    have g := p17 y hy
    by_cases c : z_gone A (A 15 y)
    · rw [g.1 c] at q; exact absurd rfl q
    · rw [g.2 c] at q ⊢
      rw [p15 _ (by omega), if_neg (fun q2 => c ⟨q, q2⟩)]
      exact g3 q
  · unfold z_H3; rw [o 14 (by omega), o 17 (by omega), o 18 (by omega), o 20 (by omega), o 21 (by omega), v 20 (by omega), v 21 (by omega)]; exact s10
  · exact z_RR_o s11 p2.1 (fun a h1 h2 => o a (by omega)) (fun a h1 h2 => v a (by omega)) (by rw [v 201 (by omega)])
  · unfold z_QH; rw [o 22 (by omega), o 24 (by omega), o 14 (by omega), o 23 (by omega), o 28 (by omega), o 27 (by omega)]; exact s12
  · obtain ⟨w1, w2, w3⟩ := s13
    refine ⟨by rw [v 36 (by omega), o 36 (by omega)]; exact w1, by rw [v 210 (by omega), v 211 (by omega), v 201 (by omega)]; exact w2, ?_⟩
    intro u hu
    rw [o 36 (by omega)] at hu
    have hw := w3 u hu
    unfold z_al at hw ⊢
    rw [v 37 (by omega), o 37 (by omega), v 38 (by omega), o 38 (by omega), v 39 (by omega), o 39 (by omega), v 40 (by omega), o 40 (by omega), o 41 (by omega), v 214 (by omega), v 215 (by omega), v 201 (by omega), v 210 (by omega), v 211 (by omega)]
    exact hw
  · obtain ⟨g1, g2, g3, g4, g5, g6, g7⟩ := s14
    refine ⟨by rw [p14 6 (by omega), p11 6 (by omega)]; exact g1, by rw [p14 7 (by omega), p11 7 (by omega)]; exact g2, p8.symm, rfl, by rw [p14 10 (by omega), p11 10 (by omega)]; exact g5, by rw [p14 11 (by omega), p11 11 (by omega)]; exact g6, by rw [v 43 (by omega), o 43 (by omega)]; exact g7⟩
  · intro t ht q
    rw [o 4 (by omega), o 14 (by omega)]
    exact s15 t ht (th t ht q).1
  · intro t ht q
    obtain ⟨q1, q2⟩ := th t ht q
    rw [o 8 (by omega), o 14 (by omega)]
    rcases s16 t ht q1 with g | g
    · exact Or.inl g
    · exfalso; apply q2; unfold z_d; rw [if_pos ⟨q1, Or.inl g⟩]
  · intro t ht q
    rw [o 5 (by omega), o 4 (by omega), o 12 (by omega)]
    exact s17 t ht (th t ht q).1
  · unfold z_PR; rw [o 9001 (by omega)]; exact s18
  · intro _ _
    rw [o 25 (by omega), o 26 (by omega), v 25 (by omega), v 26 (by omega)]
    exact ⟨rfl, rfl, rfl, rfl⟩
/-- a pass -/
theorem z_pass (hS : z_SW e A V) : z_SW e (q_pass A) (m_swP V) ∧ z_F (q_pass A) ∧ z_HT (q_pass A) 40 ∧ z_ex e A (q_pass A) V (m_swP V) ∧ (∀ k, A 29 k = -1 → q_pass A 29 k = -1) ∧ (m_swG V = 0 → q_pass A 130 2 = 0) := by
  obtain ⟨m1, m2, m3, m4, m5⟩ := z_mid hS
  obtain ⟨i1, i2, i3, i4, i5, i6⟩ := z_loopX (e := e) 39 1 (z_lo A) (q_for f_swT 120 0 V) 0 rfl (by omega) (Or.inl rfl) m1 m2 (fun y h1 h2 => by omega)
  refine ⟨i1, i2, i3, ?_, fun k q => i5 k (by rw [m4]; exact q), fun q => ?_⟩
  · intro he h29
    obtain ⟨x1, x2, x3, x4⟩ := m3 he h29
    obtain ⟨y1, y2, y3, y4⟩ := i4 he (by rw [m4]; exact h29)
    exact ⟨by show q_for f_42 39 1 (z_lo A) 25 e = _; rw [y1, x1], by show q_for f_42 39 1 (z_lo A) 26 e = _; rw [y2, x2], by show q_for f_swX 39 1 (q_for f_swT 120 0 V) 25 e = _; rw [y3, x3], by show q_for f_swX 39 1 (q_for f_swT 120 0 V) 26 e = _; rw [y4, x4]⟩
  · have := i6 q
    show q_for f_42 39 1 (z_lo A) 130 2 = 0
    rw [this]; exact m5
/-- nothing goes where nothing is marked -/
theorem z_sw_no (hS : z_SW e A V) (hF : z_F A) (h0 : A 130 2 = 0) (hH : z_HT A 40) : m_swP V = V ∧ m_swG V = 0 := by
  have hT := hS.2.1
  have hmk := hS.2.2.2.2.2.1
  have e1 : q_for f_swT 120 0 V = V := by
    have h := q_for_inv (N := 120) (F := f_swT) (P := fun _ W => W = V) (fun t W ht hW => by
      subst hW
      unfold f_swT
      rw [if_neg ?_]
      rintro ⟨q1, q2⟩
      have h3 : A 3 t ≠ -1 := by have := hT t ht; omega
      exact ((hmk t ht h3).mpr q2) (hF.2 h0 t ht)) 120 0 V rfl rfl
    exact h
  have sk : ∀ y : Nat, 1 ≤ y → y < 40 → (V 210 y = 0 ∨ 0 < m_to V (y : Int) 120 0 0) := by
    intro y h1 h2
    have hHy := hS.2.2.2.2.2.2.2.1 y h2
    have hto := z_to (y := (y : Int)) hT 120 0 0 (by omega)
    have hq : m_to V (y : Int) 120 0 0 = q_hm A y := by rw [hto]; unfold q_hm; omega
    by_cases c : A 14 y = -1
    · left; omega
    · right
      rw [hq]
      obtain ⟨t, t1, t2, t3⟩ := hH y h1 h2 c
      have hp := z_hm_pos (A := A) (y := (y : Int))
      have : q_hm A y ≠ 0 := fun q => (z_hm0.mp q) t t1 t2 t3
      omega
  have e2 : ∀ (n y : Nat), 1 ≤ y → y + n = 40 → q_for f_swX n y V = V ∧ m_swF n y V 0 = 0 := by
    intro n
    induction n with
    | zero => intro y _ _; exact ⟨rfl, rfl⟩
    | succ n ih =>
      intro y h1 h2
      have hs := sk y h1 (by omega)
      have e3 : f_swX y V = V := by unfold f_swX; rw [if_pos hs]
      rw [q_for, m_swF, e3, if_pos hs]
      exact ih (y + 1) (by omega) (by omega)
  unfold m_swP m_swG
  rw [e1]
  exact e2 39 1 (by omega) rfl
/-- sweeping, on both sides -/
theorem z_sweeps (m : Nat) : ∀ (n : Nat) (A V : mj_M), z_SW e A V → z_F A → z_HT A 40 → m_cx V < n → m_cx V < m →
    z_SW e (q_swp n A) (m_sw m V) ∧ z_F (q_swp n A) ∧ z_HT (q_swp n A) 40 ∧ q_swp n A 130 2 = 0 ∧ z_ex e A (q_swp n A) V (m_sw m V) ∧ (∀ k, A 29 k = -1 → q_swp n A 29 k = -1) := by
  induction m with
  | zero => intro n A V _ _ _ _ h; have := m_cx_b (V := V); omega
  | succ m ih =>
    intro n A V hS hF hH hn hm
    cases n with
    | zero => have := m_cx_b (V := V); omega
    | succ n =>
      rw [q_swp, m_sw]
      rcases hF.1 with h0 | h1
      · obtain ⟨e1, e2⟩ := z_sw_no hS hF h0 hH
        rw [if_pos h0, if_pos e2, e1]
        exact ⟨hS, hF, hH, h0, fun _ _ => ⟨rfl, rfl, rfl, rfl⟩, fun _ q => q⟩
      · rw [if_neg (by omega)]
        obtain ⟨p1, p2, p3, p4, p5, p6⟩ := z_pass hS
        have hcx := m_swP_cx (V := V)
        have h01 := m_swF_01 39 1 (q_for f_swT 120 0 V) 0 (Or.inl rfl)
        by_cases c : m_swG V = 0
        · rw [if_pos c]
          have h130 := p6 c
          have e3 : q_swp n (q_pass A) = q_pass A := by
            cases n with
            | zero => rfl
            | succ n => rw [q_swp, if_pos h130]
          rw [e3]
          exact ⟨p1, p2, p3, h130, p4, p5⟩
        · rw [if_neg c]
          have hg : m_swG V = 1 := by
            rcases h01 with q | q
            · exact absurd q c
            · exact q
          push_cast at hn hm
          obtain ⟨i1, i2, i3, i4, i5, i6⟩ := ih n (q_pass A) (m_swP V) p1 p2 p3 (by omega) (by omega)
          refine ⟨i1, i2, i3, i4, ?_, fun k q => i6 k (p5 k q)⟩
          intro he h29
          obtain ⟨x1, x2, x3, x4⟩ := p4 he h29
          obtain ⟨y1, y2, y3, y4⟩ := i5 he (p5 e h29)
          exact ⟨by rw [y1, x1], by rw [y2, x2], by rw [y3, x3], by rw [y4, x4]⟩
theorem z_sweep (hS : z_SW e A V) (hF : z_F A) (hH : z_HT A 40) : z_SW e (q_sweep A) (m_swp V) ∧ z_F (q_sweep A) ∧ z_HT (q_sweep A) 40 ∧ q_sweep A 130 2 = 0 ∧ z_ex e A (q_sweep A) V (m_swp V) ∧ (∀ k, A 29 k = -1 → q_sweep A 29 k = -1) := by
  have := m_cx_b (V := V)
  exact z_sweeps 41 41 A V hS hF hH (by omega) (by omega)
end re11
