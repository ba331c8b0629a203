section rea5
variable {A B C D E M N V W X Y : mj_M} {a : Nat}
theorem q_go0_fr {b : Nat} (h : b ≠ 154) (h2 : b ≠ 155) (h3 : b ≠ 156) : q_go0 M b = M b := by
  have hgv : ∀ (f g : Int) (A : mj_M), q_gv A f g b = A b := fun f g A => q_for_o (fun t A => by unfold f_135; split; exact mj_up_ne h; rfl) 40 0 A
  have hexA : ∀ (y z : Int) (A : mj_M), q_exA A y z b = A b := fun y z A => by unfold q_exA; split; exact hgv _ _ _; rfl
  have hex : ∀ (y z : Int) (A : mj_M), q_ex A y z b = A b := fun y z A => by unfold q_ex; split; (rw [hgv, hexA]); exact hexA _ _ _
  unfold q_go0
  rw [q_for_o (F := f_131) (fun t A => q_for_o (fun u A => by unfold f_131y; split; exact hex _ _ _; rfl) 40 0 A) 40 0 _, q_for_o (F := f_133) (fun t A => by unfold f_133; rw [q_for_o (fun u A => by unfold f_133g; rw [mj_up_ne h3, mj_up_ne h2]) 40 0 _, mj_up_ne h3, mj_up_ne h2]) 40 0 _,
    q_for_o (F := f_132) (fun t A => by unfold f_132; split; exact mj_up_ne h; rfl) 120 0 _, (mj_cpy_at).1 b h]
theorem q_goM_at : (∀ b, b ≠ 153 → q_goM M b = q_go0 M b) ∧ ∀ j, j < 1600 → q_goM M 153 j = q_go0 M 154 j := by
  have h := q_for_row (N := 1600) (F := f_131c) (a := 153) (o := 0) (g := fun t A => A 154 t) (fun t A _ => by unfold f_131c; rw [Nat.zero_add]) (fun t A B hb => by show B 154 t = A 154 t; rw [hb 154 (by omega)]) 1600 0 (q_go0 M) rfl
  unfold q_goM
  exact ⟨h.1, fun j hj => by rw [h.2 j, if_pos (by omega), Nat.sub_zero]⟩
theorem m_goM_at : (∀ b, b ≠ 177 → m_goM V N b = m_g0 V N b) ∧ ∀ j, j < 1600 → m_goM V N 177 j = m_g0 V N 178 j := by
  have h := q_for_row (N := 1600) (F := f_r4) (a := 177) (o := 0) (g := fun t A => A 178 t) (fun t A _ => by unfold f_r4; rw [Nat.zero_add]) (fun t A B hb => by show B 178 t = A 178 t; rw [hb 178 (by omega)]) 1600 0 (m_g0 V N) rfl
  unfold m_goM
  exact ⟨h.1, fun j hj => by rw [h.2 j, if_pos (by omega), Nat.sub_zero]⟩
theorem m_g0_fr {b : Nat} (h : b ≠ 178) : m_g0 V N b = N b := by
  have hps : ∀ (f g : Int) (A : mj_M), m_ps f g A b = A b := fun f g A => m_ps_o h
  unfold m_g0
  rw [q_for_o (F := f_r3 V) (fun t A => q_for_o (fun u A => ?_) 40 0 A) 40 0 _, q_for_o (F := f_r2 V) (fun t A => by unfold f_r2; split; exact mj_up_ne h; rfl) 120 0 _, q_for_o (F := f_r1) (fun t A => by unfold f_r1; exact mj_up_ne h) 1600 0 _]
  have ha : ∀ X, f_r3a V t u X b = X b := fun X => by unfold f_r3a; split; exact hps _ _ _; rfl
  have hb : ∀ v X, f_r3b V t u v X b = X b := fun v X => by unfold f_r3b; split; exact hps _ _ _; rfl
  have hc : ∀ v X, f_r3c V t u v X b = X b := fun v X => by
    unfold f_r3c
    split
    · exact q_for_o (fun w A => by unfold f_r3y; split; (rw [hps, hps]); rfl) 40 0 X
    · rfl
  unfold f_r3g
  split
  · rw [hc, hb, ha]
  · rfl
theorem z_chg : ∀ (n t : Nat) (X Y : mj_M) (c : Int), (∀ j, t ≤ j → j < t + n → (X 153 j = X 154 j ↔ Y 177 j = Y 178 j)) → c = 0 ∨ c = 1 → q_chg n t X c = m_chg n t Y c := by
  intro n
  induction n with
  | zero => intro t X Y c _ _; rfl
  | succ n ih =>
    intro t X Y c h hc
    rw [q_chg, m_chg]
    have h0 := h t (by omega) (by omega)
    have e : (if X 153 t = X 154 t then c else 1) = (if c ≠ 0 then 1 else if Y 177 t ≠ Y 178 t then 1 else 0) := by
      by_cases g : X 153 t = X 154 t
      · have g2 := h0.mp g
        rw [if_pos g, if_neg (show ¬ (Y 177 t ≠ Y 178 t) from fun q => q g2)]
        rcases hc with q | q
        · rw [q]; rfl
        · rw [q]; rfl
      · have g2 : Y 177 t ≠ Y 178 t := fun q => g (h0.mpr q)
        rw [if_neg g, if_pos g2]
        split <;> rfl
    rw [← e]
    refine ih (t + 1) _ _ _ (fun j h1 h2 => ?_) (by split; exact hc; exact Or.inr rfl)
    unfold f_131c f_r4
    rw [mj_up_at, if_neg (by omega), mj_up_ne (show (154 : Nat) ≠ 153 by decide), mj_up_at, if_neg (by omega), mj_up_ne (show (178 : Nat) ≠ 177 by decide)]
    exact h j (by omega) (by omega)
theorem m_chg_0 : ∀ (n t : Nat) (Y : mj_M) (c : Int), (c = 0 ∨ c = 1) → m_chg n t Y c = 0 → c = 0 ∧ ∀ j, t ≤ j → j < t + n → Y 177 j = Y 178 j := by
  intro n
  induction n with
  | zero => intro t Y c _ h; exact ⟨h, fun j _ _ => by omega⟩
  | succ n ih =>
    intro t Y c hc h
    rw [m_chg] at h
    obtain ⟨i1, i2⟩ := ih (t + 1) (f_r4 t Y) _ (by split; exact Or.inr rfl; split; exact Or.inr rfl; exact Or.inl rfl) h
    have c0 : c = 0 := by
      by_cases g : c = 0
      · exact g
      · rw [if_pos g] at i1; exact absurd i1 (by decide)
    rw [if_neg (fun q => q c0)] at i1
    have y0 : Y 177 t = Y 178 t := by
      by_cases g : Y 177 t = Y 178 t
      · exact g
      · rw [if_pos g] at i1; exact absurd i1 (by decide)
    refine ⟨c0, fun j h1 h2 => ?_⟩
    by_cases g : j = t
    · subst g; exact y0
    · have := i2 j (by omega) (by omega)
      unfold f_r4 at this
      rw [mj_up_at, if_neg g, mj_up_ne (show (178 : Nat) ≠ 177 by decide)] at this
      exact this
theorem m_chg_1 : ∀ (n t : Nat) (Y : mj_M) (c : Int), (c = 0 ∨ c = 1) → c = 0 → (∀ j, t ≤ j → j < t + n → Y 177 j = Y 178 j) → m_chg n t Y c = 0 := by
  intro n
  induction n with
  | zero => intro t Y c _ h _; exact h
  | succ n ih =>
    intro t Y c hc h hj
    rw [m_chg, if_neg (fun q => q h), if_neg (fun q => q (hj t (by omega) (by omega)))]
    refine ih (t + 1) _ 0 (Or.inl rfl) rfl (fun j h1 h2 => ?_)
    unfold f_r4
    rw [mj_up_at, if_neg (by omega), mj_up_ne (show (178 : Nat) ≠ 177 by decide)]
    exact hj j (by omega) (by omega)
/-- a round on both sides -/
theorem z_go (h : z_Rl 8 M V) (hh : z_hh M N) : z_hh (q_goM M) (m_goM V N) ∧ q_goR M = m_goR V N ∧ (∀ b, (b < 153 ∨ 156 < b) → q_goM M b = M b) := by
  have g := z_go0 h hh
  obtain ⟨q1, q2⟩ := q_goM_at (M := M)
  obtain ⟨r1, r2⟩ := m_goM_at (V := V) (N := N)
  refine ⟨fun j hj => ?_, ?_, fun b hb => by rw [q1 b (by omega), q_go0_fr (by omega) (by omega) (by omega)]⟩
  · rw [q2 j hj, r2 j hj]; exact ⟨(g j hj).1, (g j hj).2.1⟩
  · unfold q_goR m_goR
    refine z_chg 1600 0 _ _ 0 (fun j _ hj => ?_) (Or.inl rfl)
    rw [q_go0_fr (show (153 : Nat) ≠ 154 by decide) (by decide) (by decide), m_g0_fr (show (177 : Nat) ≠ 178 by decide), (g j (by omega)).1, (hh j (by omega)).1]
/-- how many rights there are -/
def q_pb (v : Int) : Int := (if mj_and v 1 ≠ 0 then 1 else 0) + (if mj_and v 2 ≠ 0 then 1 else 0) + (if mj_and v 4 ≠ 0 then 1 else 0) + (if mj_and v 8 ≠ 0 then 1 else 0)
theorem q_pb_r {v : Int} : 0 ≤ q_pb v ∧ q_pb v ≤ 4 := by
  unfold q_pb
  split <;> split <;> split <;> split <;> omega
theorem q_pb_m {u v : Int} (hu : q_r4 u) (hv : q_r4 v) (h : ∀ k, mj_and u k ≠ 0 → mj_and v k ≠ 0) : q_pb u ≤ q_pb v ∧ (u ≠ v → q_pb u + 1 ≤ q_pb v) := by
  have b : ∀ k : Int, (if mj_and u k ≠ 0 then (1 : Int) else 0) ≤ (if mj_and v k ≠ 0 then 1 else 0) := fun k => by
    by_cases c : mj_and u k ≠ 0
    · rw [if_pos c, if_pos (h k c)]; omega
    · rw [if_neg c]; split <;> omega
  have e : ∀ k : Int, (if mj_and u k ≠ 0 then (1 : Int) else 0) = (if mj_and v k ≠ 0 then 1 else 0) → (mj_and u k ≠ 0 ↔ mj_and v k ≠ 0) := fun k q => by
    by_cases c : mj_and u k ≠ 0
    · exact ⟨h k, fun _ => c⟩
    · rw [if_neg c] at q
      by_cases c2 : mj_and v k ≠ 0
      · rw [if_pos c2] at q; omega
      · exact ⟨fun g => absurd g c, fun g => absurd g c2⟩
  have b1 := b 1
  have b2 := b 2
  have b4 := b 4
  have b8 := b 8
  unfold q_pb
  refine ⟨by omega, fun hne => ?_⟩
  by_cases c : (if mj_and u 1 ≠ 0 then (1 : Int) else 0) = (if mj_and v 1 ≠ 0 then 1 else 0) ∧ (if mj_and u 2 ≠ 0 then (1 : Int) else 0) = (if mj_and v 2 ≠ 0 then 1 else 0) ∧ (if mj_and u 4 ≠ 0 then (1 : Int) else 0) = (if mj_and v 4 ≠ 0 then 1 else 0) ∧ (if mj_and u 8 ≠ 0 then (1 : Int) else 0) = (if mj_and v 8 ≠ 0 then 1 else 0)
  · exfalso
    apply hne
    refine q_eq_b hu hv (fun k hk => ?_)
    rcases hk with q | q | q | q
    · rw [q]; exact e 1 c.1
    · rw [q]; exact e 2 c.2.1
    · rw [q]; exact e 4 c.2.2.1
    · rw [q]; exact e 8 c.2.2.2
  · omega
theorem q_sum_up {f g : Nat → Int} : ∀ (n t : Nat), (∀ k, t ≤ k → k < t + n → f k ≤ g k) → q_sum f n t ≤ q_sum g n t ∧ ((∃ k, t ≤ k ∧ k < t + n ∧ f k + 1 ≤ g k) → q_sum f n t + 1 ≤ q_sum g n t) := by
  intro n
  induction n with
  | zero => intro t _; exact ⟨Int.le_refl _, fun ⟨k, _, _, _⟩ => by omega⟩
  | succ n ih =>
    intro t h
    obtain ⟨i1, i2⟩ := ih (t + 1) (fun k h1 h2 => h k (by omega) (by omega))
    have h0 := h t (by omega) (by omega)
    simp only [q_sum]
    refine ⟨by omega, fun ⟨k, h1, h2, h3⟩ => ?_⟩
    by_cases c : k = t
    · subst c; omega
    · have := i2 ⟨k, by omega, by omega, h3⟩; omega
theorem q_sum_4 {f : Nat → Int} (h : ∀ k, f k ≤ 4) : ∀ (n t : Nat), q_sum f n t ≤ 4 * n := by
  intro n
  induction n with
  | zero => intro t; simp [q_sum]
  | succ n ih => intro t; have := ih (t + 1); have := h t; simp only [q_sum]; push_cast; omega
theorem z_ends : ∀ (n : Nat) (M N : mj_M), z_Rl 8 M V → z_hh M N → 6400 < q_sum (fun j => q_pb (N 177 j)) 1600 0 + n → m_end V n N := by
  intro n
  induction n with
  | zero =>
    intro M N _ _ h3
    have := q_sum_4 (f := fun j => q_pb (N 177 j)) (fun k => (q_pb_r).2) 1600 0
    omega
  | succ n ih =>
    intro M N h hh h3
    rcases m_goR_01 (V := V) (M := N) with c | c
    · exact Or.inl c
    · right
      obtain ⟨g1, g2, g3⟩ := z_go h hh
      have g := z_go0 h hh
      obtain ⟨r1, r2⟩ := m_goM_at (V := V) (N := N)
      have hR : z_Rl 8 (q_goM M) V := by
        have h0 := h.2.2.2
        exact z_Rl_pt h (fun a i q => by rw [g3 a (by unfold q_in at q; omega)]) (by rw [g3 130 (by omega)]; exact h0) (fun k hk => by rw [g3 131 (by omega)]; exact h.2.1.2 h0 k hk)
      refine ih (q_goM M) (m_goM V N) hR g1 ?_
      have up := q_sum_up (f := fun j => q_pb (N 177 j)) (g := fun j => q_pb (m_goM V N 177 j)) 1600 0 (fun j _ hj => by
        show q_pb (N 177 j) ≤ q_pb (m_goM V N 177 j)
        rw [r2 j (by omega), ← (g j (by omega)).1]
        exact (q_pb_m (by rw [← (hh j (by omega)).1]; exact (hh j (by omega)).2) (g j (by omega)).2.1 (g j (by omega)).2.2).1)
      have ex : ∃ k, 0 ≤ k ∧ k < 0 + 1600 ∧ q_pb (N 177 k) + 1 ≤ q_pb (m_goM V N 177 k) := by
        by_cases e : ∃ j, j < 1600 ∧ N 177 j ≠ m_g0 V N 178 j
        · obtain ⟨j, hj, hne⟩ := e
          refine ⟨j, by omega, by omega, ?_⟩
          rw [r2 j hj, ← (g j hj).1]
          exact (q_pb_m (by rw [← (hh j hj).1]; exact (hh j hj).2) (g j hj).2.1 (g j hj).2.2).2 (by rw [(g j hj).1]; exact hne)
        · exfalso
          have : m_goR V N = 0 := m_chg_1 1600 0 (m_g0 V N) 0 (Or.inl rfl) rfl (fun j _ hj => by
            rw [m_g0_fr (show (177 : Nat) ≠ 178 by decide)]
            by_cases c2 : N 177 j = m_g0 V N 178 j
            · exact c2
            · exact absurd ⟨j, by omega, c2⟩ e)
          omega
      have := up.2 ex
      push_cast at h3 ⊢
      omega
theorem q_sum_0 {f : Nat → Int} (h : ∀ k, 0 ≤ f k) : ∀ (n t : Nat), 0 ≤ q_sum f n t := by
  intro n
  induction n with
  | zero => intro t; simp [q_sum]
  | succ n ih => intro t; have := ih (t + 1); have := h t; simp only [q_sum]; omega
theorem z_end (h : z_Rl 8 M V) (hh : z_hh M N) : m_end V 6401 N := by
  have := q_sum_0 (f := fun j => q_pb (N 177 j)) (fun k => (q_pb_r).1) 1600 0
  exact z_ends 6401 M N h hh (by omega)
end rea5
