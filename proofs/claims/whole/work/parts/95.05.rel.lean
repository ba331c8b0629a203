section re5
variable {A B C V W : mj_M}
def z_Mk (A V : mj_M) : Prop := ∀ t : Nat, t < 120 → A 3 t ≠ -1 → (A 131 t ≠ 0 ↔ V 131 t = 1)
theorem z_J_0 (hT : z_T A V) (hr : z_rm A) (hok : m_ok V) (hp : A 1 8 = V 1 8) (h42 : ∀ i : Nat, i < 400 → V 42 i = A 42 i) (w : q_wr A) (h15 : ∀ y : Nat, y < 40 → V 210 y = 1 → V 15 y = A 15 y) : z_J A V V := by
  have hg : ∀ v : Int, -1 ≤ v ∧ v < 120 → ¬ (z_gone A v ∧ V 212 v.toNat = 0) := by
    intro v hv q
    obtain ⟨⟨q1, q2⟩, q3⟩ := q
    have := hT v.toNat (by omega)
    unfold z_d at q2
    split at q2
    · rename_i h; omega
    · omega
  refine ⟨fun _ _ _ _ _ _ => rfl, fun _ _ => rfl, hok.2.1, hok.2.2.1, hok.1, fun k _ => ⟨fun _ => rfl, fun h => h⟩, ?_, fun _ _ _ _ => rfl, by rw [← hp]; exact hr.2, rfl, ?_, ?_⟩
  · intro u hu h
    have := hT u hu
    have h6 : V 6 u = A 6 u := by omega
    rw [h6]
    exact hr.1 u hu (by omega)
  · intro i hi
    have h := hg (V 42 i) (by rw [h42 i hi]; exact q_w42 (i := i) w hi)
    exact ⟨fun q => absurd q h, fun _ => rfl⟩
  · intro y hy hy2
    have h := hg (V 15 y) (by rw [h15 y hy hy2]; exact q_w15 (i := y) w hy)
    exact ⟨fun q => absurd q h, fun _ => rfl⟩
theorem z_swT (h : z_pre A) (hT : z_T A V) (htb : z_tb A) (h42 : ∀ i : Nat, i < 400 → V 42 i = A 42 i) (hmk : z_Mk A V) (hok : m_ok V) (hJ0 : z_J A V V) :
    z_J A V (q_for f_swT 120 0 V) ∧ ∀ t : Nat, t < 120 → z_d A t = 1 → q_for f_swT 120 0 V 212 t = 0 := by
  have hpre := h
  obtain ⟨w, hl, hm, ρ, ha⟩ := h
  obtain ⟨-, -, -, σ, s1, s2⟩ := hok
  have key := q_for_inv (N := 120) (F := f_swT) (P := fun i W => z_J A V W ∧ m_acy σ W ∧ (∀ t : Nat, t < i → t < 120 → A 131 t ≠ 0 → W 212 t = 0))
    (by
      intro i W hi hW
      obtain ⟨hJ, hac, hdone⟩ := hW
      have j131 := hJ.1 131 (by omega) (by omega) (by omega) (by omega) (by omega)
      have j7 := hJ.1 7 (by omega) (by omega) (by omega) (by omega) (by omega)
      unfold f_swT
      split
      · rename_i hc
        have hV : V 212 i ≠ 0 := (hJ.2.2.2.2.2.1 i hi).2 (by omega)
        have hTi := hT i hi
        have hth : A 3 i ≠ -1 := by omega
        have h131 : A 131 i ≠ 0 := (hmk i hi hth).mpr (by rw [← j131]; exact hc.2)
        have hd : z_d A i = 1 := by unfold z_d; rw [if_pos ⟨hth, Or.inl h131⟩]
        have res := m_goes_leafE (P := z_J A V) (E := fun t => 0 ≤ t ∧ t < 120 ∧ z_d A t.toNat = 1) (ρ := σ)
          (by
            intro W t k hJW hE hk h1 h2
            refine ⟨by omega, by omega, ?_⟩
            simp only [Int.toNat_natCast]
            have hVk : V 212 k ≠ 0 := (hJW.2.2.2.2.2.1 k hk).2 (by omega)
            have hTk := hT k hk
            have e7 : W 7 k = V 7 k := by rw [hJW.1 7 (by omega) (by omega) (by omega) (by omega) (by omega)]
            have e8 : A 7 k = t := by omega
            exact z_d_down w hl ha hk (by omega) (by omega) (by rw [e8]; exact hE.2.2))
          (by
            intro W t hJW hE ht h1 hleaf
            exact z_J_step hpre hT htb h42 hJW ht hE.2.2 h1 hleaf)
          120 (i : Int) W hac hJ.2.2.1 hJ ⟨by omega, by omega, by simpa using hd⟩ (by omega) (by simpa using hc.1) (s1 _)
        obtain ⟨r1, r2, r3, r4⟩ := res
        have hls := m_goes_less 120 (i : Int) W
        refine ⟨r1, m_acy_less hac hls, ?_⟩
        intro t ht ht2 hm2
        by_cases e : t = i
        · subst e; simpa using r3
        · have h0 := hdone t (by omega) ht2 hm2
          by_cases q : m_goes 120 (i : Int) W 212 t = 0
          · exact q
          · exact absurd h0 (hls.2 t q)
      · rename_i hc
        refine ⟨hJ, hac, ?_⟩
        intro t ht ht2 hm2
        by_cases e : t = i
        · subst e
          have h131 : W 131 t = 1 := by rw [j131]; exact (hmk t ht2 (hm t ht2 hm2)).mp hm2
          have := hJ.2.2.1 t ht2
          rcases this with q | q
          · exact q
          · exact absurd ⟨q, h131⟩ hc
        · exact hdone t (by omega) ht2 hm2)
    120 0 V rfl ⟨hJ0, s2, fun t ht => by omega⟩
  obtain ⟨k1, -, k3⟩ := key
  refine ⟨k1, ?_⟩
  have all : ∀ (n : Nat) (t : Nat), t < 120 → 120 ≤ n + ρ t → z_d A t = 1 → q_for f_swT 120 0 V 212 t = 0 := by
    intro n
    induction n with
    | zero => intro t _ h; have := ha.1 t; omega
    | succ n ih =>
      intro t ht hn hd
      obtain ⟨h3, h4⟩ := z_d_up w hl ha ht hd
      rcases h4 with h4 | ⟨h5, h6⟩
      · exact k3 t ht ht h4
      · have h7 := q_w7 (i := t) w ht
        have h8 := ha.2 t ht h3 h5
        have h9 := ih (A 7 t).toNat (by omega) (by omega) h6
        by_cases q : q_for f_swT 120 0 V 212 t = 0
        · exact q
        · exfalso
          have e7 : q_for f_swT 120 0 V 7 t = A 7 t := by
            rw [k1.1 7 (by omega) (by omega) (by omega) (by omega) (by omega)]
            have := hT t ht; omega
          have := k1.2.2.2.1 t ht q (by rw [e7]; exact h5)
          rw [e7] at this
          exact this h9
  exact fun t ht hd => all 120 t ht (by omega) hd
/-- one pass over tokens, on both sides -/
def z_lo (A : mj_M) : mj_M := q_lts (q_gbr (q_mab A))
theorem z_pass1 (h : z_pre A) (hT : z_T A V) (htb : z_tb A) (hr : z_rm A) (h42 : ∀ i : Nat, i < 400 → V 42 i = A 42 i) (hmk : z_Mk A V) (hok : m_ok V) (hp : A 1 8 = V 1 8) (h15 : ∀ y : Nat, y < 40 → V 210 y = 1 → V 15 y = A 15 y) :
    z_T (z_lo A) (q_for f_swT 120 0 V) ∧ z_pre (z_lo A) ∧ z_tb (z_lo A) ∧ z_rm (z_lo A) ∧ (∀ i : Nat, i < 400 → q_for f_swT 120 0 V 42 i = z_lo A 42 i) ∧
    (∀ k : Nat, k < 120 → z_lo A 131 k = 0) ∧ z_lo A 130 2 = 0 ∧ z_lo A 1 8 = q_for f_swT 120 0 V 1 8 ∧ (∀ y : Nat, y < 40 → V 210 y = 1 → q_for f_swT 120 0 V 15 y = z_lo A 15 y) ∧
    (∀ a, a ≠ 3 → a ≠ 6 → a ≠ 15 → a ≠ 42 → a ≠ 130 → a ≠ 131 → a ≠ 1 → z_lo A a = A a) ∧ (∀ j, j ≠ 8 → z_lo A 1 j = A 1 j) ∧ (∀ j, j ≠ 2 → z_lo A 130 j = A 130 j) ∧
    (∀ a, a ≠ 15 → a ≠ 42 → a ≠ 212 → a ≠ 6 → a ≠ 1 → q_for f_swT 120 0 V a = V a) ∧ (∀ j, j ≠ 8 → q_for f_swT 120 0 V 1 j = V 1 j) ∧
    (∀ k : Nat, k < 120 → z_lo A 3 k = if z_d A k = 1 then -1 else A 3 k) ∧ (∀ k : Nat, k < 120 → z_lo A 3 k ≠ -1 → V 131 k ≠ 1) ∧
    (∀ y : Nat, y < 40 → (z_gone A (A 15 y) → z_lo A 15 y = -1) ∧ (¬ z_gone A (A 15 y) → z_lo A 15 y = A 15 y)) := by
  have hJ0 := z_J_0 hT hr hok hp h42 h.1 h15
  obtain ⟨hJ, hall⟩ := z_swT h hT htb h42 hmk hok hJ0
  have hpre := h
  obtain ⟨w, hl, hm, ρ, ha⟩ := h
  obtain ⟨m1, m2⟩ := z_mab w hl ha hm
  obtain ⟨g1, g2, g3, g4⟩ := z_gbr hpre hr
  have hB : ∀ a, a ≠ 6 → a ≠ 1 → a ≠ 131 → q_gbr (q_mab A) a = A a := fun a h1 h2 h3 => by rw [g1 a h1 h2, m1 a h3]
  have h131 : ∀ k : Nat, k < 120 → (q_gbr (q_mab A) 131 k ≠ 0 ↔ z_d A k = 1) := fun k hk => by rw [g1 131 (by omega) (by omega)]; exact m2 k hk
  obtain ⟨l1, l2, l3, l4, l5, l6, l7⟩ := z_lts hpre htb hB h131
  have hA : ∀ a, a ≠ 3 → a ≠ 6 → a ≠ 15 → a ≠ 42 → a ≠ 130 → a ≠ 131 → a ≠ 1 → z_lo A a = A a := fun a a1 a2 a3 a4 a5 a6 a7 => by
    unfold z_lo; rw [l1 a a1 a3 a4 a5 a6, hB a a2 a7 a6]
  have hA6 : z_lo A 6 = q_gbr (q_mab A) 6 := l1 6 (by omega) (by omega) (by omega) (by omega) (by omega)
  have hA1 : z_lo A 1 = q_gbr (q_mab A) 1 := l1 1 (by omega) (by omega) (by omega) (by omega) (by omega)
  have l3' : ∀ k : Nat, k < 120 → z_lo A 3 k = if z_d A k = 1 then -1 else A 3 k := l3
  obtain ⟨j1, j2, j3, j4, j5, j6, j7, j8, j9, j10, j11, j12⟩ := hJ
  have hS0 : ∀ u, z_S A (q_for f_swT 120 0 V) u = 0 := by
    intro u
    unfold z_S
    refine q_sum_zero 120 0 (fun k _ hk => ?_)
    rw [if_neg (fun q => by have := hall k (by omega) q.1; omega)]
  have hSV : ∀ u, z_S A V u = z_sm A u 120 := by
    intro u
    unfold z_S z_sm
    refine q_sum_ext 120 0 (fun k _ hk => ?_)
    have hTk := hT k (by omega)
    by_cases c : z_d A k = 1
    · have h3 := (z_d_up w hl ha (by omega) c).1
      have e1 : V 212 k = 1 := by omega
      have e6 : V 6 k = A 6 k := by omega
      by_cases c2 : z_n A (A 7 k) = u
      · rw [if_pos ⟨c, e1, c2⟩, if_pos ⟨c, c2⟩, e6]
      · rw [if_neg (fun q => c2 q.2.2), if_neg (fun q => c2 q.2)]
    · rw [if_neg (fun q => c q.1), if_neg (fun q => c q.1)]
  have hroom : ∀ u : Nat, u < 120 → A 3 u ≠ -1 → z_d A u = 0 → q_for f_swT 120 0 V 6 u = z_lo A 6 u := by
    intro u hu h3 hd
    have hTu := hT u hu
    have e1 : V 212 u = 1 := by omega
    have e6 : V 6 u = A 6 u := by omega
    have h8 := j8 u hu e1 hd
    rw [hS0, Int.add_zero, j7 u hu e1, hSV, e6] at h8
    rw [h8, hA6, g3 u hu h3 hd]
  have hdd : ∀ k : Nat, z_d A k = 0 ∨ z_d A k = 1 := fun k => z_d_01
  have hth3 : ∀ k : Nat, k < 120 → z_lo A 3 k ≠ -1 → A 3 k ≠ -1 ∧ z_d A k = 0 := by
    intro k hk hq
    rw [l3' k hk] at hq
    split at hq
    · exact absurd rfl hq
    · rename_i hc; exact ⟨hq, by have := hdd k; omega⟩
  refine ⟨?_, ⟨?_, ?_, ?_, ρ, ha.1, ?_⟩, ⟨?_, ?_⟩, ⟨?_, ?_⟩, ?_, l2, l6, ?_, ?_, hA, ?_, l7, j1, j2, l3', ?_, l5⟩
  · intro t ht
    have hTt := hT t ht
    have j6t := j6 t ht
    rw [l3' t ht]
    rcases hdd t with hd | hd
    · rw [if_neg (by omega), j6t.1 hd]
      rcases hTt with hq | hq
      · exact Or.inl hq
      · right
        have hrm := hroom t ht hq.1 hd
        rw [hrm]
        rw [j1 3 (by omega) (by omega) (by omega) (by omega) (by omega), j1 4 (by omega) (by omega) (by omega) (by omega) (by omega), j1 5 (by omega) (by omega) (by omega) (by omega) (by omega), j1 7 (by omega) (by omega) (by omega) (by omega) (by omega), j1 8 (by omega) (by omega) (by omega) (by omega) (by omega), j1 9 (by omega) (by omega) (by omega) (by omega) (by omega), j1 10 (by omega) (by omega) (by omega) (by omega) (by omega), j1 11 (by omega) (by omega) (by omega) (by omega) (by omega), j1 12 (by omega) (by omega) (by omega) (by omega) (by omega)]
        rw [hA 4 (by omega) (by omega) (by omega) (by omega) (by omega) (by omega) (by omega), hA 5 (by omega) (by omega) (by omega) (by omega) (by omega) (by omega) (by omega), hA 7 (by omega) (by omega) (by omega) (by omega) (by omega) (by omega) (by omega), hA 8 (by omega) (by omega) (by omega) (by omega) (by omega) (by omega) (by omega), hA 9 (by omega) (by omega) (by omega) (by omega) (by omega) (by omega) (by omega), hA 10 (by omega) (by omega) (by omega) (by omega) (by omega) (by omega) (by omega), hA 11 (by omega) (by omega) (by omega) (by omega) (by omega) (by omega) (by omega), hA 12 (by omega) (by omega) (by omega) (by omega) (by omega) (by omega) (by omega)]
        exact ⟨hq.1, hq.2.1, hq.2.2.1, hq.2.2.2.1, hq.2.2.2.2.1, rfl, hq.2.2.2.2.2.2.1, hq.2.2.2.2.2.2.2⟩
    · rw [if_pos hd]
      exact Or.inl ⟨rfl, hall t ht hd⟩
  · exact q_lts_w (q_gbr_w (q_mab_w w))
  · intro k hk hq h7
    obtain ⟨h3, hd⟩ := hth3 k hk hq
    rw [hA 7 (by omega) (by omega) (by omega) (by omega) (by omega) (by omega) (by omega)] at h7 ⊢
    have hb := q_w7 (i := k) w hk
    rw [l3' _ (by omega), if_neg (fun q => by have := z_d_down w hl ha hk h3 h7 q; omega)]
    exact hl k hk h3 h7
  · intro k hk hq; exact absurd (l2 k hk) hq
  · intro k hk hq h7
    obtain ⟨h3, hd⟩ := hth3 k hk hq
    rw [hA 7 (by omega) (by omega) (by omega) (by omega) (by omega) (by omega) (by omega)] at h7 ⊢
    exact ha.2 k hk h3 h7
  · intro t ht hq
    obtain ⟨h3, hd⟩ := hth3 t ht hq
    rw [hA 8 (by omega) (by omega) (by omega) (by omega) (by omega) (by omega) (by omega), hA 9 (by omega) (by omega) (by omega) (by omega) (by omega) (by omega) (by omega)]
    have h8 := q_w8 (i := t) w ht
    have h9 := q_w9 (i := t) w ht
    have hcell := htb.1 t ht h3
    have := (l4 (10 * A 8 t + A 9 t).toNat (by omega)).2 (by rw [hcell]; intro q; have := q.2; simp only [Int.toNat_natCast] at this; omega)
    unfold z_lo
    rw [this, hcell]
  · intro i hi hq
    have l4i := l4 i hi
    by_cases g : z_gone A (A 42 i)
    · exact absurd (l4i.1 g) hq
    · have e : z_lo A 42 i = A 42 i := l4i.2 g
      rw [e] at hq ⊢
      obtain ⟨t1, t2⟩ := htb.2 i hi hq
      have h42i := q_w42 (i := i) w hi
      rw [hA 8 (by omega) (by omega) (by omega) (by omega) (by omega) (by omega) (by omega), hA 9 (by omega) (by omega) (by omega) (by omega) (by omega) (by omega) (by omega)]
      refine ⟨?_, t2⟩
      rw [l3' _ (by omega), if_neg (fun q => g ⟨hq, q⟩)]
      exact t1
  · intro k hk hq
    obtain ⟨h3, hd⟩ := hth3 k hk hq
    rw [hA6, g3 k hk h3 hd]; exact mj_w_w
  · rw [hA1, g4]; exact mj_w_w
  · intro i hi
    have l4i := l4 i hi
    have j11i := j11 i hi
    have h42i := q_w42 (i := i) w hi
    rw [h42 i hi] at j11i
    by_cases g : z_gone A (A 42 i)
    · have e : z_lo A 42 i = -1 := l4i.1 g
      rw [e]; exact j11i.1 ⟨g, hall _ (by have := g.1; omega) g.2⟩
    · have e : z_lo A 42 i = A 42 i := l4i.2 g
      rw [e]; exact j11i.2 (fun q => g q.1)
  · rw [hA1, g4]
    rw [hS0, Int.add_zero, j9, hSV, ← hp] at j10
    exact j10.symm
  · intro y hy hy2
    have l5y := l5 y hy
    have j12y := j12 y hy hy2
    have h15y := q_w15 (i := y) w hy
    rw [h15 y hy hy2] at j12y
    by_cases g : z_gone A (A 15 y)
    · have e : z_lo A 15 y = -1 := l5y.1 g
      rw [e]; exact j12y.1 ⟨g, hall _ (by have := g.1; omega) g.2⟩
    · have e : z_lo A 15 y = A 15 y := l5y.2 g
      rw [e]; exact j12y.2 (fun q => g q.1)
  · intro j hj; rw [hA1]; exact g2 j hj
  · intro k hk hq h131k
    obtain ⟨h3, hd⟩ := hth3 k hk hq
    have := (hmk k hk h3).mpr h131k
    unfold z_d at hd
    rw [if_pos ⟨h3, Or.inl this⟩] at hd
    omega
end re5
