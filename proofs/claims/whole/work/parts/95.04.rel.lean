section re4
variable {A B C V W : mj_M}
/-- tokens on both sides -/
def z_T (A V : mj_M) : Prop := ∀ t : Nat, t < 120 → (A 3 t = -1 ∧ V 212 t = 0) ∨ (A 3 t ≠ -1 ∧ V 212 t = 1 ∧ V 3 t = A 3 t ∧ V 4 t = A 4 t ∧ V 5 t = A 5 t ∧ V 6 t = A 6 t ∧ V 7 t = A 7 t ∧ V 8 t = A 8 t ∧ V 9 t = A 9 t ∧ V 10 t = A 10 t ∧ V 11 t = A 11 t ∧ V 12 t = A 12 t)
def z_S (A W : mj_M) (u : Int) : Int := q_sum (fun t => if z_d A t = 1 ∧ W 212 t = 1 ∧ z_n A (A 7 t) = u then W 6 t else 0) 120 0
def z_J (A V W : mj_M) : Prop :=
  (∀ a, a ≠ 15 → a ≠ 42 → a ≠ 212 → a ≠ 6 → a ≠ 1 → W a = V a) ∧ (∀ j, j ≠ 8 → W 1 j = V 1 j) ∧ m_u01 W ∧ m_lu W ∧ q_wr W ∧
  (∀ k : Nat, k < 120 → (z_d A k = 0 → W 212 k = V 212 k) ∧ (W 212 k ≠ 0 → V 212 k ≠ 0)) ∧
  (∀ u : Nat, u < 120 → V 212 u = 1 → mj_w (W 6 u) = W 6 u) ∧
  (∀ u : Nat, u < 120 → V 212 u = 1 → z_d A u = 0 → mj_w (W 6 u + z_S A W u) = mj_w (V 6 u + z_S A V u)) ∧ mj_w (W 1 8) = W 1 8 ∧ mj_w (W 1 8 + z_S A W (-1)) = mj_w (V 1 8 + z_S A V (-1)) ∧
  (∀ i : Nat, i < 400 → (z_gone A (V 42 i) ∧ W 212 (V 42 i).toNat = 0 → W 42 i = -1) ∧ (¬ (z_gone A (V 42 i) ∧ W 212 (V 42 i).toNat = 0) → W 42 i = V 42 i)) ∧
  (∀ y : Nat, y < 40 → V 210 y = 1 → (z_gone A (V 15 y) ∧ W 212 (V 15 y).toNat = 0 → W 15 y = -1) ∧ (¬ (z_gone A (V 15 y) ∧ W 212 (V 15 y).toNat = 0) → W 15 y = V 15 y))
theorem z_S_step {ρ : Nat → Nat} (w : q_wr A) (hl : z_lt A) (ha : z_acy ρ A) {t : Nat} (ht : t < 120) (hth : A 3 t ≠ -1) (hd : z_d A t = 1) (hu : W 212 t = 1) (h7 : W 7 t = A 7 t)
    (hlu : A 7 t ≠ -1 → W 212 (A 7 t).toNat = 1) (u : Int) :
    z_S A (m_go2 W (t : Int)) u = z_S A W u - (if z_n A (A 7 t) = u then (if A 7 t ≠ -1 ∧ z_d A (A 7 t).toNat = 1 then W 6 t + W 6 (A 7 t).toNat - mj_w (W 6 (A 7 t).toNat + W 6 t) else W 6 t) else 0) := by
  obtain ⟨-, -, g3, -, -, g6, -⟩ := z_go2 (W := W) (t := (t : Int))
  simp only [Int.toNat_natCast, h7] at g3 g6
  have htn := z_tn_k w hl ht hth
  have s1 : q_sum (fun j => if z_d A j = 1 ∧ m_go2 W (t : Int) 212 j = 1 ∧ z_n A (A 7 j) = u then (if j = (A 7 t).toNat then W 6 j else m_go2 W (t : Int) 6 j) else 0) 120 0 = z_S A W u - (if z_n A (A 7 t) = u then W 6 t else 0) := by
    unfold z_S
    rw [q_sum_upd (f := fun j => if z_d A j = 1 ∧ m_go2 W (t : Int) 212 j = 1 ∧ z_n A (A 7 j) = u then (if j = (A 7 t).toNat then W 6 j else m_go2 W (t : Int) 6 j) else 0) (g := fun j => if z_d A j = 1 ∧ W 212 j = 1 ∧ z_n A (A 7 j) = u then W 6 j else 0) t 120 0 (by omega) (by omega) (fun k _ _ hk => by
      rw [g3, if_neg hk, g6]
      by_cases e : k = (A 7 t).toNat
      · rw [if_pos e]
      · have n1 : ¬ (A 7 t ≠ -1 ∧ k = (A 7 t).toNat) := fun q => e q.2
        rw [if_neg e, if_neg n1])]
    rw [g3, if_pos rfl, if_neg (fun q => by omega)]
    by_cases c : z_n A (A 7 t) = u
    · rw [if_pos ⟨hd, hu, c⟩, if_pos c]; omega
    · rw [if_neg (fun q => c q.2.2), if_neg c]; omega
  rcases htn with e | ⟨e1, e2, e3⟩
  · have e4 : z_S A (m_go2 W (t : Int)) u = q_sum (fun j => if z_d A j = 1 ∧ m_go2 W (t : Int) 212 j = 1 ∧ z_n A (A 7 j) = u then (if j = (A 7 t).toNat then W 6 j else m_go2 W (t : Int) 6 j) else 0) 120 0 := by
      unfold z_S
      refine q_sum_ext 120 0 (fun k _ _ => ?_)
      have n1 : ¬ (A 7 t ≠ -1 ∧ k = (A 7 t).toNat) := fun q => q.1 e
      rw [g6, if_neg n1]
      split
      · split <;> rfl
      · rfl
    have hng : ¬ (A 7 t ≠ -1 ∧ z_d A (A 7 t).toNat = 1) := fun q => q.1 e
    rw [e4, s1, if_neg hng]
  · have hne : A 7 t ≠ -1 := by omega
    have hlne : (A 7 t).toNat ≠ t := by
      have := ha.2 t ht hth hne
      intro q; rw [q] at this; omega
    have hneq := z_n_eq w hl ha (u := A 7 t) ⟨e1, e2, e3⟩
    have hl1 := hlu hne
    have e4 : z_S A (m_go2 W (t : Int)) u = q_sum (fun j => if z_d A j = 1 ∧ m_go2 W (t : Int) 212 j = 1 ∧ z_n A (A 7 j) = u then (if j = (A 7 t).toNat then W 6 j else m_go2 W (t : Int) 6 j) else 0) 120 0 + (if z_d A (A 7 t).toNat = 1 ∧ z_n A (A 7 t) = u then mj_w (W 6 (A 7 t).toNat + W 6 t) - W 6 (A 7 t).toNat else 0) := by
      unfold z_S
      rw [q_sum_upd (f := fun j => if z_d A j = 1 ∧ m_go2 W (t : Int) 212 j = 1 ∧ z_n A (A 7 j) = u then m_go2 W (t : Int) 6 j else 0) (g := fun j => if z_d A j = 1 ∧ m_go2 W (t : Int) 212 j = 1 ∧ z_n A (A 7 j) = u then (if j = (A 7 t).toNat then W 6 j else m_go2 W (t : Int) 6 j) else 0) (A 7 t).toNat 120 0 (by omega) (by omega) (fun k _ _ hk => by
        rw [if_neg hk])]
      simp only [if_true]
      have n2 : A 7 t ≠ -1 ∧ (A 7 t).toNat = (A 7 t).toNat := ⟨hne, rfl⟩
      rw [g3, if_neg hlne, g6, if_pos n2]
      congr 1
      by_cases c : z_d A (A 7 t).toNat = 1
      · rw [if_pos c] at hneq
        rw [← hneq]
        by_cases c2 : z_n A (A 7 t) = u
        · have p1 : z_d A (A 7 t).toNat = 1 ∧ W 212 (A 7 t).toNat = 1 ∧ z_n A (A 7 t) = u := ⟨c, hl1, c2⟩
          have p2 : z_d A (A 7 t).toNat = 1 ∧ z_n A (A 7 t) = u := ⟨c, c2⟩
          simp only [p1, p2, and_self, if_true]
        · have p1 : ¬ (z_d A (A 7 t).toNat = 1 ∧ W 212 (A 7 t).toNat = 1 ∧ z_n A (A 7 t) = u) := fun q => c2 q.2.2
          have p2 : ¬ (z_d A (A 7 t).toNat = 1 ∧ z_n A (A 7 t) = u) := fun q => c2 q.2
          rw [if_neg p1, if_neg p1, if_neg p2]; rfl
      · have p1 : ¬ (z_d A (A 7 t).toNat = 1 ∧ W 212 (A 7 t).toNat = 1 ∧ z_n A (A 7 (A 7 t).toNat) = u) := fun q => c q.1
        have p2 : ¬ (z_d A (A 7 t).toNat = 1 ∧ z_n A (A 7 t) = u) := fun q => c q.1
        rw [if_neg p1, if_neg p1, if_neg p2]; rfl
    rw [e4, s1]
    by_cases c2 : z_n A (A 7 t) = u
    · rw [if_pos c2, if_pos c2]
      by_cases c : z_d A (A 7 t).toNat = 1
      · rw [if_pos ⟨c, c2⟩, if_pos ⟨hne, c⟩]; omega
      · rw [if_neg (fun q => c q.1), if_neg (fun q => c q.2)]; omega
    · rw [if_neg c2, if_neg c2, if_neg (fun q => c2 q.2)]; omega
theorem z_J_step (h : z_pre A) (hT : z_T A V) (htb : z_tb A) (h42 : ∀ i : Nat, i < 400 → V 42 i = A 42 i) {t : Int} (hJ : z_J A V W) (ht : 0 ≤ t ∧ t < 120) (hd : z_d A t.toNat = 1) (hu : W 212 t.toNat = 1)
    (hleaf : ∀ k : Nat, k < 120 → W 212 k = 1 → W 7 k ≠ t) : z_J A V (m_go2 W t) := by
  obtain ⟨w, hl, hm, ρ, ha⟩ := h
  obtain ⟨j1, j2, j3, j4, j5, j6, j7, j8, j9, j10, j11, j12⟩ := hJ
  obtain ⟨g1, g2, g3, g4, g5, g6, g7⟩ := z_go2 (W := W) (t := t)
  have hV1 : V 212 t.toNat = 1 := by
    have := (j6 t.toNat (by omega)).2 (by omega)
    have := hT t.toNat (by omega)
    omega
  have hTt := hT t.toNat (by omega)
  have hth : A 3 t.toNat ≠ -1 := by omega
  have v7 : W 7 t.toNat = A 7 t.toNat := by rw [j1 7 (by omega) (by omega) (by omega) (by omega) (by omega)]; omega
  have v8 : W 8 t.toNat = A 8 t.toNat := by rw [j1 8 (by omega) (by omega) (by omega) (by omega) (by omega)]; omega
  have v9 : W 9 t.toNat = A 9 t.toNat := by rw [j1 9 (by omega) (by omega) (by omega) (by omega) (by omega)]; omega
  have htc : ((t.toNat : Nat) : Int) = t := by omega
  have hlu : A 7 t.toNat ≠ -1 → W 212 (A 7 t.toNat).toNat = 1 := by
    intro q
    have h1 := j4 t.toNat (by omega) (by omega) (by rw [v7]; exact q)
    rw [v7] at h1
    have h7 := q_w7 (i := t.toNat) w (by omega)
    have := j3 (A 7 t.toNat).toNat (by omega)
    omega
  have hS := fun u => z_S_step (W := W) w hl ha (t := t.toNat) (by omega) hth hd hu v7 hlu u
  rw [htc] at hS
  have htn := z_tn_k w hl (k := t.toNat) (by omega) hth
  rw [v7] at g6 g7
  rw [v8, v9] at g4
  refine ⟨?_, ?_, m_go2_u01 j3, ?_, m_go2_w j5, ?_, ?_, ?_, ?_, ?_, ?_, ?_⟩
  · intro a h1 h2 h3 h4 h5; rw [g1 a h1 h2 h3 h4 h5]; exact j1 a h1 h2 h3 h4 h5
  · intro j hj; rw [g2 j hj]; exact j2 j hj
  · intro k hk h2 h3
    rw [m_go2_7] at h3 ⊢
    rw [g3] at h2 ⊢
    by_cases e : k = t.toNat
    · rw [if_pos e] at h2; omega
    · rw [if_neg e] at h2
      have h4 := j4 k hk h2 h3
      have h5 := hleaf k hk (by have := j3 k hk; omega)
      have h7 := q_w7 (i := k) j5 hk
      rw [if_neg (by omega)]
      exact h4
  · intro k hk
    rw [g3]
    refine ⟨fun q => ?_, fun q => ?_⟩
    · rw [if_neg (fun e => by rw [e] at q; omega)]; exact (j6 k hk).1 q
    · by_cases e : k = t.toNat
      · rw [if_pos e] at q; omega
      · rw [if_neg e] at q; exact (j6 k hk).2 q
  · intro u hu2 hu3
    rw [g6]
    split
    · exact mj_w_w
    · exact j7 u hu2 hu3
  · intro u hu2 hu3 hu4
    rw [g6, hS]
    rcases htn with e | ⟨e1, e2, e3⟩
    · have e4 : z_n A (A 7 t.toNat) = -1 := by rw [e]; exact z_n_m1
      rw [if_neg (fun q => q.1 e), if_neg (by omega), Int.sub_zero]
      exact j8 u hu2 hu3 hu4
    · have hneq := z_n_eq w hl ha (u := A 7 t.toNat) ⟨e1, e2, e3⟩
      by_cases c : z_d A (A 7 t.toNat).toNat = 1
      · rw [if_neg (fun q => by rw [← q.2] at c; omega)]
        by_cases c2 : z_n A (A 7 t.toNat) = u
        · rw [if_pos c2, if_pos ⟨by omega, c⟩, ← j8 u hu2 hu3 hu4]
          rw [show W 6 u + (z_S A W ↑u - (W 6 t.toNat + W 6 (A 7 t.toNat).toNat - mj_w (W 6 (A 7 t.toNat).toNat + W 6 t.toNat))) = (W 6 u + z_S A W ↑u - W 6 t.toNat - W 6 (A 7 t.toNat).toNat) + mj_w (W 6 (A 7 t.toNat).toNat + W 6 t.toNat) by omega, mj_w_add2]
          congr 1; omega
        · rw [if_neg c2, Int.sub_zero]; exact j8 u hu2 hu3 hu4
      · rw [if_neg c] at hneq
        by_cases c2 : z_n A (A 7 t.toNat) = u
        · rw [if_pos ⟨by omega, by omega⟩, if_pos c2, if_neg (fun q => c q.2), ← j8 u hu2 hu3 hu4, mj_w_add]
          congr 1; omega
        · rw [if_neg (fun q => by omega), if_neg c2, Int.sub_zero]; exact j8 u hu2 hu3 hu4
  · rw [g7]
    split
    · exact mj_w_w
    · exact j9
  · rw [g7, hS]
    rcases htn with e | ⟨e1, e2, e3⟩
    · have e4 : z_n A (A 7 t.toNat) = -1 := by rw [e]; exact z_n_m1
      rw [if_pos e, if_pos e4, if_neg (fun q => q.1 e), ← j10, mj_w_add]
      congr 1; omega
    · have hneq := z_n_eq w hl ha (u := A 7 t.toNat) ⟨e1, e2, e3⟩
      rw [if_neg (by omega)]
      by_cases c2 : z_n A (A 7 t.toNat) = -1
      · have c : z_d A (A 7 t.toNat).toNat = 1 := by
          by_cases c : z_d A (A 7 t.toNat).toNat = 1
          · exact c
          · rw [if_neg c] at hneq; omega
        rw [if_pos c2, if_pos ⟨by omega, c⟩, ← j10]
        rw [show W 1 8 + (z_S A W (-1) - (W 6 t.toNat + W 6 (A 7 t.toNat).toNat - mj_w (W 6 (A 7 t.toNat).toNat + W 6 t.toNat))) = (W 1 8 + z_S A W (-1) - W 6 t.toNat - W 6 (A 7 t.toNat).toNat) + mj_w (W 6 (A 7 t.toNat).toNat + W 6 t.toNat) by omega, mj_w_add2]
        congr 1; omega
      · rw [if_neg c2, Int.sub_zero]; exact j10
  · intro i hi
    rw [g4, g3]
    have hcell := htb.1 t.toNat (by omega) hth
    have ji := j11 i hi
    have hv := h42 i hi
    by_cases e : i = (10 * A 8 t.toNat + A 9 t.toNat).toNat
    · rw [if_pos e]
      rw [← e] at hcell
      have e5 : V 42 i = t := by omega
      refine ⟨fun _ => rfl, fun q => ?_⟩
      exfalso; apply q
      rw [e5, if_pos rfl]
      exact ⟨⟨by omega, hd⟩, rfl⟩
    · rw [if_neg e]
      by_cases e2 : V 42 i = -1
      · refine ⟨fun q => absurd e2 q.1.1, fun q => ji.2 (fun q2 => absurd e2 q2.1.1)⟩
      · have h6 := htb.2 i hi (by omega)
        have hne : (V 42 i).toNat ≠ t.toNat := by
          intro q
          rw [hv] at q
          have := h6.2
          rw [q] at this
          exact e this.symm
        rw [if_neg hne]
        exact ji
  · intro y hy hy2
    rw [g5 y hy, g3, j1 210 (by omega) (by omega) (by omega) (by omega) (by omega)]
    have jy := j12 y hy hy2
    have h15 := q_w15 (i := y) j5 hy
    by_cases e2 : V 15 y = -1
    · have e3 : W 15 y = V 15 y := jy.2 (fun q => absurd e2 q.1.1)
      have n1 : ¬ (V 210 y = 1 ∧ W 15 y = t) := fun q => by omega
      rw [if_neg n1]
      exact ⟨fun q => absurd e2 q.1.1, fun q => e3⟩
    · by_cases e : (V 15 y).toNat = t.toNat
      · by_cases e4 : V 15 y = t
        · have e3 : W 15 y = V 15 y := jy.2 (fun q => by have := q.2; rw [e] at this; omega)
          have n1 : V 210 y = 1 ∧ W 15 y = t := ⟨hy2, by omega⟩
          rw [if_pos n1]
          refine ⟨fun _ => rfl, fun q => ?_⟩
          exfalso; apply q
          rw [if_pos e]
          exact ⟨⟨e2, by rw [e]; exact hd⟩, rfl⟩
        · exfalso
          by_cases g : z_gone A (V 15 y) ∧ W 212 (V 15 y).toNat = 0
          · have := g.2; rw [e] at this; omega
          · have := jy.2 g; omega
      · rw [if_neg e]
        have hne : ¬ (V 210 y = 1 ∧ W 15 y = t) := by
          rintro ⟨-, q⟩
          by_cases g : z_gone A (V 15 y) ∧ W 212 (V 15 y).toNat = 0
          · rw [jy.1 g] at q; omega
          · rw [jy.2 g] at q; exact e (by rw [q])
        rw [if_neg hne]
        exact jy
end re4
