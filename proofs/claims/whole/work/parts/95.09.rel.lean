section re9
variable {A B C V W A' V' : mj_M} {e : Nat}
/-- a loop that changes one place of one row at a time -/
theorem q_for_pt {o : Nat} {F : Nat → mj_M → mj_M} {c : mj_M → Nat → Prop} {v : Int} (hF : ∀ t A, (c A t → F t A = mj_up A o t v) ∧ (¬ c A t → F t A = A))
    (hc : ∀ t A B, (∀ a, a ≠ o → B a = A a) → B o t = A o t → (c B t ↔ c A t)) : ∀ (n t : Nat) (A : mj_M), (∀ a, a ≠ o → q_for F n t A a = A a) ∧
      (∀ k, (t ≤ k ∧ k < t + n ∧ c A k → q_for F n t A o k = v) ∧ (¬ (t ≤ k ∧ k < t + n ∧ c A k) → q_for F n t A o k = A o k)) := by
  intro n
  induction n with
  | zero => intro t A; exact ⟨fun _ _ => rfl, fun k => ⟨fun q => by omega, fun _ => rfl⟩⟩
  | succ n ih =>
    intro t A
    rw [q_for]
    obtain ⟨h1, h2⟩ := ih (t + 1) (F t A)
    by_cases ct : c A t
    · have e := (hF t A).1 ct
      have o1 : ∀ a, a ≠ o → F t A a = A a := fun a ha => by rw [e, mj_up_ne ha]
      have o2 : ∀ k, k ≠ t → F t A o k = A o k := fun k hk => by rw [e, mj_up_at, if_neg hk]
      refine ⟨fun a ha => by rw [h1 a ha, o1 a ha], fun k => ?_⟩
      by_cases ek : k = t
      · subst ek
        have e3 : q_for F n (k + 1) (F k A) o k = F k A o k := (h2 k).2 (fun q => by omega)
        have e4 : F k A o k = v := by rw [e, mj_up_at, if_pos rfl]
        exact ⟨fun _ => by rw [e3, e4], fun q => absurd ⟨by omega, by omega, ct⟩ q⟩
      · have hck := hc k A (F t A) o1 (o2 k ek)
        refine ⟨fun q => (h2 k).1 ⟨by omega, by omega, hck.mpr q.2.2⟩, fun q => ?_⟩
        rw [(h2 k).2 (fun q2 => q ⟨by omega, by omega, hck.mp q2.2.2⟩), o2 k ek]
    · have e := (hF t A).2 ct
      rw [e] at h1 h2 ⊢
      refine ⟨h1, fun k => ?_⟩
      by_cases ek : k = t
      · subst ek
        exact ⟨fun q => absurd q.2.2 ct, fun _ => (h2 k).2 (fun q => by omega)⟩
      · exact ⟨fun q => (h2 k).1 ⟨by omega, by omega, q.2.2⟩, fun q => (h2 k).2 (fun q2 => q ⟨by omega, by omega, q2.2.2⟩)⟩
theorem z_52 {y : Int} : (∀ a, a ≠ 10 → q_for (f_52 y) 120 0 A a = A a) ∧ (∀ k : Nat, k < 120 → q_for (f_52 y) 120 0 A 10 k = if A 3 k ≠ -1 ∧ A 10 k = y then 40 else A 10 k) := by
  obtain ⟨h1, h2⟩ := q_for_pt (o := 10) (F := f_52 y) (c := fun A t => A 3 t ≠ -1 ∧ A 10 t = y) (v := 40) (fun t A => ⟨fun q => by unfold f_52; rw [if_pos q], fun q => by unfold f_52; rw [if_neg q]⟩)
    (fun t A B h1 h2 => by rw [h1 3 (by omega), h2]) 120 0 A
  refine ⟨h1, fun k hk => ?_⟩
  by_cases q : A 3 k ≠ -1 ∧ A 10 k = y
  · rw [if_pos q, (h2 k).1 ⟨by omega, by omega, q⟩]
  · rw [if_neg q, (h2 k).2 (fun q2 => q q2.2.2)]
theorem z_m52 {y : Int} : (∀ a, a ≠ 10 → q_for (f_m200t y) 120 0 V a = V a) ∧ (∀ k : Nat, k < 120 → q_for (f_m200t y) 120 0 V 10 k = if V 212 k = 1 ∧ V 10 k = y then 40 else V 10 k) := by
  obtain ⟨h1, h2⟩ := q_for_pt (o := 10) (F := f_m200t y) (c := fun A t => A 212 t = 1 ∧ A 10 t = y) (v := 40) (fun t A => ⟨fun q => by unfold f_m200t; rw [if_pos q], fun q => by unfold f_m200t; rw [if_neg q]⟩)
    (fun t A B h1 h2 => by rw [h1 212 (by omega), h2]) 120 0 V
  refine ⟨h1, fun k hk => ?_⟩
  by_cases q : V 212 k = 1 ∧ V 10 k = y
  · rw [if_pos q, (h2 k).1 ⟨by omega, by omega, q⟩]
  · rw [if_neg q, (h2 k).2 (fun q2 => q q2.2.2)]
theorem z_over {y : Int} : (∀ a, a ≠ 41 → q_over A y a = A a) ∧ (∀ k : Nat, (k : Int) < A 36 5 → q_over A y 41 k = if A 38 k = y ∨ A 39 k = y then 1 else A 41 k) := by
  obtain ⟨h1, h2⟩ := q_for_pt (o := 41) (F := f_53 y) (c := fun A t => A 38 t = y ∨ A 39 t = y) (v := 1) (fun t A => ⟨fun q => by unfold f_53; rw [if_pos q], fun q => by unfold f_53; rw [if_neg q]⟩)
    (fun t A B h1 h2 => by rw [h1 38 (by omega), h1 39 (by omega)]) (A 36 5).toNat 0 A
  refine ⟨h1, fun k hk => ?_⟩
  unfold q_over
  by_cases q : A 38 k = y ∨ A 39 k = y
  · rw [if_pos q, (h2 k).1 ⟨by omega, by omega, q⟩]
  · rw [if_neg q, (h2 k).2 (fun q2 => q q2.2.2)]
/-- all but runners and marks of what goes with a thing -/
theorem z_lt1 {y : Nat} (hy : y < 40) : (∀ a, a ≠ 1 → a ≠ 6 → a ≠ 14 → a ≠ 10 → a ≠ 41 → q_lt1 A y a = A a) ∧ (∀ j, j ≠ 8 → q_lt1 A y 1 j = A 1 j) ∧
    (∀ k, q_lt1 A y 14 k = if k = y then -1 else A 14 k) ∧ (∀ k : Nat, k < 120 → q_lt1 A y 10 k = if A 3 k ≠ -1 ∧ A 10 k = y then 40 else A 10 k) ∧
    (∀ k : Nat, (k : Int) < A 36 5 → q_lt1 A y 41 k = if A 38 k = y ∨ A 39 k = y then 1 else A 41 k) ∧
    (∀ k, q_lt1 A y 6 k = if A 15 y ≠ -1 ∧ k = (A 15 y).toNat then mj_w (A 6 k + A 9001 (A 14 y).toNat) else A 6 k) ∧
    q_lt1 A y 1 8 = (if A 15 y = -1 then mj_w (A 1 8 + A 9001 (A 14 y).toNat) else A 1 8) := by
  have g : (∀ a, a ≠ 1 → a ≠ 6 → q_gr A (A 15 y) (A 9001 (A 14 y).toNat) a = A a) ∧ (∀ j, j ≠ 8 → q_gr A (A 15 y) (A 9001 (A 14 y).toNat) 1 j = A 1 j) ∧
      (∀ k, q_gr A (A 15 y) (A 9001 (A 14 y).toNat) 6 k = if A 15 y ≠ -1 ∧ k = (A 15 y).toNat then mj_w (A 6 k + A 9001 (A 14 y).toNat) else A 6 k) ∧ q_gr A (A 15 y) (A 9001 (A 14 y).toNat) 1 8 = (if A 15 y = -1 then mj_w (A 1 8 + A 9001 (A 14 y).toNat) else A 1 8) := by
    unfold q_gr
    by_cases c : A 15 y = -1
    · rw [if_pos c, if_pos c]
      refine ⟨fun a h1 h2 => mj_up_ne h1, fun j hj => by rw [mj_up_at, if_neg hj], fun k => by rw [mj_up_ne (by omega), if_neg (fun q => q.1 c)], by rw [mj_up_at, if_pos rfl]⟩
    · rw [if_neg c, if_neg c]
      refine ⟨fun a h1 h2 => mj_up_ne h2, fun j hj => by rw [mj_up_ne (by omega)], fun k => ?_, by rw [mj_up_ne (by omega)]⟩
      rw [mj_up_at]
      by_cases q : k = (A 15 y).toNat
      · rw [if_pos q, if_pos ⟨c, q⟩, q]
      · rw [if_neg q, if_neg (fun q2 => q q2.2)]
  obtain ⟨g1, g2, g3, g4⟩ := g
  have h0 : (∀ a, a ≠ 1 → a ≠ 6 → a ≠ 14 → q_lt0 A y a = A a) ∧ (∀ j, j ≠ 8 → q_lt0 A y 1 j = A 1 j) ∧ (∀ k, q_lt0 A y 14 k = if k = y then -1 else A 14 k) ∧
      (∀ k, q_lt0 A y 6 k = if A 15 y ≠ -1 ∧ k = (A 15 y).toNat then mj_w (A 6 k + A 9001 (A 14 y).toNat) else A 6 k) ∧ q_lt0 A y 1 8 = (if A 15 y = -1 then mj_w (A 1 8 + A 9001 (A 14 y).toNat) else A 1 8) := by
    unfold q_lt0
    simp only [Int.toNat_natCast]
    refine ⟨fun a h1 h2 h3 => by rw [mj_up_ne h3, g1 a h1 h2], fun j hj => by rw [mj_up_ne (by omega)]; exact g2 j hj, fun k => by rw [mj_up_at, g1 14 (by omega) (by omega)], fun k => by rw [mj_up_ne (by omega)]; exact g3 k, by rw [mj_up_ne (by omega)]; exact g4⟩
  obtain ⟨a1, a2, a3, a4, a5⟩ := h0
  obtain ⟨b1, b2⟩ := z_52 (A := q_lt0 A y) (y := (y : Int))
  obtain ⟨c1, c2⟩ := z_over (A := q_for (f_52 y) 120 0 (q_lt0 A y)) (y := (y : Int))
  unfold q_lt1
  refine ⟨fun a h1 h2 h3 h4 h5 => by rw [c1 a h5, b1 a h4, a1 a h1 h2 h3], fun j hj => by rw [c1 1 (by omega), b1 1 (by omega)]; exact a2 j hj, fun k => by rw [c1 14 (by omega), b1 14 (by omega)]; exact a3 k, fun k hk => ?_, fun k hk => ?_, fun k => by rw [c1 6 (by omega), b1 6 (by omega)]; exact a4 k, by rw [c1 1 (by omega), b1 1 (by omega)]; exact a5⟩
  · rw [c1 10 (by omega), b2 k hk, a1 3 (by omega) (by omega) (by omega), a1 10 (by omega) (by omega) (by omega)]
  · rw [c2 k (by rw [b1 36 (by omega), a1 36 (by omega) (by omega) (by omega)]; exact hk), b1 38 (by omega), b1 39 (by omega), b1 41 (by omega), a1 38 (by omega) (by omega) (by omega), a1 39 (by omega) (by omega) (by omega), a1 41 (by omega) (by omega) (by omega)]
theorem z_gt1 {y : Nat} : (∀ a, a ≠ 1 → a ≠ 6 → a ≠ 210 → a ≠ 10 → q_for (f_m200t y) 120 0 (m_gtA V y) a = V a) ∧ (∀ j, j ≠ 8 → q_for (f_m200t y) 120 0 (m_gtA V y) 1 j = V 1 j) ∧
    (∀ k, q_for (f_m200t y) 120 0 (m_gtA V y) 210 k = if k = y then 0 else V 210 k) ∧ (∀ k : Nat, k < 120 → q_for (f_m200t y) 120 0 (m_gtA V y) 10 k = if V 212 k = 1 ∧ V 10 k = y then 40 else V 10 k) ∧
    (∀ k, q_for (f_m200t y) 120 0 (m_gtA V y) 6 k = if V 15 y ≠ -1 ∧ k = (V 15 y).toNat then mj_w (V 6 k + m_ro (V 14 y)) else V 6 k) ∧
    q_for (f_m200t y) 120 0 (m_gtA V y) 1 8 = (if V 15 y = -1 then mj_w (V 1 8 + m_ro (V 14 y)) else V 1 8) := by
  have h0 : (∀ a, a ≠ 1 → a ≠ 6 → a ≠ 210 → m_gtA V y a = V a) ∧ (∀ j, j ≠ 8 → m_gtA V y 1 j = V 1 j) ∧ (∀ k, m_gtA V y 210 k = if k = y then 0 else V 210 k) ∧
      (∀ k, m_gtA V y 6 k = if V 15 y ≠ -1 ∧ k = (V 15 y).toNat then mj_w (V 6 k + m_ro (V 14 y)) else V 6 k) ∧ m_gtA V y 1 8 = (if V 15 y = -1 then mj_w (V 1 8 + m_ro (V 14 y)) else V 1 8) := by
    unfold m_gtA
    simp only [Int.toNat_natCast]
    by_cases c : V 15 y = -1
    · rw [if_pos c, if_pos c]
      refine ⟨fun a h1 h2 h3 => by rw [mj_up_ne h1, mj_up_ne h3], fun j hj => by rw [mj_up_at, if_neg hj, mj_up_ne (by omega)], fun k => by rw [mj_up_ne (by omega), mj_up_at], fun k => by rw [mj_up_ne (by omega), mj_up_ne (by omega), if_neg (fun q => q.1 c)], by rw [mj_up_at, if_pos rfl]⟩
    · rw [if_neg c, if_neg c]
      refine ⟨fun a h1 h2 h3 => by rw [mj_up_ne h2, mj_up_ne h3], fun j hj => by rw [mj_up_ne (by omega), mj_up_ne (by omega)], fun k => by rw [mj_up_ne (by omega), mj_up_at], fun k => ?_, by rw [mj_up_ne (by omega), mj_up_ne (by omega)]⟩
      rw [mj_up_at, mj_up_ne (by omega)]
      by_cases q : k = (V 15 y).toNat
      · rw [if_pos q, if_pos ⟨c, q⟩, q]
      · rw [if_neg q, if_neg (fun q2 => q q2.2)]
  obtain ⟨a1, a2, a3, a4, a5⟩ := h0
  obtain ⟨b1, b2⟩ := z_m52 (V := m_gtA V y) (y := (y : Int))
  refine ⟨fun a h1 h2 h3 h4 => by rw [b1 a h4, a1 a h1 h2 h3], fun j hj => by rw [b1 1 (by omega)]; exact a2 j hj, fun k => by rw [b1 210 (by omega)]; exact a3 k, fun k hk => ?_, fun k => by rw [b1 6 (by omega)]; exact a4 k, by rw [b1 1 (by omega)]; exact a5⟩
  rw [b2 k hk, a1 212 (by omega) (by omega) (by omega), a1 10 (by omega) (by omega) (by omega)]
/-- a state that is being swept, on both sides -/
def z_SW (e : Nat) (A V : mj_M) : Prop := z_pre A ∧ z_T A V ∧ z_tb A ∧ z_rm A ∧ (∀ i : Nat, i < 400 → V 42 i = A 42 i) ∧ z_Mk A V ∧ m_ok V ∧ z_H A V ∧ z_H2 A ∧ z_H3 A V ∧ z_RR e A V ∧ z_QH A ∧ z_W A V ∧ z_G A V ∧ z_TH A ∧ z_TB A ∧ z_TR A ∧ z_PR A
def z_F (A : mj_M) : Prop := (A 130 2 = 0 ∨ A 130 2 = 1) ∧ (A 130 2 = 0 → ∀ k : Nat, k < 120 → A 131 k = 0)
theorem z_RR_o (h : z_RR e A V) (w : q_wr A') (hA : ∀ a, 22 ≤ a → a ≤ 35 → A' a = A a) (hV : ∀ a, 22 ≤ a → a ≤ 35 → V' a = V a) (h201 : V' 201 0 = V 201 0) : z_RR e A' V' := by
  obtain ⟨hR, hR2, hQ, hO, -⟩ := h
  refine ⟨⟨by rw [hA 22 (by omega) (by omega), hV 22 (by omega) (by omega)]; exact hR.1, ?_⟩, ?_, ?_, ⟨?_, ?_⟩, w⟩
  · intro r hr
    rw [hA 23 (by omega) (by omega), hV 23 (by omega) (by omega), hA 24 (by omega) (by omega), hV 24 (by omega) (by omega), hA 25 (by omega) (by omega), hV 25 (by omega) (by omega), hA 26 (by omega) (by omega), hV 26 (by omega) (by omega), hA 27 (by omega) (by omega), hV 27 (by omega) (by omega), hA 28 (by omega) (by omega), hV 28 (by omega) (by omega), hA 29 (by omega) (by omega), hV 29 (by omega) (by omega), hA 30 (by omega) (by omega), hV 30 (by omega) (by omega), hA 31 (by omega) (by omega), hV 31 (by omega) (by omega)]
    exact hR.2 r hr
  · intro r hr
    rw [hA 24 (by omega) (by omega), hA 31 (by omega) (by omega), hA 32 (by omega) (by omega), hV 32 (by omega) (by omega), hA 33 (by omega) (by omega), hV 33 (by omega) (by omega), hA 35 (by omega) (by omega), hV 35 (by omega) (by omega)]
    exact hR2 r hr
  · intro r hr
    rw [hA 22 (by omega) (by omega)] at hr
    rw [hA 22 (by omega) (by omega), hA 24 (by omega) (by omega), hA 28 (by omega) (by omega), hA 29 (by omega) (by omega), hA 30 (by omega) (by omega), hA 34 (by omega) (by omega)]
    exact hQ r hr
  · intro r q hr hq
    rw [hA 22 (by omega) (by omega)] at hr hq
    rw [hA 24 (by omega) (by omega), hA 34 (by omega) (by omega), hV 34 (by omega) (by omega)]
    exact hO.1 r q hr hq
  · intro r hr
    rw [hA 22 (by omega) (by omega)] at hr
    rw [hA 24 (by omega) (by omega), hV 34 (by omega) (by omega), h201]
    exact hO.2 r hr
end re9
