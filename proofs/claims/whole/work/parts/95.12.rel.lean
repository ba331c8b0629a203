section re12
variable {A B C V W A' V' : mj_M} {e : Nat}
/-- nothing is marked: between the steps -/
def z_Rl (e : Nat) (A V : mj_M) : Prop := z_SW e A V ∧ z_F A ∧ z_HT A 40 ∧ A 130 2 = 0
theorem z_pl {b s : Int} (h : 0 ≤ b ∧ b < 40) (h14 : A 14 b.toNat = 1) : q_pl A b s = if 0 ≤ s ∧ s ≤ 9 then 10 * b + s else -1 := by
  unfold q_pl
  by_cases c : 0 ≤ s ∧ s ≤ 9
  · rw [if_pos c, if_pos ⟨h.1, h.2, h14, c.1, by omega⟩]
  · rw [if_neg c, if_neg (fun q => c ⟨q.2.2.2.1, by omega⟩)]
theorem z_at (h42 : ∀ i : Nat, i < 400 → V 42 i = A 42 i) {b s : Int} (h : 0 ≤ b ∧ b < 40) (h14 : A 14 b.toNat = 1) : q_ta A b s = m_at V b s := by
  unfold q_ta m_at
  rw [z_pl h h14]
  by_cases c : 0 ≤ s ∧ s ≤ 9
  · rw [if_pos c, if_neg (by omega), if_pos c, h42 _ (by omega)]
  · rw [if_neg c, if_pos rfl, if_neg c]
/-- what stands in a slot is there -/
theorem z_ta_th (hw : q_wr A) (htb : z_tb A) {b s : Int} : q_ta A b s = -1 ∨ (0 ≤ q_ta A b s ∧ q_ta A b s < 120 ∧ A 3 (q_ta A b s).toNat ≠ -1) := by
  have h1 := q_ta_in (b := b) (s := s) hw
  by_cases c : q_ta A b s = -1
  · exact Or.inl c
  · right
    refine ⟨by omega, by omega, ?_⟩
    unfold q_ta at c ⊢
    split at c
    · exact absurd rfl c
    · rename_i c2
      rw [if_neg c2]
      have h2 := q_pl_in (M := A) (b := b) (s := s)
      exact (htb.2 _ (by omega) c).1
theorem z_fi (hS : z_SW e A V) {b s r : Int} (h : 0 ≤ b ∧ b < 40) (h14 : A 14 b.toNat = 1) : m_fi V b s r = if q_fits A (q_ta A b s) r = 1 then q_ta A b s else -1 := by
  have hw := hS.1.1
  have h42 := hS.2.2.2.2.1
  have hta := z_at h42 (s := s) h h14
  have hth := z_ta_th hw hS.2.2.1 (b := b) (s := s)
  have hnow : V 1 7 = A 1 7 := hS.2.2.2.2.2.2.2.2.2.2.2.2.2.1.2.1
  unfold m_fi
  by_cases c : 0 ≤ s ∧ s ≤ 9
  · have e1 : m_at V b s = V 42 (10 * b + s).toNat := by unfold m_at; rw [if_pos c]
    rw [if_pos c, ← e1, ← hta]
    generalize hT : q_ta A b s = T at *
    rcases hth with q | ⟨q1, q2, q3⟩
    · have f0 : q_fits A T r = 0 := by unfold q_fits; rw [if_neg (fun g => g.1 q)]
      rw [if_pos q, f0, if_neg (by omega)]
    · have hTt := hS.2.1 T.toNat (by omega)
      have hTR := hS.2.2.2.2.2.2.2.2.2.2.2.2.2.2.2.2.1 T.toNat (by omega) q3
      have e10 : V 10 T.toNat = A 10 T.toNat := by omega
      have e12 : V 12 T.toNat = A 12 T.toNat := by omega
      have e11 : V 11 T.toNat = A 11 T.toNat := by omega
      have e5 : V 5 T.toNat = A 5 T.toNat := by omega
      rw [if_neg (by omega), e10, e12, e11, e5, hnow]
      by_cases c1 : A 10 T.toNat = -1
      · rw [if_neg (fun g => g c1)]
        by_cases c2 : A 12 T.toNat = 1
        · have f0 : q_fits A T r = 0 := by unfold q_fits; rw [if_neg (fun g => by omega)]
          rw [if_pos c2, f0, if_neg (by omega)]
        · rw [if_neg c2]
          by_cases c3 : A 11 T.toNat ≠ -1 ∧ A 11 T.toNat < A 1 7
          · have f0 : q_fits A T r = 0 := by unfold q_fits; rw [if_neg (fun g => by omega)]
            rw [if_pos c3, f0, if_neg (by omega)]
          · rw [if_neg c3]
            by_cases c4 : mj_and (A 5 T.toNat) r = r
            · have f1 : q_fits A T r = 1 := by unfold q_fits; rw [if_pos ⟨by omega, c1, by omega, by omega, c4⟩]
              rw [if_pos c4, f1, if_pos rfl]
            · have f0 : q_fits A T r = 0 := by unfold q_fits; rw [if_neg (fun g => c4 g.2.2.2.2)]
              rw [if_neg c4, f0, if_neg (by omega)]
      · have f0 : q_fits A T r = 0 := by unfold q_fits; rw [if_neg (fun g => c1 g.2.1)]
        rw [if_pos c1, f0, if_neg (by omega)]
  · rw [if_neg c]
    have e1 : m_at V b s = -1 := by unfold m_at; rw [if_neg c]
    have f0 : q_fits A (-1) r = 0 := by unfold q_fits; rw [if_neg (fun g => g.1 rfl)]
    rw [hta, e1, f0, if_neg (by omega)]
theorem z_ft (hS : z_SW e A V) {b s r : Int} (h : 0 ≤ b ∧ b < 40) (h14 : A 14 b.toNat = 1) : m_ft V b s r = if q_fits A (q_ta A b s) r = 1 ∧ A 4 (q_ta A b s).toNat ≠ -1 then q_ta A b s else -1 := by
  have hth := z_ta_th hS.1.1 hS.2.2.1 (b := b) (s := s)
  unfold m_ft
  rw [z_fi hS h h14]
  by_cases c : q_fits A (q_ta A b s) r = 1
  · rw [if_pos c]
    have c2 : q_ta A b s ≠ -1 := by
      intro q; unfold q_fits at c; rw [if_neg (fun g => g.1 q)] at c; omega
    have hTt := hS.2.1 (q_ta A b s).toNat (by omega)
    have e4 : V 4 (q_ta A b s).toNat = A 4 (q_ta A b s).toNat := by omega
    rw [e4]
    by_cases c3 : A 4 (q_ta A b s).toNat = -1
    · rw [if_neg (fun g => g.2 c3), if_neg (fun g => g.2 c3)]
    · rw [if_pos ⟨c2, c3⟩, if_pos ⟨c, c3⟩]
  · rw [if_neg c, if_neg (fun g => g.1 rfl), if_neg (fun g => c g.1)]
/-- the first free numbers -/
theorem z_ff3 (hT : z_T A V) : ∀ (n t : Nat), t + n = 120 → (q_ff A 3 n t = -1 ∧ m_ftk V n t = 120) ∨ (q_ff A 3 n t = m_ftk V n t ∧ (t : Int) ≤ m_ftk V n t ∧ m_ftk V n t < 120) := by
  intro n
  induction n with
  | zero => intro t h; left; exact ⟨rfl, by unfold m_ftk; omega⟩
  | succ n ih =>
    intro t h
    have hTt := hT t (by omega)
    unfold q_ff m_ftk
    simp only [Int.toNat_natCast]
    rcases hTt with q | q
    · rw [if_pos q.1, if_neg (by omega)]; right; omega
    · rw [if_neg q.1, if_pos q.2.1]
      have := ih (t + 1) (by omega)
      push_cast at this
      omega
theorem z_ff14 (hH : z_H A V) : ∀ (n t : Nat), t + n = 40 → (q_ff A 14 n t = -1 ∧ m_fth V n t = 40) ∨ (q_ff A 14 n t = m_fth V n t ∧ (t : Int) ≤ m_fth V n t ∧ m_fth V n t < 40 ∧ A 14 (m_fth V n t).toNat = -1) := by
  intro n
  induction n with
  | zero => intro t h; left; exact ⟨rfl, by unfold m_fth; omega⟩
  | succ n ih =>
    intro t h
    have hTt := hH t (by omega)
    unfold q_ff m_fth
    simp only [Int.toNat_natCast]
    rcases hTt with q | q
    · rw [if_pos q.1, if_neg (by omega)]; right
      simp only [Int.toNat_natCast]
      exact ⟨by trivial, by omega, by omega, q.1⟩
    · rw [if_neg q.1, if_pos q.2.1]
      have := ih (t + 1) (by omega)
      push_cast at this
      rcases this with g | g
      · exact Or.inl g
      · right; exact ⟨g.1, by omega, g.2.2⟩
theorem z_can (hS : z_SW e A V) {b s : Int} (h : 0 ≤ b ∧ b < 40) (h14 : A 14 b.toNat = 1) : q_can A b s = 1 ↔ (m_em V b s = 1 ∧ m_ftk V 120 0 ≠ 120) := by
  have h42 := hS.2.2.2.2.1
  have hff := z_ff3 hS.2.1 120 0 rfl
  simp only [Int.natCast_zero] at hff
  have hpl := z_pl (A := A) (s := s) h h14
  have e42 : ∀ c : 0 ≤ s ∧ s ≤ 9, V 42 (10 * b + s).toNat = A 42 (10 * b + s).toNat := fun c => h42 _ (by omega)
  have hc : q_can A b s = 1 ↔ (q_ff A 3 120 0 ≠ -1 ∧ q_pl A b s ≠ -1 ∧ A 42 (q_pl A b s).toNat = -1) := by
    unfold q_can
    split
    · rename_i g; exact ⟨fun _ => g, fun _ => rfl⟩
    · rename_i g; exact ⟨fun q => by omega, fun q => absurd q g⟩
  have he : m_em V b s = 1 ↔ (0 ≤ s ∧ s ≤ 9 ∧ V 42 (10 * b + s).toNat = -1) := by
    unfold m_em
    split
    · rename_i g; exact ⟨fun _ => g, fun _ => rfl⟩
    · rename_i g; exact ⟨fun q => by omega, fun q => absurd q g⟩
  rw [hc, he, hpl]
  by_cases c : 0 ≤ s ∧ s ≤ 9
  · rw [if_pos c, e42 c]
    constructor
    · rintro ⟨g1, g2, g3⟩; exact ⟨⟨c.1, c.2, g3⟩, by omega⟩
    · rintro ⟨⟨g1, g2, g3⟩, g4⟩; exact ⟨by omega, by omega, g3⟩
  · rw [if_neg c]
    constructor
    · rintro ⟨g1, g2, g3⟩; exact absurd rfl g2
    · rintro ⟨⟨g1, g2, g3⟩, g4⟩; exact absurd ⟨g1, g2⟩ c
end re12
