section op14
variable {A B C M N S T V W X Y M' V' A' : mj_M} {x : Nat} {n m : Int} {e e' : Nat}
theorem m_grN_o {rl : Int} {f u NN : Nat} {a b : Nat} (h : a ≠ 176) (h2 : a ≠ 172 ∨ b ≠ 3) : ∀ (k j : Nat) (X : mj_M), m_grN V rl f u NN k j X a b = X a b := by
  intro k
  induction k with
  | zero => intro j X; rfl
  | succ k ih => intro j X; rw [m_grN, ih, m_giN_o h h2]
theorem q_tdn {x k : Int} (h : x < 0) (hk : 1 ≤ k) : x.tdiv k ≤ 0 := by
  obtain ⟨y, rfl⟩ : ∃ y : Int, x = -y := ⟨-x, by omega⟩
  have h1 : 0 ≤ y.tdiv k := Int.tdiv_nonneg (by omega) (by omega)
  rw [Int.neg_tdiv]
  omega
theorem z_o_leak (h : z_JJ n M V) (hn : 0 ≤ n ∧ n < 80000000) {rn rl to : Int} (hrn : -2147483648 ≤ rn ∧ rn < 2147483648) (hto : -2147483648 ≤ to ∧ to < 2147483648) : z_op n x 113 250 [.inr (.inl 0), .inl rn, .inl rl, .inl to, .inr (.inr 0), .inr (.inr 0), .inr (.inr 0), .inr (.inr 0)] [.inr (.inl 172), .inl rn, .inl rl, .inl to, .inr (.inr 0), .inr (.inr 0), .inr (.inr 0), .inr (.inr 0), .inr (.inr 0), .inr (.inr 0), .inr (.inr 0), .inr (.inr 0), .inr (.inr 0)] M V := by
  have hRl := h.1.1
  have w := hRl.1.1.1
  have hok := hRl.1.2.2.2.2.2.2.1
  have e1 := z_rt_e hRl (r := rn.tdiv 10)
  have e2 := z_rt_e hRl (r := rn.tmod 10)
  have g17 := (z_Rl_1 hRl).2.1
  have h7 := q_w1_7 w
  have hsz := q_w22_13 w
  have hRR := hRl.1.2.2.2.2.2.2.2.2.2.2.1
  have E : ∀ d Q, _ := fun d Q => e_113 (d := d + 191) (x := x) (Q := Q) (rl := rl) w h.1.2.2.2 ⟨hn.1, by omega⟩ hrn hto
  obtain ⟨P, hPd⟩ : ∃ P : Nat → mj_M → Prop, P = fun (i : Nat) W => V 1 7 + to.tmod 100 ≤ 9999 → ∃ A, z_I (n + i) A W ∧ A 1 9 = rl ∧ A 1 7 + (((to.tmod 100).toNat : Int) - (i : Int)) ≤ 9999 := ⟨_, rfl⟩
  have hP0 : 0 ≤ rn.tdiv 10 ∧ rn.tdiv 10 < 8 → ∀ j : Nat, j < (to.tdiv 100).toNat → P 0 (mj_up V 26 (rn.tdiv 10).toNat (j : Int)) := by
    intro _ j _
    rw [hPd]
    intro q
    refine ⟨mj_up (mj_up M 1 9 rl) 26 (rn.tdiv 10).toNat (j : Int), by rw [Int.natCast_zero, Int.add_zero]; exact z_I_26 (z_I_19 h.1), by rw [mj_up_ne (by omega), mj_up_at, if_pos rfl], ?_⟩
    rw [mj_up_ne (by omega), mj_up_at, if_neg (by omega), ← g17]
    omega
  have hT : V 1 7 + to.tmod 100 ≤ 9999 → ∀ (i : Nat) (W : mj_M), i < (to.tmod 100).toNat → P i W → (m_ok W ∧ m_hy (m_pc W) ∧ P (i + 1) (m_tkM W rl)) ∧ q_wr (m_tkM W rl) := by
    intro q i W hi hA
    rw [hPd] at hA ⊢
    obtain ⟨A, g1, g2, g3⟩ := hA q
    obtain ⟨t1, -, -, t4⟩ := z_tick g1 ⟨by omega, by omega⟩ (by omega)
    rw [g2] at t4
    refine ⟨⟨g1.1.1.2.2.2.2.2.2.1, t1, fun _ => ⟨q_tick A, ?_, by rw [(q_tick_out (M := A)).2]; exact g2, by rw [q_tick_nowE g1.1.1.1.1]; omega⟩⟩, t4.1.1.2.2.2.2.2.2.1.1⟩
    rw [show n + ((i + 1 : Nat) : Int) = n + i + 1 by omega]
    exact t4
  have R : ∀ (M : mj_M) d Q, _ := fun M d Q => r_250 (d := d + 70) (x := x) (Q := Q) (M := M) (rl := rl) hok.1 (by rw [g17]; exact h7) hrn hto (P := P) hP0 (fun _ q i W hi hA => (hT q i W hi hA).1) (fun _ q i W hi hA => (hT q i W hi hA).2)
  by_cases a0 : rn < 0
  · exact z_op_re (k := 3) (v := -3) h (by omega) (fun d Q => (E d Q).trans (by rw [if_pos a0])) (fun M d Q => (R M d Q).trans (by rw [if_pos a0]))
  by_cases a1 : q_rt M (rn.tdiv 10) = 0
  · exact z_op_re (k := 3) (v := -3) h (by omega) (fun d Q => (E d Q).trans (by rw [if_neg a0, if_pos a1])) (fun M d Q => (R M d Q).trans (by rw [if_neg a0, if_pos (e1.trans a1)]))
  have a1V : ¬ m_rt V (rn.tdiv 10) = 0 := by rw [e1]; exact a1
  by_cases a2 : q_rt M (rn.tmod 10) = 0
  · exact z_op_re (k := 3) (v := -3) h (by omega) (fun d Q => (E d Q).trans (by rw [if_neg a0, if_neg a1, if_pos a2])) (fun M d Q => (R M d Q).trans (by rw [if_neg a0, if_neg a1V, if_pos (e2.trans a2)]))
  have a2V : ¬ m_rt V (rn.tmod 10) = 0 := by rw [e2]; exact a2
  by_cases b1 : ¬ (rl = 0 ∨ rl = 1)
  · have b1V : ¬ (0 ≤ rl ∧ rl ≤ 1) := by omega
    exact z_op_re (k := 7) (v := -7) h (by omega) (fun d Q => (E d Q).trans (by rw [if_neg a0, if_neg a1, if_neg a2, if_pos b1])) (fun M d Q => (R M d Q).trans (by rw [if_neg a0, if_neg a1V, if_neg a2V, if_pos b1V]))
  have b1V : ¬ ¬ (0 ≤ rl ∧ rl ≤ 1) := by omega
  by_cases b0 : to < 0
  · have b2 : to.tdiv 100 < 2 := by have := q_tdn (k := 100) b0 (by omega); omega
    exact z_op_re (k := 7) (v := -7) h (by omega) (fun d Q => (E d Q).trans (by rw [if_neg a0, if_neg a1, if_neg a2, if_neg b1, if_pos b2])) (fun M d Q => (R M d Q).trans (by rw [if_neg a0, if_neg a1V, if_neg a2V, if_neg b1V, if_pos b0]))
  by_cases b2 : to.tdiv 100 < 2
  · have b2V : ¬ (2 ≤ to.tdiv 100 ∧ to.tdiv 100 ≤ 16) := by omega
    exact z_op_re (k := 7) (v := -7) h (by omega) (fun d Q => (E d Q).trans (by rw [if_neg a0, if_neg a1, if_neg a2, if_neg b1, if_pos b2])) (fun M d Q => (R M d Q).trans (by rw [if_neg a0, if_neg a1V, if_neg a2V, if_neg b1V, if_neg b0, if_pos b2V]))
  by_cases b3 : 16 < to.tdiv 100
  · have b2V : ¬ (2 ≤ to.tdiv 100 ∧ to.tdiv 100 ≤ 16) := by omega
    exact z_op_re (k := 7) (v := -7) h (by omega) (fun d Q => (E d Q).trans (by rw [if_neg a0, if_neg a1, if_neg a2, if_neg b1, if_neg b2, if_pos b3])) (fun M d Q => (R M d Q).trans (by rw [if_neg a0, if_neg a1V, if_neg a2V, if_neg b1V, if_neg b0, if_pos b2V]))
  have b2V : ¬ ¬ (2 ≤ to.tdiv 100 ∧ to.tdiv 100 ≤ 16) := by omega
  by_cases b4 : to.tmod 100 < 1
  · have b4V : ¬ (1 ≤ to.tmod 100 ∧ to.tmod 100 ≤ 60) := by omega
    exact z_op_re (k := 7) (v := -7) h (by omega) (fun d Q => (E d Q).trans (by rw [if_neg a0, if_neg a1, if_neg a2, if_neg b1, if_neg b2, if_neg b3, if_pos b4])) (fun M d Q => (R M d Q).trans (by rw [if_neg a0, if_neg a1V, if_neg a2V, if_neg b1V, if_neg b0, if_neg b2V, if_pos b4V]))
  by_cases b5 : 60 < to.tmod 100
  · have b4V : ¬ (1 ≤ to.tmod 100 ∧ to.tmod 100 ≤ 60) := by omega
    exact z_op_re (k := 7) (v := -7) h (by omega) (fun d Q => (E d Q).trans (by rw [if_neg a0, if_neg a1, if_neg a2, if_neg b1, if_neg b2, if_neg b3, if_neg b4, if_pos b5])) (fun M d Q => (R M d Q).trans (by rw [if_neg a0, if_neg a1V, if_neg a2V, if_neg b1V, if_neg b0, if_neg b2V, if_pos b4V]))
  have b4V : ¬ ¬ (1 ≤ to.tmod 100 ∧ to.tmod 100 ≤ 60) := by omega
  by_cases b6 : rn.tdiv 10 = rn.tmod 10
  · exact z_op_re (k := 7) (v := -7) h (by omega) (fun d Q => (E d Q).trans (by rw [if_neg a0, if_neg a1, if_neg a2, if_neg b1, if_neg b2, if_neg b3, if_neg b4, if_neg b5, if_pos b6])) (fun M d Q => (R M d Q).trans (by rw [if_neg a0, if_neg a1V, if_neg a2V, if_neg b1V, if_neg b0, if_neg b2V, if_neg b4V, if_pos b6]))
  have hf : 0 ≤ rn.tdiv 10 ∧ rn.tdiv 10 < M 22 13 := by
    unfold q_rt at a1
    split at a1
    · assumption
    · exact absurd rfl a1
  have hu : 0 ≤ rn.tmod 10 ∧ rn.tmod 10 < M 22 13 := by
    unfold q_rt at a2
    split at a2
    · assumption
    · exact absurd rfl a2
  have v24 := (hRR.1.2 (rn.tdiv 10).toNat (by omega)).2.1
  by_cases b7 : M 24 (rn.tdiv 10).toNat ≠ 0
  · have b7V : V 24 (rn.tdiv 10).toNat ≠ 0 := by rw [v24]; exact b7
    exact z_op_re (k := 7) (v := -7) h (by omega) (fun d Q => (E d Q).trans (by rw [if_neg a0, if_neg a1, if_neg a2, if_neg b1, if_neg b2, if_neg b3, if_neg b4, if_neg b5, if_neg b6, if_pos b7])) (fun M d Q => (R M d Q).trans (by rw [if_neg a0, if_neg a1V, if_neg a2V, if_neg b1V, if_neg b0, if_neg b2V, if_neg b4V, if_neg b6, if_pos b7V]))
  have b7V : ¬ V 24 (rn.tdiv 10).toNat ≠ 0 := by rw [v24]; exact b7
  by_cases b8 : 9999 < M 1 7 + to.tmod 100
  · have b8V : 9999 < V 1 7 + to.tmod 100 := by rw [g17]; exact b8
    exact z_op_re (k := 8) (v := -8) h (by omega) (fun d Q => (E d Q).trans (by rw [if_neg a0, if_neg a1, if_neg a2, if_neg b1, if_neg b2, if_neg b3, if_neg b4, if_neg b5, if_neg b6, if_neg b7, if_pos b8])) (fun M d Q => (R M d Q).trans (by rw [if_neg a0, if_neg a1V, if_neg a2V, if_neg b1V, if_neg b0, if_neg b2V, if_neg b4V, if_neg b6, if_neg b7V, if_pos b8V]))
  have b8V : ¬ 9999 < V 1 7 + to.tmod 100 := by rw [g17]; exact b8
  have eF : (((rn.tdiv 10).toNat : Nat) : Int) = rn.tdiv 10 := by omega
  have eU : (((rn.tmod 10).toNat : Nat) : Int) = rn.tmod 10 := by omega
  obtain ⟨t1, t2, t3⟩ := z_tr0 h.1
  obtain ⟨M', hM'⟩ : ∃ M', q_grM M (rn.tdiv 10) (rn.tmod 10) rl (to.tdiv 100).toNat (to.tmod 100).toNat = M' := ⟨_, rfl⟩
  have key := z_lko (rl := rl) (f := (rn.tdiv 10).toNat) (u := (rn.tmod 10).toNat) (k := (to.tdiv 100).toNat) (NN := (to.tmod 100).toNat) h.1 (by omega) (by omega) (by omega) hn.1 (by omega) (by omega) (to.tdiv 100).toNat 0 (q_tfS 0 86 M) (m_kp V M') (by omega)
    ⟨t1, fun a i q _ => by rw [t3 a (by unfold q_in at q; omega)], fun a _ _ => rfl, fun a q => t3 a (by omega)⟩ (fun i hi => by omega)
  rw [eF, eU, show q_for (f_go (rn.tdiv 10) (rn.tmod 10) rl (to.tmod 100).toNat) (to.tdiv 100).toNat 0 (q_tfS 0 86 M) = M' from hM'] at key
  obtain ⟨⟨k1, k2, k3, k4⟩, -, -, k5⟩ := key
  have ev := k5 0
  rw [Int.zero_add] at ev
  refine z_op_ch2 (v := m_grC V rl (rn.tdiv 10).toNat (rn.tmod 10).toNat (to.tmod 100).toNat (to.tdiv 100).toNat 0 (m_kp V M')) (M' := M') (V' := V) h (fun X => m_grN V rl (rn.tdiv 10).toNat (rn.tmod 10).toNat (to.tmod 100).toNat (to.tdiv 100).toNat 0 (m_kp V X)) (fun a i q q2 => by rw [m_grN_o (by omega) q, m_kp_o (by omega)]) k4 (k2 1 9 (by unfold q_in; omega) (by omega)) m_cR_r (z_I_m k1 (by omega)) (fun d Q => (E d Q).trans ?_) (fun d Q => (R M' d Q).trans ?_)
  · rw [if_neg a0, if_neg a1, if_neg a2, if_neg b1, if_neg b2, if_neg b3, if_neg b4, if_neg b5, if_neg b6, if_neg b7, if_neg b8, hM', ev]
  · rw [if_neg a0, if_neg a1V, if_neg a2V, if_neg b1V, if_neg b0, if_neg b2V, if_neg b4V, if_neg b6, if_neg b7V, if_neg b8V]
end op14
