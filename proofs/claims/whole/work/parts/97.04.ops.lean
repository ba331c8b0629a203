section op04
variable {A B C M N V W M' V' : mj_M} {x : Nat} {n m : Int}
theorem q_tick_out : (∀ a, (a = 0 ∨ (43 < a ∧ a < 87) ∨ (163 < a ∧ a ≤ 184) ∨ a = 9001) → q_tick M a = M a) ∧ q_tick M 1 9 = M 1 9 := by
  have h : q_ch M (q_tk2 (q_tk1 M) (q_tkR (q_tk1 M))) := q_ch_t q_tk1_c q_tk2_c
  obtain ⟨o1, o2⟩ := q_ch_out h
  unfold q_tick
  refine ⟨fun a q => ?_, ?_⟩
  · rw [mj_up_ne (by omega)]; exact o1 a (by omega)
  · rw [mj_up_at, if_neg (by omega)]; exact o2
theorem m_tkN_o {rl : Int} {a i : Nat} (h : a ≠ 172 ∨ i ≠ 3) : m_tkN M V rl a i = M a i := by
  unfold m_tkN
  split
  · rfl
  · unfold m_doN
    split
    · rfl
    split
    · unfold m_ldN
      split
      · by_cases c : a = 172
        · subst c; rw [mj_up_at, if_neg (by omega)]
        · rw [mj_up_ne c]
      · rfl
    · rfl
theorem m_runN_o {a i : Nat} (h : a ≠ 172 ∨ i ≠ 3) : ∀ (k : Nat) (M V : mj_M), m_runN k M V a i = M a i := by
  intro k
  induction k with
  | zero => intro M V; rfl
  | succ k ih => intro M V; rw [m_runN, ih, m_tkN_o h]
/-- ticks on both sides -/
theorem z_runs : ∀ (k : Nat) (n : Int) (A V : mj_M), z_I n A V → V 1 9 = A 1 9 → 0 ≤ n → n + k < 99999999 → A 1 7 + k ≤ 9999 →
    q_runC k A = m_runC k V ∧ z_I (n + k) (q_runM k A) (m_runV k V) ∧ m_cR V (m_runV k V) ∧ (∀ a, (a = 0 ∨ (43 < a ∧ a < 87) ∨ (163 < a ∧ a ≤ 184) ∨ a = 9001) → q_runM k A a = A a) ∧ q_runM k A 1 9 = A 1 9 := by
  intro k
  induction k with
  | zero => intro n A V h h9 _ _ _; exact ⟨rfl, by rw [Int.natCast_zero, Int.add_zero]; exact h, m_cR_r, fun _ _ => rfl, rfl⟩
  | succ k ih =>
    intro n A V h h9 hn hl h7
    obtain ⟨-, -, t3, t4⟩ := z_tick h ⟨hn, by omega⟩ (by omega)
    rw [← h9] at t3 t4
    obtain ⟨o1, o2⟩ := q_tick_out (M := A)
    have w := h.1.1.1.1
    obtain ⟨i1, i2, i3, i4, i5⟩ := ih (n + 1) (q_tick A) (m_tkM V (V 1 9)) t4 (by rw [m_tkM_R.1, o2]; exact h9) (by omega) (by omega) (by rw [q_tick_nowE w]; omega)
    rw [q_runC, m_runC, q_runM, m_runV, t3, i1]
    refine ⟨rfl, ?_, m_cR_t m_tkM_R i3, fun a q => by rw [i4 a q, o1 a q], by rw [i5, o2]⟩
    rw [show n + ((k + 1 : Nat) : Int) = n + 1 + (k : Int) by omega]
    exact i2

theorem z_o_run (h : z_JJ n M V) (hn : 0 ≤ n ∧ n < 80000000) {k : Int} : z_op n x 92 217 [.inr (.inl 0), .inl k, .inr (.inr 0), .inr (.inr 0)] [.inr (.inl 172), .inl k, .inr (.inr 0), .inr (.inr 0)] M V := by
  have hRl := h.1.1
  have w := hRl.1.1.1
  have hok := hRl.1.2.2.2.2.2.2.1
  have hG := z_Rl_1 hRl
  have h7 := q_w1_7 w
  have h7V : 0 ≤ V 1 7 ∧ V 1 7 ≤ 9999 := by rw [hG.2.1]; exact h7
  have h9 := h.2.1.1
  have h0 : 1 ≤ k ∧ k ≤ 200 → V 1 7 + k ≤ 9999 → ∃ A, z_I (n + (0 : Nat)) A V ∧ V 1 9 = A 1 9 ∧ A 1 7 + (k - (0 : Nat)) ≤ 9999 := by
    intro q1 q2
    refine ⟨M, ?_, h9, ?_⟩
    · rw [Int.natCast_zero, Int.add_zero]; exact h.1
    · rw [hG.2.1] at q2; omega
  have hP : 1 ≤ k ∧ k ≤ 200 → V 1 7 + k ≤ 9999 → ∀ (i : Nat) (V : mj_M), (i : Int) < k → (∃ A, z_I (n + i) A V ∧ V 1 9 = A 1 9 ∧ A 1 7 + (k - i) ≤ 9999) → m_ok V ∧ m_hy (m_pc V) ∧ (∃ A, z_I (n + (i + 1 : Nat)) A (m_tkM V (V 1 9)) ∧ m_tkM V (V 1 9) 1 9 = A 1 9 ∧ A 1 7 + (k - (i + 1 : Nat)) ≤ 9999) := by
    intro q1 q2 i V hi hA
    obtain ⟨A, g1, g2, g3⟩ := hA
    obtain ⟨t1, -, t3, t4⟩ := z_tick g1 ⟨by omega, by omega⟩ (by omega)
    rw [← g2] at t4
    refine ⟨g1.1.1.2.2.2.2.2.2.1, t1, q_tick A, ?_, by rw [m_tkM_R.1, (q_tick_out (M := A)).2]; exact g2, by rw [q_tick_nowE g1.1.1.1.1]; omega⟩
    rw [show n + ((i + 1 : Nat) : Int) = n + i + 1 by omega]
    exact t4
  by_cases c1 : k < 0
  · exact z_op_re (k := 4) (v := -4) h (by omega) (fun d Q => (e_92 (d := d + 191) w h.1.2.2.2 ⟨hn.1, by omega⟩).trans (by rw [if_pos c1])) (fun M d Q => (r_217 (d := d + 70) (P := fun i V => ∃ A, z_I (n + i) A V ∧ V 1 9 = A 1 9 ∧ A 1 7 + (k - i) ≤ 9999) h7V h0 hP).trans (by rw [if_pos c1]))
  by_cases c2 : ¬ (1 ≤ k ∧ k ≤ 200)
  · by_cases c2a : k = 0
    · exact z_op_re (k := 7) (v := -7) h (by omega) (fun d Q => (e_92 (d := d + 191) w h.1.2.2.2 ⟨hn.1, by omega⟩).trans (by rw [if_neg c1, if_pos c2a])) (fun M d Q => (r_217 (d := d + 70) (P := fun i V => ∃ A, z_I (n + i) A V ∧ V 1 9 = A 1 9 ∧ A 1 7 + (k - i) ≤ 9999) h7V h0 hP).trans (by rw [if_neg c1, if_pos c2]))
    · have c2b : 200 < k := by omega
      exact z_op_re (k := 7) (v := -7) h (by omega) (fun d Q => (e_92 (d := d + 191) w h.1.2.2.2 ⟨hn.1, by omega⟩).trans (by rw [if_neg c1, if_neg c2a, if_pos c2b])) (fun M d Q => (r_217 (d := d + 70) (P := fun i V => ∃ A, z_I (n + i) A V ∧ V 1 9 = A 1 9 ∧ A 1 7 + (k - i) ≤ 9999) h7V h0 hP).trans (by rw [if_neg c1, if_pos c2]))
  have c2a : ¬ k = 0 := by omega
  have c2b : ¬ 200 < k := by omega
  by_cases c3 : 9999 < M 1 7 + k
  · have c3V : 9999 < V 1 7 + k := by rw [hG.2.1]; exact c3
    exact z_op_re (k := 8) (v := -8) h (by omega) (fun d Q => (e_92 (d := d + 191) w h.1.2.2.2 ⟨hn.1, by omega⟩).trans (by rw [if_neg c1, if_neg c2a, if_neg c2b, if_pos c3])) (fun M d Q => (r_217 (d := d + 70) (P := fun i V => ∃ A, z_I (n + i) A V ∧ V 1 9 = A 1 9 ∧ A 1 7 + (k - i) ≤ 9999) h7V h0 hP).trans (by rw [if_neg c1, if_neg c2, if_pos c3V]))
  have c3V : ¬ 9999 < V 1 7 + k := by rw [hG.2.1]; exact c3
  obtain ⟨i1, i2, i3, i4, i5⟩ := z_runs k.toNat n M V h.1 h9 hn.1 (by omega) (by omega)
  refine z_op_ch (v := q_runC k.toNat M) (M' := q_runM k.toNat M) (V' := m_runV k.toNat V) h (fun M => m_runN k.toNat M V) (fun M a i q => m_runN_o q _ _ _) (fun a q => i4 a q) i5 i3 (z_I_m i2 (by omega)) (fun d Q => (e_92 (d := d + 191) w h.1.2.2.2 ⟨hn.1, by omega⟩).trans (by rw [if_neg c1, if_neg c2a, if_neg c2b, if_neg c3])) (fun d Q => (r_217 (d := d + 70) (P := fun i V => ∃ A, z_I (n + i) A V ∧ V 1 9 = A 1 9 ∧ A 1 7 + (k - i) ≤ 9999) h7V h0 hP).trans (by rw [if_neg c1, if_neg c2, if_neg c3V, i1]))

theorem z_o_count (h : z_JJ n M V) {k : Int} : z_op n x 156 277 [.inr (.inl 0), .inl k] [.inr (.inl 172), .inl k, .inr (.inr 0), .inr (.inr 0)] M V := by
  have hRl := h.1.1
  have w := hRl.1.1.1
  have hok := hRl.1.2.2.2.2.2.2.1
  have hG := z_Rl_1 hRl
  have hd : ∀ t : Nat, t < 120 → M 3 t ≠ -1 → M 12 t = 0 ∨ M 12 t = 1 := fun t ht q => (hRl.1.2.2.2.2.2.2.2.2.2.2.2.2.2.2.2.2.1 t ht q).2.2
  have hu : ∀ k : Nat, k < 40 → V 210 k = 0 ∨ V 210 k = 1 := fun k hk => by
    rcases hRl.1.2.2.2.2.2.2.2.1 k hk with q | q
    · exact Or.inl q.2
    · exact Or.inr q.2.1
  have hv : ∀ k : Nat, k < 120 → V 212 k = 0 ∨ V 212 k = 1 := fun k hk => by
    rcases hRl.1.2.1 k hk with q | q
    · exact Or.inl q.2
    · exact Or.inr q.2.1
  have hx : ∀ k : Nat, k < 120 → V 212 k = 1 → V 12 k = 0 ∨ V 12 k = 1 := fun k hk g => by
    rcases hRl.1.2.1 k hk with q | q
    · omega
    · rw [q.2.2.2.2.2.2.2.2.2.2.2]; exact hd k hk q.1
  by_cases k0 : k = 0
  · have ev := hG.2.1
    exact z_op_id (v := M 1 7) h (fun d Q => (e_156 (d := d + 191) hd).trans (by rw [if_pos k0])) (fun M d Q => (r_277 (d := d + 191) hu hv hx).trans (by rw [if_pos k0, ev]))
  by_cases k1 : k = 1
  · have ev : q_sum (fun k => V 210 k) 40 0 = q_sum (fun t => if M 14 t ≠ -1 then 1 else 0) 40 0 := by
      refine q_sum_ext 40 0 (fun k _ hk => ?_)
      show V 210 k = if M 14 k ≠ -1 then 1 else 0
      rcases hRl.1.2.2.2.2.2.2.2.1 k (by omega) with q | q
      · rw [q.2, if_neg (fun g => g q.1)]
      · rw [q.2.1, if_pos q.1]
    exact z_op_id (v := q_sum (fun t => if M 14 t ≠ -1 then 1 else 0) 40 0) h (fun d Q => (e_156 (d := d + 191) hd).trans (by rw [if_neg k0, if_pos k1])) (fun M d Q => (r_277 (d := d + 191) hu hv hx).trans (by rw [if_neg k0, if_pos k1, ev]))
  by_cases k2 : k = 2
  · have ev : q_sum (fun k => V 212 k) 120 0 = q_sum (fun t => if M 3 t ≠ -1 then 1 else 0) 120 0 := by
      refine q_sum_ext 120 0 (fun k _ hk => ?_)
      show V 212 k = if M 3 k ≠ -1 then 1 else 0
      rcases hRl.1.2.1 k (by omega) with q | q
      · rw [q.2, if_neg (fun g => g q.1)]
      · rw [q.2.1, if_pos q.1]
    exact z_op_id (v := q_sum (fun t => if M 3 t ≠ -1 then 1 else 0) 120 0) h (fun d Q => (e_156 (d := d + 191) hd).trans (by rw [if_neg k0, if_neg k1, if_pos k2])) (fun M d Q => (r_277 (d := d + 191) hu hv hx).trans (by rw [if_neg k0, if_neg k1, if_pos k2, ev]))
  by_cases k3 : k = 3
  · have ev : q_sum (fun k => V 212 k * V 12 k) 120 0 = q_sum (fun t => if M 3 t ≠ -1 then M 12 t else 0) 120 0 := by
      refine q_sum_ext 120 0 (fun k _ hk => ?_)
      show V 212 k * V 12 k = if M 3 k ≠ -1 then M 12 k else 0
      rcases hRl.1.2.1 k (by omega) with q | q
      · rw [q.2, if_neg (fun g => g q.1)]; omega
      · rw [q.2.1, if_pos q.1, q.2.2.2.2.2.2.2.2.2.2.2]; omega
    exact z_op_id (v := q_sum (fun t => if M 3 t ≠ -1 then M 12 t else 0) 120 0) h (fun d Q => (e_156 (d := d + 191) hd).trans (by rw [if_neg k0, if_neg k1, if_neg k2, if_pos k3])) (fun M d Q => (r_277 (d := d + 191) hu hv hx).trans (by rw [if_neg k0, if_neg k1, if_neg k2, if_pos k3, ev]))
  by_cases k4 : k = 4
  · have ev := hG.2.2.1
    exact z_op_id (v := M 1 8) h (fun d Q => (e_156 (d := d + 191) hd).trans (by rw [if_neg k0, if_neg k1, if_neg k2, if_neg k3, if_pos k4])) (fun M d Q => (r_277 (d := d + 191) hu hv hx).trans (by rw [if_neg k0, if_neg k1, if_neg k2, if_neg k3, if_pos k4, ev]))
  by_cases k5 : k = 5
  · have ev := hRl.1.2.2.2.2.2.2.2.2.2.2.1.1.1
    exact z_op_id (v := M 22 13) h (fun d Q => (e_156 (d := d + 191) hd).trans (by rw [if_neg k0, if_neg k1, if_neg k2, if_neg k3, if_neg k4, if_pos k5])) (fun M d Q => (r_277 (d := d + 191) hu hv hx).trans (by rw [if_neg k0, if_neg k1, if_neg k2, if_neg k3, if_neg k4, if_pos k5, ev]))
  by_cases k6 : k = 6
  · have ev := hRl.1.2.2.2.2.2.2.2.2.2.2.2.2.1.1
    exact z_op_id (v := M 36 5) h (fun d Q => (e_156 (d := d + 191) hd).trans (by rw [if_neg k0, if_neg k1, if_neg k2, if_neg k3, if_neg k4, if_neg k5, if_pos k6])) (fun M d Q => (r_277 (d := d + 191) hu hv hx).trans (by rw [if_neg k0, if_neg k1, if_neg k2, if_neg k3, if_neg k4, if_neg k5, if_pos k6, ev]))
  by_cases k7 : k = 7
  · exact ⟨M 0 15, M, V, fun M => M, x, fun d Q => (e_156 (d := d + 191) hd).trans (by rw [if_neg k0, if_neg k1, if_neg k2, if_neg k3, if_neg k4, if_neg k5, if_neg k6, if_pos k7]), fun d Q => (r_277 (d := d + 191) hu hv hx).trans (by rw [if_neg k0, if_neg k1, if_neg k2, if_neg k3, if_neg k4, if_neg k5, if_neg k6, if_pos k7, h.2.2.2.2.2.1.2.1]), rfl, z_JJ_m h (by omega)⟩
  by_cases k8 : k = 8
  · have ev := h.2.1.1
    exact z_op_id (v := M 1 9) h (fun d Q => (e_156 (d := d + 191) hd).trans (by rw [if_neg k0, if_neg k1, if_neg k2, if_neg k3, if_neg k4, if_neg k5, if_neg k6, if_neg k7, if_pos k8])) (fun M d Q => (r_277 (d := d + 191) hu hv hx).trans (by rw [if_neg k0, if_neg k1, if_neg k2, if_neg k3, if_neg k4, if_neg k5, if_neg k6, if_neg k7, if_pos k8, ev]))
  by_cases k9 : k = 9
  · have ev := hG.2.2.2.1
    exact z_op_id (v := M 1 10) h (fun d Q => (e_156 (d := d + 191) hd).trans (by rw [if_neg k0, if_neg k1, if_neg k2, if_neg k3, if_neg k4, if_neg k5, if_neg k6, if_neg k7, if_neg k8, if_pos k9])) (fun M d Q => (r_277 (d := d + 191) hu hv hx).trans (by rw [if_neg k0, if_neg k1, if_neg k2, if_neg k3, if_neg k4, if_neg k5, if_neg k6, if_neg k7, if_neg k8, if_pos k9, ev]))
  by_cases k10 : k = 10
  · have ev := hG.2.2.2.2
    exact z_op_id (v := M 1 11) h (fun d Q => (e_156 (d := d + 191) hd).trans (by rw [if_neg k0, if_neg k1, if_neg k2, if_neg k3, if_neg k4, if_neg k5, if_neg k6, if_neg k7, if_neg k8, if_neg k9, if_pos k10])) (fun M d Q => (r_277 (d := d + 191) hu hv hx).trans (by rw [if_neg k0, if_neg k1, if_neg k2, if_neg k3, if_neg k4, if_neg k5, if_neg k6, if_neg k7, if_neg k8, if_neg k9, if_pos k10, ev]))
  by_cases k11 : k = 11
  · have ev := hG.1
    exact z_op_id (v := M 1 6) h (fun d Q => (e_156 (d := d + 191) hd).trans (by rw [if_neg k0, if_neg k1, if_neg k2, if_neg k3, if_neg k4, if_neg k5, if_neg k6, if_neg k7, if_neg k8, if_neg k9, if_neg k10, if_pos k11])) (fun M d Q => (r_277 (d := d + 191) hu hv hx).trans (by rw [if_neg k0, if_neg k1, if_neg k2, if_neg k3, if_neg k4, if_neg k5, if_neg k6, if_neg k7, if_neg k8, if_neg k9, if_neg k10, if_pos k11, ev]))
  exact z_op_re (k := 7) (v := -7) h (by omega) (fun d Q => (e_156 (d := d + 191) hd).trans (by rw [if_neg k0, if_neg k1, if_neg k2, if_neg k3, if_neg k4, if_neg k5, if_neg k6, if_neg k7, if_neg k8, if_neg k9, if_neg k10, if_neg k11])) (fun M d Q => (r_277 (d := d + 191) hu hv hx).trans (by rw [if_neg k0, if_neg k1, if_neg k2, if_neg k3, if_neg k4, if_neg k5, if_neg k6, if_neg k7, if_neg k8, if_neg k9, if_neg k10, if_neg k11]))

theorem z_I_c0 (h : z_I n A V) (p : ∀ a, ((0 < a ∧ a < 132) ∨ a = 9001) → B a = A a) : z_I n B V := by
  have h0 := h.1.2.2.2
  have hF := h.1.2.1
  exact z_I_pt h (fun a i q => by rw [p a (by unfold q_in at q; omega)]) (by rw [p 130 (by omega)]; exact h0) (fun k hk => by rw [p 131 (by omega)]; exact hF.2 h0 k hk)
theorem z_X_w (h : z_X n M V) (l : n ≤ m) (h19 : N 1 9 = M 1 9) (hr : ∀ a, ((43 < a ∧ a < 132) ∨ a = 9001 ∨ (163 < a ∧ a < 169) ∨ a = 171 ∨ a = 174 ∨ (179 < a ∧ a < 184)) → N a = M a) (h16 : N 0 16 = M 0 16) (h17 : N 172 17 = M 172 17)
    (hrec : (-1 ≤ N 0 14 ∧ N 0 14 ≤ 60) ∧ N 172 23 = (if N 0 14 = -1 then 0 else 1) ∧ (N 0 14 ≠ -1 → N 172 22 = N 0 14) ∧ ∀ j : Nat, j < 60 → N 184 j = N 169 j)
    (htap : (0 ≤ N 0 15 ∧ N 0 15 ≤ 160) ∧ N 172 9 = N 0 15 ∧ ∀ j : Nat, j < 160 → N 179 j = N 170 j) (h0 : M 130 2 = 0) (h1 : ∀ k : Nat, k < 120 → M 131 k = 0) : z_X m N V := by
  obtain ⟨a1, a2, a5, -, -, a8, a9, a10⟩ := h
  refine ⟨by rw [h19]; exact a1, by rw [hr 174 (by omega), hr 171 (by omega)]; exact a2, ?_, hrec, htap, by rw [h16]; exact a8, by rw [h16, h17]; exact a9, ?_⟩
  · intro i hi
    rw [hr 168 (by omega), hr 181 (by omega), hr 182 (by omega), hr 183 (by omega), hr (164 + i) (by omega)]
    exact a5 i hi
  · rw [h16]
    exact fun q => z_img_c (a10 q) l (fun a ha => hr a (by omega)) (by rw [hr 130 (by omega)]; exact h0) (by rw [hr 131 (by omega)]; exact h1)
/-- only what lies around changes -/
theorem z_op_w {kc km : Nat} {la lm : List mj_V} {v : Int} (h : z_JJ n M V) (F : mj_M → mj_M) (M' : mj_M) (hM : ∀ a, ((0 < a ∧ a < 132) ∨ a = 9001 ∨ a = 173) → M' a = M a) (hF : ∀ a, ((0 < a ∧ a < 132) ∨ a = 9001) → F M' a = M' a) (hX : z_X (n + 1000) (F M') V)
    (hc : ∀ d Q, mj_Rn (d + 200) kc 0 la [] (SGx x) M Q = Q (some (.inl v)) (SGx x) M') (hm : ∀ d Q, mj_Rn (d + 200) km 0 lm [] (SGx x) (v_st V M') Q = Q (some (.inl v)) (SGx x) (v_st V (F M'))) : z_op n x kc km la lm M V :=
  ⟨v, M', V, F, x, hc, hm, hM 173 (by omega), z_I_m (z_I_c0 h.1 (fun a q => by rw [hF a (by omega), hM a (by omega)])) (by omega), hX⟩

theorem z_o_wipe (h : z_JJ n M V) {zz : Int} : z_op n x 142 266 [.inr (.inl 0), .inr (.inr 0)] [.inr (.inl 172), .inr (.inr 0)] M V := by
  have hRl := h.1.1
  have w := hRl.1.1.1
  have hok := hRl.1.2.2.2.2.2.2.1
  have hX := h.2
  have n0 : ∀ a, a ≠ 0 → a ≠ 172 → mj_up (mj_up M 0 15 0) 172 9 0 a = M a := fun a q1 q2 => by rw [mj_up_ne q2, mj_up_ne q1]
  have e0 : ∀ j, mj_up (mj_up M 0 15 0) 172 9 0 0 j = if j = 15 then 0 else M 0 j := fun j => by rw [mj_up_ne (by omega), mj_up_at]
  have e172 : ∀ j, mj_up (mj_up M 0 15 0) 172 9 0 172 j = if j = 9 then 0 else M 172 j := fun j => by rw [mj_up_at, mj_up_ne (by omega)]
  refine z_op_w (v := M 0 15) h (fun M => mj_up M 172 9 0) (mj_up M 0 15 0) (fun a q => mj_up_ne (by omega)) (fun a q => mj_up_ne (by omega)) ?_ (fun d Q => e_142 (d := d + 191)) (fun d Q => (r_266 (d := d + 191)).trans (by rw [mj_up_ne (by omega), hX.2.2.2.2.1.2.1]))
  refine z_X_w hX (by omega) (by rw [n0 1 (by omega) (by omega)]) (fun a q => n0 a (by omega) (by omega)) (by rw [e0, if_neg (by omega)]) (by rw [e172, if_neg (by omega)]) ?_ ?_ (z_I_0 h.1).1 (z_I_0 h.1).2
  · have d23 : mj_up (mj_up M 0 15 0) 172 9 0 172 23 = M 172 23 := by rw [e172, if_neg (by omega)]
    have d22 : mj_up (mj_up M 0 15 0) 172 9 0 172 22 = M 172 22 := by rw [e172, if_neg (by omega)]
    have d14 : mj_up (mj_up M 0 15 0) 172 9 0 0 14 = M 0 14 := by rw [e0, if_neg (by omega)]
    rw [d23, d22, d14, n0 184 (by omega) (by omega), n0 169 (by omega) (by omega)]
    exact hX.2.2.2.1
  · rw [e0, if_pos rfl, e172, if_pos rfl, n0 179 (by omega) (by omega), n0 170 (by omega) (by omega)]
    exact ⟨by omega, rfl, hX.2.2.2.2.1.2.2⟩

theorem z_o_tear (h : z_JJ n M V) {zz : Int} : z_op n x 166 284 [.inr (.inl 0), .inr (.inr 0)] [.inr (.inl 172), .inr (.inr 0)] M V := by
  have hRl := h.1.1
  have w := hRl.1.1.1
  have hok := hRl.1.2.2.2.2.2.2.1
  have hX := h.2
  have hrec := hX.2.2.2.1
  have n0 : ∀ a, a ≠ 0 → a ≠ 172 → mj_up (mj_up M 0 14 (-1)) 172 23 0 a = M a := fun a q1 q2 => by rw [mj_up_ne q2, mj_up_ne q1]
  have e0 : ∀ j, mj_up (mj_up M 0 14 (-1)) 172 23 0 0 j = if j = 14 then -1 else M 0 j := fun j => by rw [mj_up_ne (by omega), mj_up_at]
  have e172 : ∀ j, mj_up (mj_up M 0 14 (-1)) 172 23 0 172 j = if j = 23 then 0 else M 172 j := fun j => by rw [mj_up_at, mj_up_ne (by omega)]
  have hXX : z_X (n + 1000) (mj_up (mj_up M 0 14 (-1)) 172 23 0) V := by
    refine z_X_w hX (by omega) (by rw [n0 1 (by omega) (by omega)]) (fun a q => n0 a (by omega) (by omega)) (by rw [e0, if_neg (by omega)]) (by rw [e172, if_neg (by omega)]) ?_ ?_ (z_I_0 h.1).1 (z_I_0 h.1).2
    · rw [e0, if_pos rfl, e172, if_pos rfl, if_pos rfl, n0 184 (by omega) (by omega), n0 169 (by omega) (by omega)]
      exact ⟨by omega, rfl, fun q => absurd rfl q, hrec.2.2.2⟩
    · rw [e0, if_neg (by omega), e172, if_neg (by omega), n0 179 (by omega) (by omega), n0 170 (by omega) (by omega)]
      exact hX.2.2.2.2.1
  have m23 : ∀ j, mj_up M 0 14 (-1) 172 j = M 172 j := fun j => by rw [mj_up_ne (by omega)]
  by_cases c : M 0 14 = -1
  · have c2 : M 172 23 = 0 := by rw [hrec.2.1, if_pos c]
    exact z_op_w (v := 0) h (fun M => mj_up M 172 23 0) (mj_up M 0 14 (-1)) (fun a q => mj_up_ne (by omega)) (fun a q => mj_up_ne (by omega)) hXX (fun d Q => (e_166 (d := d + 191)).trans (by rw [if_pos c])) (fun d Q => (r_284 (d := d + 191)).trans (by rw [m23, if_pos c2]))
  · have c2 : ¬ M 172 23 = 0 := by rw [hrec.2.1, if_neg c]; omega
    exact z_op_w (v := 1) h (fun M => mj_up M 172 23 0) (mj_up M 0 14 (-1)) (fun a q => mj_up_ne (by omega)) (fun a q => mj_up_ne (by omega)) hXX (fun d Q => (e_166 (d := d + 191)).trans (by rw [if_neg c])) (fun d Q => (r_284 (d := d + 191)).trans (by rw [m23, if_neg c2]))

theorem z_o_write (h : z_JJ n M V) {i v : Int} : z_op n x 165 283 [.inr (.inl 0), .inl i, .inl v, .inr (.inr 0)] [.inr (.inl 172), .inl i, .inl v, .inr (.inr 0)] M V := by
  have hRl := h.1.1
  have w := hRl.1.1.1
  have hok := hRl.1.2.2.2.2.2.2.1
  have hX := h.2
  have hrec := hX.2.2.2.1
  have hs0 : M 172 23 ≠ 0 → 0 ≤ M 172 22 ∧ M 172 22 ≤ 60 := by
    intro q
    rw [hrec.2.1] at q
    have c : M 0 14 ≠ -1 := fun g => q (by rw [if_pos g])
    rw [hrec.2.2.1 c]; omega
  have hs : ∀ N : mj_M, N 172 = M 172 → N 172 23 ≠ 0 → 0 ≤ N 172 22 ∧ N 172 22 ≤ 60 := fun N e => by rw [e]; exact hs0
  by_cases c1 : M 0 14 = -1
  · have c1V : M 172 23 = 0 := by rw [hrec.2.1, if_pos c1]
    have c1W : q_re M 2 172 23 = 0 := by rw [q_re_ne (by omega)]; exact c1V
    exact ⟨0, q_re M 2, V, fun M => q_rm M 2, x, fun d Q => (e_165 (d := d + 191) hrec.1).trans (by rw [if_pos c1]), fun d Q => (r_283 (d := d + 191) (hs _ (q_re_ne (by omega)))).trans (by rw [if_pos c1W]), q_re_ne (by omega), z_JJ_re h (by omega)⟩
  have c1V : ¬ M 172 23 = 0 := by rw [hrec.2.1, if_neg c1]; omega
  have e22 := hrec.2.2.1 c1
  by_cases c2 : ¬ (0 ≤ i ∧ i ≤ M 172 22 - 1)
  · by_cases c2a : i < 0
    · exact ⟨0, q_re M 3, V, fun M => q_rm M 3, x, fun d Q => (e_165 (d := d + 191) hrec.1).trans (by rw [if_neg c1, if_pos c2a]), fun d Q => (r_283 (d := d + 191) (hs _ (q_re_ne (by omega)))).trans (by rw [q_re_ne (show (172 : Nat) ≠ 171 by decide), if_neg c1V, if_pos c2]), q_re_ne (by omega), z_JJ_re h (by omega)⟩
    · have c2b : M 0 14 ≤ i := by omega
      exact ⟨0, q_re M 3, V, fun M => q_rm M 3, x, fun d Q => (e_165 (d := d + 191) hrec.1).trans (by rw [if_neg c1, if_neg c2a, if_pos c2b]), fun d Q => (r_283 (d := d + 191) (hs _ (q_re_ne (by omega)))).trans (by rw [q_re_ne (show (172 : Nat) ≠ 171 by decide), if_neg c1V, if_pos c2]), q_re_ne (by omega), z_JJ_re h (by omega)⟩
  have c2a : ¬ i < 0 := by omega
  have c2b : ¬ M 0 14 ≤ i := by omega
  have n0 : ∀ a, a ≠ 169 → a ≠ 184 → mj_up (mj_up M 169 i.toNat v) 184 i.toNat v a = M a := fun a q1 q2 => by rw [mj_up_ne q2, mj_up_ne q1]
  have eb := hrec.2.2.2 i.toNat (by omega)
  refine z_op_w (v := M 169 i.toNat) h (fun M => mj_up M 184 i.toNat v) (mj_up M 169 i.toNat v) (fun a q => mj_up_ne (by omega)) (fun a q => mj_up_ne (by omega)) ?_ (fun d Q => (e_165 (d := d + 191) hrec.1).trans (by rw [if_neg c1, if_neg c2a, if_neg c2b])) (fun d Q => (r_283 (d := d + 191) (hs _ (mj_up_ne (by omega)))).trans (by rw [mj_up_ne (show (172 : Nat) ≠ 169 by decide), if_neg c1V, if_neg c2, mj_up_ne (show (184 : Nat) ≠ 169 by decide), eb]))
  refine z_X_w hX (by omega) (by rw [n0 1 (by omega) (by omega)]) (fun a q => n0 a (by omega) (by omega)) (by rw [n0 0 (by omega) (by omega)]) (by rw [n0 172 (by omega) (by omega)]) ?_ ?_ (z_I_0 h.1).1 (z_I_0 h.1).2
  · rw [n0 0 (by omega) (by omega), n0 172 (by omega) (by omega)]
    refine ⟨hrec.1, hrec.2.1, hrec.2.2.1, fun j hj => ?_⟩
    rw [mj_up_at, mj_up_ne (show (169 : Nat) ≠ 184 by decide), mj_up_at, mj_up_ne (show (184 : Nat) ≠ 169 by decide), hrec.2.2.2 j hj]
  · rw [n0 0 (by omega) (by omega), n0 172 (by omega) (by omega), n0 179 (by omega) (by omega), n0 170 (by omega) (by omega)]
    exact hX.2.2.2.2.1

theorem z_o_row (h : z_JJ n M V) {i : Int} : z_op n x 167 285 [.inr (.inl 0), .inl i] [.inr (.inl 172), .inl i] M V := by
  have hRl := h.1.1
  have w := hRl.1.1.1
  have hok := hRl.1.2.2.2.2.2.2.1
  have hX := h.2
  have hrec := hX.2.2.2.1
  have hs0 : M 172 23 ≠ 0 → 0 ≤ M 172 22 ∧ M 172 22 ≤ 60 := by
    intro q
    rw [hrec.2.1] at q
    have c : M 0 14 ≠ -1 := fun g => q (by rw [if_pos g])
    rw [hrec.2.2.1 c]; omega
  have hs : ∀ N : mj_M, N 172 = M 172 → N 172 23 ≠ 0 → 0 ≤ N 172 22 ∧ N 172 22 ≤ 60 := fun N e => by rw [e]; exact hs0
  by_cases c1 : M 0 14 = -1
  · have c1V : M 172 23 = 0 := by rw [hrec.2.1, if_pos c1]
    have c1W : q_re M 2 172 23 = 0 := by rw [q_re_ne (by omega)]; exact c1V
    exact ⟨0, q_re M 2, V, fun M => q_rm M 2, x, fun d Q => (e_167 (d := d + 191) hrec.1).trans (by rw [if_pos c1]), fun d Q => (r_285 (d := d + 191) (hs _ (q_re_ne (by omega)))).trans (by rw [if_pos c1W]), q_re_ne (by omega), z_JJ_re h (by omega)⟩
  have c1V : ¬ M 172 23 = 0 := by rw [hrec.2.1, if_neg c1]; omega
  have e22 := hrec.2.2.1 c1
  by_cases c2 : ¬ (0 ≤ i ∧ i ≤ M 172 22 - 1)
  · by_cases c2a : i < 0
    · exact ⟨0, q_re M 3, V, fun M => q_rm M 3, x, fun d Q => (e_167 (d := d + 191) hrec.1).trans (by rw [if_neg c1, if_pos c2a]), fun d Q => (r_285 (d := d + 191) (hs _ (q_re_ne (by omega)))).trans (by rw [q_re_ne (show (172 : Nat) ≠ 171 by decide), if_neg c1V, if_pos c2]), q_re_ne (by omega), z_JJ_re h (by omega)⟩
    · have c2b : M 0 14 ≤ i := by omega
      exact ⟨0, q_re M 3, V, fun M => q_rm M 3, x, fun d Q => (e_167 (d := d + 191) hrec.1).trans (by rw [if_neg c1, if_neg c2a, if_pos c2b]), fun d Q => (r_285 (d := d + 191) (hs _ (q_re_ne (by omega)))).trans (by rw [q_re_ne (show (172 : Nat) ≠ 171 by decide), if_neg c1V, if_pos c2]), q_re_ne (by omega), z_JJ_re h (by omega)⟩
  have c2a : ¬ i < 0 := by omega
  have c2b : ¬ M 0 14 ≤ i := by omega
  have eb := hrec.2.2.2 i.toNat (by omega)
  exact ⟨M 169 i.toNat, M, V, fun M => M, x, fun d Q => (e_167 (d := d + 191) hrec.1).trans (by rw [if_neg c1, if_neg c2a, if_neg c2b]), fun d Q => (r_285 (d := d + 191) hs0).trans (by rw [if_neg c1V, if_neg c2, eb]), rfl, z_JJ_m h (by omega)⟩

end op04
