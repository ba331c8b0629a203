section op26
variable {A B C M N S T V W X Y M' V' A' : mj_M} {x : Nat} {n m : Int} {e e' : Nat}
theorem q_psM_o {a : Nat} (h : a < 157 ∨ 161 < a) : ∀ (k : Nat) (S : mj_M), 0 ≤ S 157 9 → q_psM k S a = S a := fun k S h0 => funext fun j => q_psM_k (by omega) k S h0 (Or.inl (by omega))
theorem q_xA_o {a : Nat} (h : a < 157 ∨ 161 < a) : q_xA M a = M a := by
  unfold q_xA q_paM
  have e9 : q_pa0 M (M 0 15) 157 9 = 0 := by unfold q_pa0; rw [mj_up_at, if_pos rfl]
  rw [q_psM_o h _ _ (by omega)]
  unfold q_pa0
  rw [mj_up_ne (by omega), mj_up_ne (by omega), mj_up_ne (by omega)]
/-- what lies around the state, when the text was done -/
theorem z_X_tp (h : z_X n M V) (l : n ≤ m) (hV9 : V' 1 9 = V 1 9) (hV : V' 217 = V 217) (h19 : N 1 9 = M 1 9) (hr : ∀ a, ((43 < a ∧ a < 87) ∨ a = 9001 ∨ (163 < a ∧ a ≤ 170) ∨ (178 < a ∧ a ≤ 184)) → N a = M a) (h0 : ∀ j, N 0 j = if j = 15 then 0 else M 0 j)
    (h9 : N 172 9 = 0) (h172 : ∀ j, j = 17 ∨ j = 22 ∨ j = 23 → N 172 j = M 172 j) (h171 : ∀ j : Nat, j < 9 → N 174 j = N 171 j) (h130 : N 130 2 = 0) (h131 : ∀ k : Nat, k < 120 → N 131 k = 0) : z_X m N V' := by
  obtain ⟨⟨a1, a2, a3⟩, -, a5, a6, a7, a8, a9, a10⟩ := h
  have e14 : N 0 14 = M 0 14 := by rw [h0, if_neg (by omega)]
  have e15 : N 0 15 = 0 := by rw [h0, if_pos rfl]
  have e16 : N 0 16 = M 0 16 := by rw [h0, if_neg (by omega)]
  refine ⟨⟨by rw [hV9, h19]; exact a1, by rw [h19]; exact a2, by rw [hV]; exact a3⟩, h171, ?_, ?_, ?_, ?_, ?_, ?_⟩
  · intro i hi
    rw [hr 168 (by omega), hr 181 (by omega), hr 182 (by omega), hr 183 (by omega), hr (164 + i) (by omega)]
    exact a5 i hi
  · rw [e14, h172 23 (by omega), h172 22 (by omega), hr 184 (by omega), hr 169 (by omega)]; exact a6
  · rw [e15, h9, hr 179 (by omega), hr 170 (by omega)]; exact ⟨by omega, rfl, a7.2.2⟩
  · rw [e16]; exact a8
  · rw [e16, h172 17 (by omega)]; exact a9
  · rw [e16]
    exact fun q => z_img_c (a10 q) l (fun a ha => hr a (by omega)) h130 h131

theorem z_o_text (h : z_JJ n M V) (hn : 0 ≤ n ∧ n < 80000000) {zz : Int} : z_op n x 143 267 [.inr (.inl 0), .inr (.inr 0)] [.inr (.inl 172), .inr (.inr 0), .inr (.inr 0)] M V := by
  have hRl := h.1.1
  have w := hRl.1.1.1
  have hok := hRl.1.2.2.2.2.2.2.1
  have hX := h.2
  have hT := hX.2.2.2.2.1
  obtain ⟨hs, h9, hr⟩ := hT
  have hA : z_I n (q_xA M) V := z_I_c h.1 (fun a q => q_xA_o (by omega))
  obtain ⟨b1, b2, b3⟩ := z_tr0 hA
  have eB : q_tfS 0 86 (q_xA M) = q_xB M := rfl
  rw [eB] at b1 b2 b3
  have P9 : q_pa0 M (M 0 15) 157 9 = 0 := by unfold q_pa0; rw [mj_up_at, if_pos rfl]
  have P7 : q_pa0 M (M 0 15) 157 7 = 0 := by unfold q_pa0; rw [mj_up_at, if_neg (by omega), mj_up_at, if_pos rfl]
  have P6 : q_pa0 M (M 0 15) 157 6 = M 0 15 := by unfold q_pa0; rw [mj_up_at, if_neg (by omega), mj_up_at, if_neg (by omega), mj_up_at, if_pos rfl]
  have eA : q_psM 161 (q_pa0 M (M 0 15)) = q_xA M := rfl
  have ePa : q_psR 161 (q_pa0 M (M 0 15)) = q_pa M (M 0 15) := rfl
  -- the second reading at any memory that has the text
  have rd : ∀ N : mj_M, N 172 9 = M 172 9 → N 179 = M 179 → z_t (q_pa0 M (M 0 15)) (m_x2 V N) := by
    intro N e1 e2
    unfold m_x2
    refine z_t_0 hs ?_ ?_
    · rw [m_kp_o (by omega)]
      have : m_x1 N 172 9 = N 172 9 := ((m_fs_t m_t0_fs (m_gtM_fs 161 (m_t0 N))).2 9 (by omega))
      rw [this, e1]; exact h9
    · intro j hj
      rw [m_kp_o (by omega)]
      have : m_x1 N 179 = N 179 := ((m_fs_t m_t0_fs (m_gtM_fs 161 (m_t0 N))).1 179 (by omega))
      rw [this, e2]; exact hr j hj
  have key : ∀ N : mj_M, N 172 9 = M 172 9 → N 179 = M 179 → q_pa M (M 0 15) = -1 → ∃ m : Nat, q_xA M 157 9 = (m : Int) ∧ ((q_pf m 0 (q_xB M) = 0 ∧ m_gdR 161 0 V (m_x2 V N) = -1) ∨ (q_pf m 0 (q_xB M) = 1 ∧ m_gdR 161 0 V (m_x2 V N) = m ∧ z_I n (q_pfM m 0 (q_xB M)) (m_gdV 161 V (m_x2 V N)))) ∧ m_cR V (m_gdV 161 V (m_x2 V N)) ∧ (∀ a, (a < 3 ∨ (12 < a ∧ a < 36) ∨ 42 < a) → q_pfM m 0 (q_xB M) a = q_xB M a) := by
    intro N e1 e2 c1
    have t := rd N e1 e2
    have tx := t.2.2.2.1.2.1
    have t10 := t.1
    rw [P7] at t10
    obtain ⟨m, m1, m2, m3, m4⟩ := z_pf 161 0 _ _ (q_xB M) V n 0 t (by rw [P9]; rfl) (by omega) (by rw [ePa]; exact c1) b1 (fun r j q1 q2 q3 q4 => by rw [b3 r (by omega), eA])
    rw [eA] at m1
    refine ⟨m, by omega, ?_, m3, m4⟩
    rcases m2 with g | ⟨g1, g2, g3⟩
    · exact Or.inl g
    · exact Or.inr ⟨g1, by omega, g3⟩
  have hw : q_pa M (M 0 15) = -1 → q_wr (q_xB M) ∧ (0 ≤ q_xA M 157 9 ∧ q_xA M 157 9 ≤ 160) ∧ q_xB M 157 9 = q_xA M 157 9 ∧ q_xM M 157 9 = q_xA M 157 9 := by
    intro c1
    obtain ⟨m, m1, -, -, m4⟩ := key M rfl rfl c1
    have l := q_psM_9 161 (q_pa0 M (M 0 15)) c1 (by omega) (by omega) (by omega) (by omega)
    rw [eA] at l
    have e9 : q_xB M 157 9 = q_xA M 157 9 := by rw [b3 157 (by omega)]
    have eN : q_xN M = m := by unfold q_xN; omega
    refine ⟨b1.1.1.1.1, by omega, e9, ?_⟩
    unfold q_xM
    rw [eN, m4 157 (by omega)]
    exact e9
  by_cases c1 : q_pa M (M 0 15) = -1
  rotate_left
  · -- a fault
    have o : ∀ a, (a < 157 ∨ 161 < a) → q_xA M a = M a := fun a q => q_xA_o q
    have xp := z_xp (N := q_xA M) hs (by rw [o 172 (by omega)]; exact h9) (fun j hj => by rw [o 179 (by omega)]; exact hr j hj)
    rcases xp with ⟨q, -⟩ | ⟨x1, x2⟩
    · exact absurd q c1
    have tx : m_tx (m_x1 (q_xA M)) := m_gtM_tx _ _ (m_t0_tx (by rw [o 172 (by omega), h9]; exact hs))
    have fs : m_fs (q_xA M) (m_x1 (q_xA M)) := m_fs_t m_t0_fs (m_gtM_fs 161 (m_t0 (q_xA M)))
    have t1 := tx.1
    have t2 := tx.2.1
    have ev : mj_w (-10 - q_pa M (M 0 15)) = -10 - m_x1 (q_xA M) 172 10 := by rw [x2, mj_w_id2 (by omega) (by omega)]
    refine ⟨-10 - m_x1 (q_xA M) 172 10, q_xA M, V, m_x1, 170, fun d Q => (e_143 (d := d + 191) (x := x) (M := M) (Q := Q) hs hw).trans (by rw [if_pos c1, ev]), fun d Q => r_267f (d := d + 180) (by rw [o 172 (by omega), h9]; exact hs) (by omega), o 173 (by omega), ?_⟩
    have oo : ∀ a, (a < 157 ∨ 161 < a) → a ≠ 172 → m_x1 (q_xA M) a = M a := fun a q q2 => by rw [fs.1 a q2, o a q]
    refine ⟨z_I_m (z_I_c h.1 (fun a q => oo a (by omega) (by omega))) (by omega), z_X_c hX (by omega) rfl rfl (by rw [oo 1 (by omega) (by omega)]) (fun a q => oo a (by omega) (by omega)) (fun j q => ?_) (fun j hj => ?_) ?_ ?_⟩
    · rw [fs.2 j (by omega), o 172 (by omega)]
    · rw [oo 174 (by omega) (by omega), oo 171 (by omega) (by omega)]; exact hX.2.1 j hj
    · rw [oo 130 (by omega) (by omega)]; exact (z_I_0 h.1).1
    · rw [oo 131 (by omega) (by omega)]; exact (z_I_0 h.1).2
  -- no fault
  have nc1 : ¬ q_pa M (M 0 15) ≠ -1 := fun q => q c1
  obtain ⟨m, m1, -, -, m4⟩ := key M rfl rfl c1
  have eN : q_xN M = m := by unfold q_xN; omega
  have eM : q_xM M = q_pfM m 0 (q_xB M) := by unfold q_xM; rw [eN]
  have eR : q_xR M = q_pf m 0 (q_xB M) := by unfold q_xR; rw [eN]
  have out : ∀ a, (a = 0 ∨ (43 < a ∧ a < 87) ∨ (161 < a) ∨ a = 130 ∨ a = 131) → q_xM M a = M a := fun a q => by
    rw [eM, m4 a (by omega), b3 a (by omega), q_xA_o (by omega)]
  have out1 : q_xM M 1 = M 1 := by rw [eM, m4 1 (by omega), b3 1 (by omega), q_xA_o (by omega)]
  -- what the reference keeps while it reads
  have r267 : ∀ (N : mj_M) d Q, N 172 9 = M 172 9 → N 179 = M 179 → mj_Rn (d + 200) 267 0 [.inr (.inl 172), .inr (.inr 0), .inr (.inr 0)] [] (SGx 170) (v_st V N) Q = (if m_x1 N 172 11 ≠ 0 then Q (some (.inl (-10 - m_x1 N 172 10))) (SGx 170) (v_st V (m_x1 N)) else if m_gdR 161 0 V (m_x2 V N) = -1 then Q (some (.inl (-7))) (SGx 170) (v_st (m_rs (m_x3 V N) (m_gdV 161 V (m_x2 V N))) (q_rm (m_x3 V N) 7)) else Q (some (.inl (m_gdR 161 0 V (m_x2 V N)))) (SGx 170) (v_st (m_gdV 161 V (m_x2 V N)) (mj_up (m_x3 V N) 172 9 0))) := by
    intro N d Q e1 e2
    have t := rd N e1 e2
    refine r_267 (d := d + 180) (P := fun W X => ∃ (i : Nat) (S B : mj_M) (k : Nat), z_t S X ∧ S 157 9 = (i : Int) ∧ X 172 9 < X 172 10 + k ∧ q_psR k S = -1 ∧ z_I n B W ∧ (∀ r j : Nat, 158 ≤ r → r ≤ 161 → i ≤ j → (j : Int) < q_psM k S 157 9 → B r j = q_psM k S r j)) (by rw [e1, h9]; exact hs) ?_ ?_ ?_
    · rintro W X ⟨i, S, B, k, -, -, -, -, g, -⟩
      exact g.1.1.2.2.2.2.2.2.1.1
    · rintro W X ⟨i, S, B, k, g1, g2, g3, g4, g5, g6⟩ tx s0 idr c2 c3
      obtain ⟨k, rfl⟩ : ∃ k', k = k' + 1 := ⟨k - 1, by have := g1.2.2.2.1.1; omega⟩
      have n10 : ¬ ((1 : Int) = 0) := by omega
      rcases z_t_st g2 g1 with ⟨s1, s2, s3⟩ | ⟨-, s2, -⟩ | ⟨-, s2⟩
      rotate_left
      · exact absurd s2.2 (by omega)
      · exact absurd s2.2 (by omega)
      have hz : z_t (q_sz1 (q_sttM S)) (m_stt X) := by unfold q_sz1; exact z_t_up s2 (by omega) (by omega)
      have nx := z_t_nx (c := 59) hz (by omega)
      have v : q_psR (k + 1) S = if q_stt S = 0 then q_sttM S 157 7 else if q_sz1 (q_sttM S) 157 6 ≤ q_sz1 (q_sttM S) 157 7 then -1 else if q_nx (q_sz1 (q_sttM S)) 59 = 0 then q_sz1 (q_sttM S) 157 7 else q_psR k (q_at1 (q_sz1 (q_sttM S))) := rfl
      have vM : q_psM (k + 1) S = if q_stt S = 0 then q_sttM S else if q_sz1 (q_sttM S) 157 6 ≤ q_sz1 (q_sttM S) 157 7 then q_sz1 (q_sttM S) else if q_nx (q_sz1 (q_sttM S)) 59 = 0 then q_sz1 (q_sttM S) else q_psM k (q_at1 (q_sz1 (q_sttM S))) := rfl
      have z9 : q_sz1 (q_sttM S) 157 9 = (i : Int) + 1 := by unfold q_sz1; rw [mj_up_at, if_pos rfl, (q_sttM_sp (M := S)).2.1, g2]
      have sg := m_sg_ok s0 c3
      have c59 : m_by (m_stt X) = 59 := by
        refine Classical.byContradiction fun q => ?_
        have : m_sg (m_stt X) 59 = m_bad (m_stt X) := by unfold m_sg; rw [if_neg (by omega), if_neg q]
        rw [this, m_bad_at, if_pos rfl] at c3
        omega
      have c2n : ¬ m_stt X 172 9 ≤ m_stt X 172 10 := by omega
      rw [s1, if_neg n10, nx, hz.1, hz.2.1, if_neg c2n, if_pos c59, if_neg n10] at v vM
      have p := z_t_p1 hz c2
      have f9 : m_stt X 172 9 = X 172 9 := m_stt_fs.2 9 (by omega)
      have ps := m_stt_ps (M := X)
      unfold m_pm at ps
      have a9 : q_at1 (q_sz1 (q_sttM S)) 157 9 = ((i + 1 : Nat) : Int) := by
        unfold q_at1
        rw [mj_up_at, if_neg (by omega), z9]
        push_cast
        rfl
      rw [v] at g4
      rw [vM] at g6
      have l9 : (i : Int) < q_psM k (q_at1 (q_sz1 (q_sttM S))) 157 9 := by
        have := z_pf k (i + 1) _ _ B W n 0 p a9 (by rw [m_p1_at, m_p1_at, if_neg (by omega), if_pos rfl, f9]; omega) g4 g5 (fun r j q1 q2 q3 q4 => g6 r j q1 q2 (by omega) q4)
        obtain ⟨m', h1, -⟩ := this
        rw [h1]; push_cast; omega
      have hb : ∀ r, 158 ≤ r → r ≤ 161 → B r i = q_sttM S r i := by
        intro r q1 q2
        rw [g6 r i q1 q2 (by omega) l9, q_psM_k (by omega) k _ (by rw [a9]; omega) (by rw [a9]; right; push_cast; omega), q_at1_7 (by omega), q_sz1_7 (by omega)]
      obtain ⟨v1, v2, v3, v4⟩ := s3
      obtain ⟨d1, d2⟩ := z_po g5 (by rw [hb 158 (by omega) (by omega)]; exact v1) (by rw [hb 159 (by omega) (by omega)]; exact v2) (by rw [hb 160 (by omega) (by omega)]; exact v3) (fun q => by rw [hb 161 (by omega) (by omega)]; exact v4 q) m_stt_k m_stt_15
      refine ⟨i + 1, q_at1 (q_sz1 (q_sttM S)), q_poM B i, k, by rw [sg]; exact p, a9, ?_, g4, d2 (by omega), fun r j q1 q2 q3 q4 => by rw [q_poM_fr (by omega)]; exact g6 r j q1 q2 (by omega) q4⟩
      rw [sg, m_p1_at, m_p1_at, if_neg (by omega), if_pos rfl, f9]
      push_cast at g3
      omega
    · have t10 := t.1
      rw [P7] at t10
      have tx := t.2.2.2.1.2.1
      exact ⟨0, q_pa0 M (M 0 15), q_xB M, 161, t, by rw [P9]; rfl, by omega, by rw [ePa]; exact c1, b1, fun r j q1 q2 q3 q4 => by rw [b3 r (by omega), eA]⟩
  have x1 : ∀ N : mj_M, N 172 9 = M 172 9 → N 179 = M 179 → m_x1 N 172 11 = 0 := by
    intro N e1 e2
    rcases z_xp (N := N) hs (by rw [e1]; exact h9) (fun j hj => by rw [e2]; exact hr j hj) with ⟨-, q⟩ | ⟨q1, q2⟩
    · exact q
    · exfalso
      have tx : m_tx (m_x1 N) := m_gtM_tx _ _ (m_t0_tx (by rw [e1, h9]; exact hs))
      have := tx.1
      omega
  have x3 : ∀ N : mj_M, m_fs (m_kp V (m_x1 N)) (m_x3 V N) := fun N => m_fs_t m_t0_fs (m_gdM_fs 161 V (m_x2 V N))
  have x3o : ∀ (N : mj_M) a, a ≠ 172 → a ≠ 175 → m_x3 V N a = N a := fun N a q1 q2 => by
    rw [(x3 N).1 a q1, m_kp_o q2]
    exact (m_fs_t m_t0_fs (m_gtM_fs 161 (m_t0 N))).1 a q1
  have x3k : ∀ (N : mj_M) (j : Nat), (j < 10 ∨ 15 < j) → m_x3 V N 172 j = N 172 j := fun N j q => by
    rw [(x3 N).2 j q, m_kp_o (by omega)]
    exact (m_fs_t m_t0_fs (m_gtM_fs 161 (m_t0 N))).2 j q
  by_cases c2 : q_xR M = 0
  · -- one can't be done: all is as it was
    have hxT : ∀ a, 86 < a → a < 130 → q_xM M a = q_tfS 0 86 (q_xA M) a := fun a q1 q2 => by rw [eM, m4 a (by omega), eB]
    obtain ⟨t1, t2, t3⟩ := z_tr1 (T := q_xM M) hA hxT (by rw [out 9001 (by omega), q_xA_o (by omega)]) (by rw [out 130 (by omega)]; exact (z_I_0 h.1).1) (by rw [out 131 (by omega)]; exact (z_I_0 h.1).2)
    obtain ⟨N, hN⟩ : ∃ N, q_re (q_tfS 86 0 (q_xM M)) 7 = N := ⟨_, rfl⟩
    have oN : ∀ a, a ≠ 171 → (a < 1 ∨ 43 < a) → N a = q_xM M a := fun a q1 q2 => by rw [← hN, q_re_ne q1, t3 a q2]
    have oN2 : ∀ a, a ≠ 171 → N a = q_tfS 86 0 (q_xM M) a := fun a q1 => by rw [← hN, q_re_ne q1]
    have n172 : N 172 = M 172 := by rw [oN 172 (by omega) (by omega), out 172 (by omega)]
    have n179 : N 179 = M 179 := by rw [oN 179 (by omega) (by omega), out 179 (by omega)]
    obtain ⟨m', m1', m2', m3', -⟩ := key N (by rw [n172]) n179 c1
    have em : m' = m := by omega
    rw [em] at m2'
    have g : m_gdR 161 0 V (m_x2 V N) = -1 := by
      rcases m2' with ⟨-, q⟩ | ⟨q, -⟩
      · exact q
      · rw [eR] at c2; omega
    have x11 := x1 N (by rw [n172]) n179
    have nx : ¬ m_x1 N 172 11 ≠ 0 := fun q => q x11
    have ers : ∀ Z, v_st (m_rs (m_x3 V N) (m_gdV 161 V (m_x2 V N))) Z = v_st V Z := fun Z => m_rs_e (fun k hk => by rw [(x3 N).1 175 (by omega), m_kp_at hk]) m3'.2
    refine ⟨-7, N, V, fun X => q_rm (m_x3 V X) 7, 170, fun d Q => (e_143 (d := d + 191) (x := x) (M := M) (Q := Q) hs hw).trans (by rw [if_neg nc1, if_pos c2, hN]), fun d Q => (r267 N d Q (by rw [n172]) n179).trans (by rw [if_neg nx, if_pos g, ers]), by rw [oN 173 (by omega) (by omega), out 173 (by omega)], ?_⟩
    show z_JJ (n + 1000) (q_rm (m_x3 V N) 7) V
    have oo : ∀ a, a ≠ 171 → a ≠ 172 → a ≠ 174 → a ≠ 175 → q_rm (m_x3 V N) 7 a = N a := fun a q1 q2 q3 q4 => by rw [q_rm_ne q3, x3o N a q2 q4]
    have hI : z_I (n + 1000) (q_rm (m_x3 V N) 7) V := z_I_m (z_I_c t1 (fun a q => by rw [oo a (by omega) (by omega) (by omega) (by omega), oN2 a (by omega)])) (by omega)
    refine ⟨hI, z_X_c hX (by omega) rfl rfl ?_ (fun a q => ?_) (fun j q => ?_) (fun j hj => ?_) (z_I_0 hI).1 (z_I_0 hI).2⟩
    · rw [oo 1 (by omega) (by omega) (by omega) (by omega), oN2 1 (by omega), t2 1 9 (by unfold q_in; omega) (by omega), q_xA_o (by omega)]
    · rw [oo a (by omega) (by omega) (by omega) (by omega), oN a (by omega) (by omega), out a (by omega)]
    · rw [q_rm_ne (by omega), x3k N j (by omega), n172]
    · have k1 : ∀ j, m_x3 V N 174 j = M 174 j := fun j => by rw [x3o N 174 (by omega) (by omega), oN 174 (by omega) (by omega), out 174 (by omega)]
      have k2 : ∀ j, m_x3 V N 171 j = if j = 7 then mj_w (M 171 7 + 1) else M 171 j := fun j => by
        rw [x3o N 171 (by omega) (by omega), ← hN]
        unfold q_re
        rw [mj_up_at, t3 171 (by omega), out 171 (by omega)]
      have e1 : q_rm (m_x3 V N) 7 171 j = if j = 7 then mj_w (M 171 7 + 1) else M 171 j := by rw [q_rm_ne (by omega), k2]
      have e2 : q_rm (m_x3 V N) 7 174 j = if j = 7 then mj_w (M 174 7 + 1) else M 174 j := by unfold q_rm; rw [mj_up_at, k1, k1]
      rw [e1, e2, hX.2.1 7 (by omega), hX.2.1 j hj]
  · -- all is done
    obtain ⟨N, hN⟩ : ∃ N, mj_up (q_xM M) 0 15 0 = N := ⟨_, rfl⟩
    have oN : ∀ a, a ≠ 0 → N a = q_xM M a := fun a q => by rw [← hN, mj_up_ne q]
    have n172 : N 172 = M 172 := by rw [oN 172 (by omega), out 172 (by omega)]
    have n179 : N 179 = M 179 := by rw [oN 179 (by omega), out 179 (by omega)]
    obtain ⟨m', m1', m2', m3', -⟩ := key N (by rw [n172]) n179 c1
    have em : m' = m := by omega
    rw [em] at m2'
    obtain ⟨g1, g2⟩ : m_gdR 161 0 V (m_x2 V N) = m ∧ z_I n (q_xM M) (m_gdV 161 V (m_x2 V N)) := by
      rcases m2' with ⟨q, -⟩ | ⟨-, q1, q2⟩
      · exact absurd (eR.trans q) c2
      · exact ⟨q1, by rw [eM]; exact q2⟩
    have x11 := x1 N (by rw [n172]) n179
    have nx : ¬ m_x1 N 172 11 ≠ 0 := fun q => q x11
    have ng : ¬ m_gdR 161 0 V (m_x2 V N) = -1 := by omega
    refine ⟨q_xA M 157 9, N, m_gdV 161 V (m_x2 V N), fun X => mj_up (m_x3 V X) 172 9 0, 170, fun d Q => (e_143 (d := d + 191) (x := x) (M := M) (Q := Q) hs hw).trans (by rw [if_neg nc1, if_neg c2, hN]), fun d Q => (r267 N d Q (by rw [n172]) n179).trans (by rw [if_neg nx, if_neg ng, g1, m1]), by rw [oN 173 (by omega), out 173 (by omega)], ?_⟩
    show z_JJ (n + 1000) (mj_up (m_x3 V N) 172 9 0) (m_gdV 161 V (m_x2 V N))
    have oo : ∀ a, a ≠ 172 → a ≠ 175 → mj_up (m_x3 V N) 172 9 0 a = N a := fun a q1 q2 => by rw [mj_up_ne q1, x3o N a q1 q2]
    have hI : z_I (n + 1000) (mj_up (m_x3 V N) 172 9 0) (m_gdV 161 V (m_x2 V N)) := z_I_m (z_I_pt g2 (fun a i q => by rw [oo a (by unfold q_in at q; omega) (by unfold q_in at q; omega), oN a (by unfold q_in at q; omega)]) (by rw [oo 130 (by omega) (by omega), oN 130 (by omega), out 130 (by omega)]; exact (z_I_0 h.1).1) (by rw [oo 131 (by omega) (by omega), oN 131 (by omega), out 131 (by omega)]; exact (z_I_0 h.1).2)) (by omega)
    refine ⟨hI, z_X_tp hX (by omega) m3'.1 m3'.2 ?_ (fun a q => ?_) (fun j => ?_) ?_ (fun j q => ?_) (fun j hj => ?_) (z_I_0 hI).1 (z_I_0 hI).2⟩
    · rw [oo 1 (by omega) (by omega), oN 1 (by omega), out1]
    · rw [oo a (by omega) (by omega), oN a (by omega), out a (by omega)]
    · rw [oo 0 (by omega) (by omega), ← hN, mj_up_at, out 0 (by omega)]
    · rw [mj_up_at, if_pos rfl]
    · rw [mj_up_at, if_neg (by omega), x3k N j (by omega), n172]
    · rw [oo 174 (by omega) (by omega), oo 171 (by omega) (by omega), oN 174 (by omega), oN 171 (by omega), out 174 (by omega), out 171 (by omega)]; exact hX.2.1 j hj

end op26
