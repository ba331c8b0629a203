section law
variable {M V N W : mj_M} {x d : Nat} {n i L : Int} {S : Nat → Int}
/-- what holds between the law's calls -/
def lw_J (n : Int) (S : Nat → Int) (L : Int) (V M : mj_M) : Prop := z_JJ n M V ∧ v_st V M = M ∧ M 9000 = S ∧ M 9002 0 = L
theorem lw_J_m {m : Int} (h : lw_J n S L V M) (l : n ≤ m) : lw_J m S L V M := ⟨z_JJ_m h.1 l, h.2⟩
theorem v_st_st : v_st W (v_st W M) = v_st W M := by
  funext a
  unfold v_st mj_upr
  split <;> rfl
theorem lw_z {kc km : Nat} {la lm : List mj_V} (hJ : lw_J n S L V M) (o : z_op n x kc km la lm M V) : ∃ (v : Int) (N V1 M1 : mj_M) (x1 : Nat), (∀ d Q, mj_Rn (d + 200) kc 0 la [] (SGx x) M Q = Q (some (.inl v)) (SGx x1) N) ∧ (∀ d Q, mj_Rn (d + 200) km 0 lm [] (SGx x1) N Q = Q (some (.inl v)) (SGx x1) M1) ∧ (N 9000 = S ∧ N 9002 0 = L) ∧ lw_J (n + 1000) S L V1 M1 := by
  obtain ⟨v, M', V', F, x', hc, hm, h173, hJ'⟩ := o
  obtain ⟨-, j2, j3, j4⟩ := hJ
  have e : v_st V M' = M' := by
    funext a
    unfold v_st mj_upr
    by_cases c : a = 173
    · rw [if_pos c, c, h173, ← j2]
      unfold v_st mj_upr
      rw [if_pos rfl]
    · rw [if_neg c]
  rw [e] at hm
  have r1 := mj_Rn_ro (hc 0) (show 185 ≤ 9000 by omega)
  have r2 := mj_Rn_ro (hm 0) (show 185 ≤ 9000 by omega)
  have n1 : M' 9000 = S := by rw [r1 9000 (by omega)]; exact j3
  have n2 : M' 9002 0 = L := by rw [r1 9002 (by omega)]; exact j4
  exact ⟨v, M', V', v_st V' (F M'), x', hc, hm, ⟨n1, n2⟩, z_JJ_st hJ', v_st_st, by rw [r2 9000 (by omega)]; exact n1, by rw [r2 9002 (by omega)]; exact n2⟩
theorem g_s : mj_ai (SGx x) M 9000 = some (M 9002 0).toNat := rfl
theorem lw_c0 (hJ : lw_J n S L V M) (hn : 0 ≤ n ∧ n < 80000000) (hS : ∀ j, -2147483648 ≤ S j ∧ S j < 2147483648) (hi : 0 ≤ i ∧ i + 5 ≤ L) (hL : L ≤ 2560) : ∃ (V1 M1 : mj_M) (x1 : Nat), lw_J (n + 1000) S L V1 M1 ∧ ∀ d Q, mj_Rn (d + 201) 287 204 [.inr (.inl 9000), .inr (.inl 0), .inr (.inl 172), .inl i] [] (SGx x) M Q = mj_Rn (d + 201) 287 1361 [.inr (.inl 9000), .inr (.inl 0), .inr (.inl 172), .inl i] [] (SGx x1) M1 Q := by
  obtain ⟨v, N, V1, M1, x1, hc, hm, ⟨n1, n2⟩, h1⟩ := lw_z hJ (z_o_act (x := x) hJ.1 (hn := ⟨by omega, by omega⟩) (y := (S (i + 1).toNat)) (what := (S (i + 2).toNat)) (a := (S (i + 3).toNat)) (bc := (S (i + 4).toNat)))
  refine ⟨V1, M1, x1, h1, fun d Q => ?_⟩
  have m1 := hJ.2.2.1
  have m2 := hJ.2.2.2
  have l0 : ((L.toNat : Nat) : Int) = L := by omega
  have b1 : 0 ≤ i + 1 := by omega
  have b2 : 0 ≤ i + 2 := by omega
  have b3 : 0 ≤ i + 3 := by omega
  have b4 : 0 ≤ i + 4 := by omega
  have c1 : i + 1 < L := by omega
  have c2 : i + 2 < L := by omega
  have c3 : i + 3 < L := by omega
  have c4 : i + 4 < L := by omega
  simp (disch := omega) only [i_287_204, i_287_205, i_287_206, i_287_207, i_287_208, i_287_209, i_287_210, i_287_211, i_287_212, i_287_213, i_287_214, i_287_215, i_287_216, i_287_217, i_287_218, i_287_219, i_287_220, i_287_221, i_287_222, i_287_223, i_287_224, i_287_225, i_287_228, i_287_229, i_287_230, i_287_231, i_287_232, i_287_233, i_287_234, i_287_235, i_287_236, i_287_237, i_287_238, i_287_239, i_287_240, i_287_241, i_287_242, i_287_243, i_287_244, i_287_245, i_287_246, i_287_247, i_287_248, i_287_249, i_287_252, i_287_255, i_287_256, g_s, g_o0, g_o172, m1, m2, n1, n2, hc, hm, l0, b1, b2, b3, b4, c1, c2, c3, c4, exists_eq_left', Option.some.injEq, exists_eq_left, ne_eq, List.length_nil, List.length_cons, Option.toList_some, Option.toList_none, List.cons_append, List.nil_append, mj_wt_nil, mj_wt_i, mj_wt_r, mj_wt_l, true_and, and_true, false_and, and_false, true_implies, false_implies, implies_true, not_true_eq_false, not_false_eq_true, and_self, Int.reduceEq, Nat.reduceEqDiff, ↓reduceIte, mj_w_id2, List.append_nil]
  try grind
theorem lw_c1 (hJ : lw_J n S L V M) (hn : 0 ≤ n ∧ n < 80000000) (hS : ∀ j, -2147483648 ≤ S j ∧ S j < 2147483648) (hi : 0 ≤ i ∧ i + 5 ≤ L) (hL : L ≤ 2560) : ∃ (V1 M1 : mj_M) (x1 : Nat), lw_J (n + 1000) S L V1 M1 ∧ ∀ d Q, mj_Rn (d + 201) 287 257 [.inr (.inl 9000), .inr (.inl 0), .inr (.inl 172), .inl i] [] (SGx x) M Q = mj_Rn (d + 201) 287 1361 [.inr (.inl 9000), .inr (.inl 0), .inr (.inl 172), .inl i] [] (SGx x1) M1 Q := by
  obtain ⟨v, N, V1, M1, x1, hc, hm, ⟨n1, n2⟩, h1⟩ := lw_z hJ (z_o_load (x := x) hJ.1 (y := (S (i + 1).toNat)) (s := (S (i + 2).toNat)))
  refine ⟨V1, M1, x1, h1, fun d Q => ?_⟩
  have m1 := hJ.2.2.1
  have m2 := hJ.2.2.2
  have l0 : ((L.toNat : Nat) : Int) = L := by omega
  have b1 : 0 ≤ i + 1 := by omega
  have b2 : 0 ≤ i + 2 := by omega
  have b3 : 0 ≤ i + 3 := by omega
  have b4 : 0 ≤ i + 4 := by omega
  have c1 : i + 1 < L := by omega
  have c2 : i + 2 < L := by omega
  have c3 : i + 3 < L := by omega
  have c4 : i + 4 < L := by omega
  simp (disch := omega) only [i_287_257, i_287_258, i_287_259, i_287_260, i_287_261, i_287_262, i_287_263, i_287_264, i_287_265, i_287_266, i_287_267, i_287_268, i_287_271, i_287_272, i_287_273, i_287_274, i_287_275, i_287_276, i_287_277, i_287_278, i_287_279, i_287_280, i_287_281, i_287_282, i_287_285, i_287_288, i_287_289, g_s, g_o0, g_o172, m1, m2, n1, n2, hc, hm, l0, b1, b2, b3, b4, c1, c2, c3, c4, exists_eq_left', Option.some.injEq, exists_eq_left, ne_eq, List.length_nil, List.length_cons, Option.toList_some, Option.toList_none, List.cons_append, List.nil_append, mj_wt_nil, mj_wt_i, mj_wt_r, mj_wt_l, true_and, and_true, false_and, and_false, true_implies, false_implies, implies_true, not_true_eq_false, not_false_eq_true, and_self, Int.reduceEq, Nat.reduceEqDiff, ↓reduceIte, mj_w_id2, List.append_nil]
  try grind
theorem lw_c2 (hJ : lw_J n S L V M) (hn : 0 ≤ n ∧ n < 80000000) (hS : ∀ j, -2147483648 ≤ S j ∧ S j < 2147483648) (hi : 0 ≤ i ∧ i + 5 ≤ L) (hL : L ≤ 2560) : ∃ (V1 M1 : mj_M) (x1 : Nat), lw_J (n + 1000) S L V1 M1 ∧ ∀ d Q, mj_Rn (d + 201) 287 290 [.inr (.inl 9000), .inr (.inl 0), .inr (.inl 172), .inl i] [] (SGx x) M Q = mj_Rn (d + 201) 287 1361 [.inr (.inl 9000), .inr (.inl 0), .inr (.inl 172), .inl i] [] (SGx x1) M1 Q := by
  obtain ⟨v, N, V1, M1, x1, hc, hm, ⟨n1, n2⟩, h1⟩ := lw_z hJ (z_o_store (x := x) hJ.1 (hn := ⟨by omega, by omega⟩) (y := (S (i + 1).toNat)) (s := (S (i + 2).toNat)) (v := (S (i + 3).toNat)))
  refine ⟨V1, M1, x1, h1, fun d Q => ?_⟩
  have m1 := hJ.2.2.1
  have m2 := hJ.2.2.2
  have l0 : ((L.toNat : Nat) : Int) = L := by omega
  have b1 : 0 ≤ i + 1 := by omega
  have b2 : 0 ≤ i + 2 := by omega
  have b3 : 0 ≤ i + 3 := by omega
  have b4 : 0 ≤ i + 4 := by omega
  have c1 : i + 1 < L := by omega
  have c2 : i + 2 < L := by omega
  have c3 : i + 3 < L := by omega
  have c4 : i + 4 < L := by omega
  simp (disch := omega) only [i_287_290, i_287_291, i_287_292, i_287_293, i_287_294, i_287_295, i_287_296, i_287_297, i_287_298, i_287_299, i_287_300, i_287_301, i_287_302, i_287_303, i_287_304, i_287_305, i_287_306, i_287_309, i_287_310, i_287_311, i_287_312, i_287_313, i_287_314, i_287_315, i_287_316, i_287_317, i_287_318, i_287_319, i_287_320, i_287_321, i_287_322, i_287_323, i_287_324, i_287_325, i_287_328, i_287_331, i_287_332, g_s, g_o0, g_o172, m1, m2, n1, n2, hc, hm, l0, b1, b2, b3, b4, c1, c2, c3, c4, exists_eq_left', Option.some.injEq, exists_eq_left, ne_eq, List.length_nil, List.length_cons, Option.toList_some, Option.toList_none, List.cons_append, List.nil_append, mj_wt_nil, mj_wt_i, mj_wt_r, mj_wt_l, true_and, and_true, false_and, and_false, true_implies, false_implies, implies_true, not_true_eq_false, not_false_eq_true, and_self, Int.reduceEq, Nat.reduceEqDiff, ↓reduceIte, mj_w_id2, List.append_nil]
  try grind
theorem lw_c3 (hJ : lw_J n S L V M) (hn : 0 ≤ n ∧ n < 80000000) (hS : ∀ j, -2147483648 ≤ S j ∧ S j < 2147483648) (hi : 0 ≤ i ∧ i + 5 ≤ L) (hL : L ≤ 2560) : ∃ (V1 M1 : mj_M) (x1 : Nat), lw_J (n + 1000) S L V1 M1 ∧ ∀ d Q, mj_Rn (d + 201) 287 333 [.inr (.inl 9000), .inr (.inl 0), .inr (.inl 172), .inl i] [] (SGx x) M Q = mj_Rn (d + 201) 287 1361 [.inr (.inl 9000), .inr (.inl 0), .inr (.inl 172), .inl i] [] (SGx x1) M1 Q := by
  obtain ⟨v, N, V1, M1, x1, hc, hm, ⟨n1, n2⟩, h1⟩ := lw_z hJ (z_o_thing (x := x) hJ.1 (y := (S (i + 1).toNat)) (k := (S (i + 2).toNat)))
  refine ⟨V1, M1, x1, h1, fun d Q => ?_⟩
  have m1 := hJ.2.2.1
  have m2 := hJ.2.2.2
  have l0 : ((L.toNat : Nat) : Int) = L := by omega
  have b1 : 0 ≤ i + 1 := by omega
  have b2 : 0 ≤ i + 2 := by omega
  have b3 : 0 ≤ i + 3 := by omega
  have b4 : 0 ≤ i + 4 := by omega
  have c1 : i + 1 < L := by omega
  have c2 : i + 2 < L := by omega
  have c3 : i + 3 < L := by omega
  have c4 : i + 4 < L := by omega
  simp (disch := omega) only [i_287_333, i_287_334, i_287_335, i_287_336, i_287_337, i_287_338, i_287_339, i_287_340, i_287_341, i_287_342, i_287_343, i_287_344, i_287_347, i_287_348, i_287_349, i_287_350, i_287_351, i_287_352, i_287_353, i_287_354, i_287_355, i_287_356, i_287_357, i_287_358, i_287_361, i_287_364, i_287_365, g_s, g_o0, g_o172, m1, m2, n1, n2, hc, hm, l0, b1, b2, b3, b4, c1, c2, c3, c4, exists_eq_left', Option.some.injEq, exists_eq_left, ne_eq, List.length_nil, List.length_cons, Option.toList_some, Option.toList_none, List.cons_append, List.nil_append, mj_wt_nil, mj_wt_i, mj_wt_r, mj_wt_l, true_and, and_true, false_and, and_false, true_implies, false_implies, implies_true, not_true_eq_false, not_false_eq_true, and_self, Int.reduceEq, Nat.reduceEqDiff, ↓reduceIte, mj_w_id2, List.append_nil]
  try grind
theorem lw_c4 (hJ : lw_J n S L V M) (hn : 0 ≤ n ∧ n < 80000000) (hS : ∀ j, -2147483648 ≤ S j ∧ S j < 2147483648) (hi : 0 ≤ i ∧ i + 5 ≤ L) (hL : L ≤ 2560) : ∃ (V1 M1 : mj_M) (x1 : Nat), lw_J (n + 1000) S L V1 M1 ∧ ∀ d Q, mj_Rn (d + 201) 287 366 [.inr (.inl 9000), .inr (.inl 0), .inr (.inl 172), .inl i] [] (SGx x) M Q = mj_Rn (d + 201) 287 1361 [.inr (.inl 9000), .inr (.inl 0), .inr (.inl 172), .inl i] [] (SGx x1) M1 Q := by
  obtain ⟨v, N, V1, M1, x1, hc, hm, ⟨n1, n2⟩, h1⟩ := lw_z hJ (z_o_out (x := x) hJ.1 (y := (S (i + 1).toNat)) (i := (S (i + 2).toNat)))
  refine ⟨V1, M1, x1, h1, fun d Q => ?_⟩
  have m1 := hJ.2.2.1
  have m2 := hJ.2.2.2
  have l0 : ((L.toNat : Nat) : Int) = L := by omega
  have b1 : 0 ≤ i + 1 := by omega
  have b2 : 0 ≤ i + 2 := by omega
  have b3 : 0 ≤ i + 3 := by omega
  have b4 : 0 ≤ i + 4 := by omega
  have c1 : i + 1 < L := by omega
  have c2 : i + 2 < L := by omega
  have c3 : i + 3 < L := by omega
  have c4 : i + 4 < L := by omega
  simp (disch := omega) only [i_287_366, i_287_367, i_287_368, i_287_369, i_287_370, i_287_371, i_287_372, i_287_373, i_287_374, i_287_375, i_287_376, i_287_377, i_287_380, i_287_381, i_287_382, i_287_383, i_287_384, i_287_385, i_287_386, i_287_387, i_287_388, i_287_389, i_287_390, i_287_391, i_287_394, i_287_397, i_287_398, g_s, g_o0, g_o172, m1, m2, n1, n2, hc, hm, l0, b1, b2, b3, b4, c1, c2, c3, c4, exists_eq_left', Option.some.injEq, exists_eq_left, ne_eq, List.length_nil, List.length_cons, Option.toList_some, Option.toList_none, List.cons_append, List.nil_append, mj_wt_nil, mj_wt_i, mj_wt_r, mj_wt_l, true_and, and_true, false_and, and_false, true_implies, false_implies, implies_true, not_true_eq_false, not_false_eq_true, and_self, Int.reduceEq, Nat.reduceEqDiff, ↓reduceIte, mj_w_id2, List.append_nil]
  try grind
theorem lw_c5 (hJ : lw_J n S L V M) (hn : 0 ≤ n ∧ n < 80000000) (hS : ∀ j, -2147483648 ≤ S j ∧ S j < 2147483648) (hi : 0 ≤ i ∧ i + 5 ≤ L) (hL : L ≤ 2560) : ∃ (V1 M1 : mj_M) (x1 : Nat), lw_J (n + 1000) S L V1 M1 ∧ ∀ d Q, mj_Rn (d + 201) 287 399 [.inr (.inl 9000), .inr (.inl 0), .inr (.inl 172), .inl i] [] (SGx x) M Q = mj_Rn (d + 201) 287 1361 [.inr (.inl 9000), .inr (.inl 0), .inr (.inl 172), .inl i] [] (SGx x1) M1 Q := by
  obtain ⟨v, N, V1, M1, x1, hc, hm, ⟨n1, n2⟩, h1⟩ := lw_z hJ (z_o_token (x := x) hJ.1 (t := (S (i + 1).toNat)) (k := (S (i + 2).toNat)))
  refine ⟨V1, M1, x1, h1, fun d Q => ?_⟩
  have m1 := hJ.2.2.1
  have m2 := hJ.2.2.2
  have l0 : ((L.toNat : Nat) : Int) = L := by omega
  have b1 : 0 ≤ i + 1 := by omega
  have b2 : 0 ≤ i + 2 := by omega
  have b3 : 0 ≤ i + 3 := by omega
  have b4 : 0 ≤ i + 4 := by omega
  have c1 : i + 1 < L := by omega
  have c2 : i + 2 < L := by omega
  have c3 : i + 3 < L := by omega
  have c4 : i + 4 < L := by omega
  simp (disch := omega) only [i_287_399, i_287_400, i_287_401, i_287_402, i_287_403, i_287_404, i_287_405, i_287_406, i_287_407, i_287_408, i_287_409, i_287_410, i_287_413, i_287_414, i_287_415, i_287_416, i_287_417, i_287_418, i_287_419, i_287_420, i_287_421, i_287_422, i_287_423, i_287_424, i_287_427, i_287_430, i_287_431, g_s, g_o0, g_o172, m1, m2, n1, n2, hc, hm, l0, b1, b2, b3, b4, c1, c2, c3, c4, exists_eq_left', Option.some.injEq, exists_eq_left, ne_eq, List.length_nil, List.length_cons, Option.toList_some, Option.toList_none, List.cons_append, List.nil_append, mj_wt_nil, mj_wt_i, mj_wt_r, mj_wt_l, true_and, and_true, false_and, and_false, true_implies, false_implies, implies_true, not_true_eq_false, not_false_eq_true, and_self, Int.reduceEq, Nat.reduceEqDiff, ↓reduceIte, mj_w_id2, List.append_nil]
  try grind
theorem lw_c6 (hJ : lw_J n S L V M) (hn : 0 ≤ n ∧ n < 80000000) (hS : ∀ j, -2147483648 ≤ S j ∧ S j < 2147483648) (hi : 0 ≤ i ∧ i + 5 ≤ L) (hL : L ≤ 2560) : ∃ (V1 M1 : mj_M) (x1 : Nat), lw_J (n + 1000) S L V1 M1 ∧ ∀ d Q, mj_Rn (d + 201) 287 432 [.inr (.inl 9000), .inr (.inl 0), .inr (.inl 172), .inl i] [] (SGx x) M Q = mj_Rn (d + 201) 287 1361 [.inr (.inl 9000), .inr (.inl 0), .inr (.inl 172), .inl i] [] (SGx x1) M1 Q := by
  obtain ⟨v, N, V1, M1, x1, hc, hm, ⟨n1, n2⟩, h1⟩ := lw_z hJ (z_o_slot (x := x) hJ.1 (y := (S (i + 1).toNat)) (s := (S (i + 2).toNat)))
  refine ⟨V1, M1, x1, h1, fun d Q => ?_⟩
  have m1 := hJ.2.2.1
  have m2 := hJ.2.2.2
  have l0 : ((L.toNat : Nat) : Int) = L := by omega
  have b1 : 0 ≤ i + 1 := by omega
  have b2 : 0 ≤ i + 2 := by omega
  have b3 : 0 ≤ i + 3 := by omega
  have b4 : 0 ≤ i + 4 := by omega
  have c1 : i + 1 < L := by omega
  have c2 : i + 2 < L := by omega
  have c3 : i + 3 < L := by omega
  have c4 : i + 4 < L := by omega
  simp (disch := omega) only [i_287_432, i_287_433, i_287_434, i_287_435, i_287_436, i_287_437, i_287_438, i_287_439, i_287_440, i_287_441, i_287_442, i_287_443, i_287_446, i_287_447, i_287_448, i_287_449, i_287_450, i_287_451, i_287_452, i_287_453, i_287_454, i_287_455, i_287_456, i_287_457, i_287_460, i_287_463, i_287_464, g_s, g_o0, g_o172, m1, m2, n1, n2, hc, hm, l0, b1, b2, b3, b4, c1, c2, c3, c4, exists_eq_left', Option.some.injEq, exists_eq_left, ne_eq, List.length_nil, List.length_cons, Option.toList_some, Option.toList_none, List.cons_append, List.nil_append, mj_wt_nil, mj_wt_i, mj_wt_r, mj_wt_l, true_and, and_true, false_and, and_false, true_implies, false_implies, implies_true, not_true_eq_false, not_false_eq_true, and_self, Int.reduceEq, Nat.reduceEqDiff, ↓reduceIte, mj_w_id2, List.append_nil]
  try grind
theorem lw_c7 (hJ : lw_J n S L V M) (hn : 0 ≤ n ∧ n < 80000000) (hS : ∀ j, -2147483648 ≤ S j ∧ S j < 2147483648) (hi : 0 ≤ i ∧ i + 5 ≤ L) (hL : L ≤ 2560) : ∃ (V1 M1 : mj_M) (x1 : Nat), lw_J (n + 1000) S L V1 M1 ∧ ∀ d Q, mj_Rn (d + 201) 287 465 [.inr (.inl 9000), .inr (.inl 0), .inr (.inl 172), .inl i] [] (SGx x) M Q = mj_Rn (d + 201) 287 1361 [.inr (.inl 9000), .inr (.inl 0), .inr (.inl 172), .inl i] [] (SGx x1) M1 Q := by
  obtain ⟨v, N, V1, M1, x1, hc, hm, ⟨n1, n2⟩, h1⟩ := lw_z hJ (z_o_below (x := x) hJ.1 (t := (S (i + 1).toNat)))
  refine ⟨V1, M1, x1, h1, fun d Q => ?_⟩
  have m1 := hJ.2.2.1
  have m2 := hJ.2.2.2
  have l0 : ((L.toNat : Nat) : Int) = L := by omega
  have b1 : 0 ≤ i + 1 := by omega
  have b2 : 0 ≤ i + 2 := by omega
  have b3 : 0 ≤ i + 3 := by omega
  have b4 : 0 ≤ i + 4 := by omega
  have c1 : i + 1 < L := by omega
  have c2 : i + 2 < L := by omega
  have c3 : i + 3 < L := by omega
  have c4 : i + 4 < L := by omega
  simp (disch := omega) only [i_287_465, i_287_466, i_287_467, i_287_468, i_287_469, i_287_470, i_287_471, i_287_474, i_287_475, i_287_476, i_287_477, i_287_478, i_287_479, i_287_480, i_287_483, i_287_486, i_287_487, g_s, g_o0, g_o172, m1, m2, n1, n2, hc, hm, l0, b1, b2, b3, b4, c1, c2, c3, c4, exists_eq_left', Option.some.injEq, exists_eq_left, ne_eq, List.length_nil, List.length_cons, Option.toList_some, Option.toList_none, List.cons_append, List.nil_append, mj_wt_nil, mj_wt_i, mj_wt_r, mj_wt_l, true_and, and_true, false_and, and_false, true_implies, false_implies, implies_true, not_true_eq_false, not_false_eq_true, and_self, Int.reduceEq, Nat.reduceEqDiff, ↓reduceIte, mj_w_id2, List.append_nil]
  try grind
theorem lw_c8 (hJ : lw_J n S L V M) (hn : 0 ≤ n ∧ n < 80000000) (hS : ∀ j, -2147483648 ≤ S j ∧ S j < 2147483648) (hi : 0 ≤ i ∧ i + 5 ≤ L) (hL : L ≤ 2560) : ∃ (V1 M1 : mj_M) (x1 : Nat), lw_J (n + 1000) S L V1 M1 ∧ ∀ d Q, mj_Rn (d + 201) 287 488 [.inr (.inl 9000), .inr (.inl 0), .inr (.inl 172), .inl i] [] (SGx x) M Q = mj_Rn (d + 201) 287 1361 [.inr (.inl 9000), .inr (.inl 0), .inr (.inl 172), .inl i] [] (SGx x1) M1 Q := by
  obtain ⟨v, N, V1, M1, x1, hc, hm, ⟨n1, n2⟩, h1⟩ := lw_z hJ (z_o_isBelow (x := x) hJ.1 (t := (S (i + 1).toNat)) (o := (S (i + 2).toNat)))
  refine ⟨V1, M1, x1, h1, fun d Q => ?_⟩
  have m1 := hJ.2.2.1
  have m2 := hJ.2.2.2
  have l0 : ((L.toNat : Nat) : Int) = L := by omega
  have b1 : 0 ≤ i + 1 := by omega
  have b2 : 0 ≤ i + 2 := by omega
  have b3 : 0 ≤ i + 3 := by omega
  have b4 : 0 ≤ i + 4 := by omega
  have c1 : i + 1 < L := by omega
  have c2 : i + 2 < L := by omega
  have c3 : i + 3 < L := by omega
  have c4 : i + 4 < L := by omega
  simp (disch := omega) only [i_287_488, i_287_489, i_287_490, i_287_491, i_287_492, i_287_493, i_287_494, i_287_495, i_287_496, i_287_497, i_287_498, i_287_499, i_287_502, i_287_503, i_287_504, i_287_505, i_287_506, i_287_507, i_287_508, i_287_509, i_287_510, i_287_511, i_287_512, i_287_513, i_287_516, i_287_519, i_287_520, g_s, g_o0, g_o172, m1, m2, n1, n2, hc, hm, l0, b1, b2, b3, b4, c1, c2, c3, c4, exists_eq_left', Option.some.injEq, exists_eq_left, ne_eq, List.length_nil, List.length_cons, Option.toList_some, Option.toList_none, List.cons_append, List.nil_append, mj_wt_nil, mj_wt_i, mj_wt_r, mj_wt_l, true_and, and_true, false_and, and_false, true_implies, false_implies, implies_true, not_true_eq_false, not_false_eq_true, and_self, Int.reduceEq, Nat.reduceEqDiff, ↓reduceIte, mj_w_id2, List.append_nil]
  try grind
theorem lw_c9 (hJ : lw_J n S L V M) (hn : 0 ≤ n ∧ n < 80000000) (hS : ∀ j, -2147483648 ≤ S j ∧ S j < 2147483648) (hi : 0 ≤ i ∧ i + 5 ≤ L) (hL : L ≤ 2560) : ∃ (V1 M1 : mj_M) (x1 : Nat), lw_J (n + 1000) S L V1 M1 ∧ ∀ d Q, mj_Rn (d + 201) 287 521 [.inr (.inl 9000), .inr (.inl 0), .inr (.inl 172), .inl i] [] (SGx x) M Q = mj_Rn (d + 201) 287 1361 [.inr (.inl 9000), .inr (.inl 0), .inr (.inl 172), .inl i] [] (SGx x1) M1 Q := by
  obtain ⟨v, N, V1, M1, x1, hc, hm, ⟨n1, n2⟩, h1⟩ := lw_z hJ (z_o_runner (x := x) hJ.1 (y := (S (i + 1).toNat)) (k := (S (i + 2).toNat)))
  refine ⟨V1, M1, x1, h1, fun d Q => ?_⟩
  have m1 := hJ.2.2.1
  have m2 := hJ.2.2.2
  have l0 : ((L.toNat : Nat) : Int) = L := by omega
  have b1 : 0 ≤ i + 1 := by omega
  have b2 : 0 ≤ i + 2 := by omega
  have b3 : 0 ≤ i + 3 := by omega
  have b4 : 0 ≤ i + 4 := by omega
  have c1 : i + 1 < L := by omega
  have c2 : i + 2 < L := by omega
  have c3 : i + 3 < L := by omega
  have c4 : i + 4 < L := by omega
  simp (disch := omega) only [i_287_521, i_287_522, i_287_523, i_287_524, i_287_525, i_287_526, i_287_527, i_287_528, i_287_529, i_287_530, i_287_531, i_287_532, i_287_535, i_287_536, i_287_537, i_287_538, i_287_539, i_287_540, i_287_541, i_287_542, i_287_543, i_287_544, i_287_545, i_287_546, i_287_549, i_287_552, i_287_553, g_s, g_o0, g_o172, m1, m2, n1, n2, hc, hm, l0, b1, b2, b3, b4, c1, c2, c3, c4, exists_eq_left', Option.some.injEq, exists_eq_left, ne_eq, List.length_nil, List.length_cons, Option.toList_some, Option.toList_none, List.cons_append, List.nil_append, mj_wt_nil, mj_wt_i, mj_wt_r, mj_wt_l, true_and, and_true, false_and, and_false, true_implies, false_implies, implies_true, not_true_eq_false, not_false_eq_true, and_self, Int.reduceEq, Nat.reduceEqDiff, ↓reduceIte, mj_w_id2, List.append_nil]
  try grind
theorem lw_c10 (hJ : lw_J n S L V M) (hn : 0 ≤ n ∧ n < 80000000) (hS : ∀ j, -2147483648 ≤ S j ∧ S j < 2147483648) (hi : 0 ≤ i ∧ i + 5 ≤ L) (hL : L ≤ 2560) : ∃ (V1 M1 : mj_M) (x1 : Nat), lw_J (n + 1000) S L V1 M1 ∧ ∀ d Q, mj_Rn (d + 201) 287 554 [.inr (.inl 9000), .inr (.inl 0), .inr (.inl 172), .inl i] [] (SGx x) M Q = mj_Rn (d + 201) 287 1361 [.inr (.inl 9000), .inr (.inl 0), .inr (.inl 172), .inl i] [] (SGx x1) M1 Q := by
  obtain ⟨v, N, V1, M1, x1, hc, hm, ⟨n1, n2⟩, h1⟩ := lw_z hJ (z_o_keeper (x := x) hJ.1 (r := (S (i + 1).toNat)) (s := (S (i + 2).toNat)))
  refine ⟨V1, M1, x1, h1, fun d Q => ?_⟩
  have m1 := hJ.2.2.1
  have m2 := hJ.2.2.2
  have l0 : ((L.toNat : Nat) : Int) = L := by omega
  have b1 : 0 ≤ i + 1 := by omega
  have b2 : 0 ≤ i + 2 := by omega
  have b3 : 0 ≤ i + 3 := by omega
  have b4 : 0 ≤ i + 4 := by omega
  have c1 : i + 1 < L := by omega
  have c2 : i + 2 < L := by omega
  have c3 : i + 3 < L := by omega
  have c4 : i + 4 < L := by omega
  simp (disch := omega) only [i_287_554, i_287_555, i_287_556, i_287_557, i_287_558, i_287_559, i_287_560, i_287_561, i_287_562, i_287_563, i_287_564, i_287_565, i_287_568, i_287_569, i_287_570, i_287_571, i_287_572, i_287_573, i_287_574, i_287_575, i_287_576, i_287_577, i_287_578, i_287_579, i_287_582, i_287_585, i_287_586, g_s, g_o0, g_o172, m1, m2, n1, n2, hc, hm, l0, b1, b2, b3, b4, c1, c2, c3, c4, exists_eq_left', Option.some.injEq, exists_eq_left, ne_eq, List.length_nil, List.length_cons, Option.toList_some, Option.toList_none, List.cons_append, List.nil_append, mj_wt_nil, mj_wt_i, mj_wt_r, mj_wt_l, true_and, and_true, false_and, and_false, true_implies, false_implies, implies_true, not_true_eq_false, not_false_eq_true, and_self, Int.reduceEq, Nat.reduceEqDiff, ↓reduceIte, mj_w_id2, List.append_nil]
  try grind
theorem lw_c11 (hJ : lw_J n S L V M) (hn : 0 ≤ n ∧ n < 80000000) (hS : ∀ j, -2147483648 ≤ S j ∧ S j < 2147483648) (hi : 0 ≤ i ∧ i + 5 ≤ L) (hL : L ≤ 2560) : ∃ (V1 M1 : mj_M) (x1 : Nat), lw_J (n + 1000) S L V1 M1 ∧ ∀ d Q, mj_Rn (d + 201) 287 587 [.inr (.inl 9000), .inr (.inl 0), .inr (.inl 172), .inl i] [] (SGx x) M Q = mj_Rn (d + 201) 287 1361 [.inr (.inl 9000), .inr (.inl 0), .inr (.inl 172), .inl i] [] (SGx x1) M1 Q := by
  obtain ⟨v, N, V1, M1, x1, hc, hm, ⟨n1, n2⟩, h1⟩ := lw_z hJ (z_o_look (x := x) hJ.1 (r := (S (i + 1).toNat)) (k := (S (i + 2).toNat)))
  refine ⟨V1, M1, x1, h1, fun d Q => ?_⟩
  have m1 := hJ.2.2.1
  have m2 := hJ.2.2.2
  have l0 : ((L.toNat : Nat) : Int) = L := by omega
  have b1 : 0 ≤ i + 1 := by omega
  have b2 : 0 ≤ i + 2 := by omega
  have b3 : 0 ≤ i + 3 := by omega
  have b4 : 0 ≤ i + 4 := by omega
  have c1 : i + 1 < L := by omega
  have c2 : i + 2 < L := by omega
  have c3 : i + 3 < L := by omega
  have c4 : i + 4 < L := by omega
  simp (disch := omega) only [i_287_587, i_287_588, i_287_589, i_287_590, i_287_591, i_287_592, i_287_593, i_287_594, i_287_595, i_287_596, i_287_597, i_287_598, i_287_601, i_287_602, i_287_603, i_287_604, i_287_605, i_287_606, i_287_607, i_287_608, i_287_609, i_287_610, i_287_611, i_287_612, i_287_615, i_287_618, i_287_619, g_s, g_o0, g_o172, m1, m2, n1, n2, hc, hm, l0, b1, b2, b3, b4, c1, c2, c3, c4, exists_eq_left', Option.some.injEq, exists_eq_left, ne_eq, List.length_nil, List.length_cons, Option.toList_some, Option.toList_none, List.cons_append, List.nil_append, mj_wt_nil, mj_wt_i, mj_wt_r, mj_wt_l, true_and, and_true, false_and, and_false, true_implies, false_implies, implies_true, not_true_eq_false, not_false_eq_true, and_self, Int.reduceEq, Nat.reduceEqDiff, ↓reduceIte, mj_w_id2, List.append_nil]
  try grind
theorem lw_c12 (hJ : lw_J n S L V M) (hn : 0 ≤ n ∧ n < 80000000) (hS : ∀ j, -2147483648 ≤ S j ∧ S j < 2147483648) (hi : 0 ≤ i ∧ i + 5 ≤ L) (hL : L ≤ 2560) : ∃ (V1 M1 : mj_M) (x1 : Nat), lw_J (n + 1000) S L V1 M1 ∧ ∀ d Q, mj_Rn (d + 201) 287 620 [.inr (.inl 9000), .inr (.inl 0), .inr (.inl 172), .inl i] [] (SGx x) M Q = mj_Rn (d + 201) 287 1361 [.inr (.inl 9000), .inr (.inl 0), .inr (.inl 172), .inl i] [] (SGx x1) M1 Q := by
  obtain ⟨v, N, V1, M1, x1, hc, hm, ⟨n1, n2⟩, h1⟩ := lw_z hJ (z_o_step (x := x) hJ.1 (r := (S (i + 1).toNat)) (k := (S (i + 2).toNat)) (i := (S (i + 3).toNat)))
  refine ⟨V1, M1, x1, h1, fun d Q => ?_⟩
  have m1 := hJ.2.2.1
  have m2 := hJ.2.2.2
  have l0 : ((L.toNat : Nat) : Int) = L := by omega
  have b1 : 0 ≤ i + 1 := by omega
  have b2 : 0 ≤ i + 2 := by omega
  have b3 : 0 ≤ i + 3 := by omega
  have b4 : 0 ≤ i + 4 := by omega
  have c1 : i + 1 < L := by omega
  have c2 : i + 2 < L := by omega
  have c3 : i + 3 < L := by omega
  have c4 : i + 4 < L := by omega
  simp (disch := omega) only [i_287_620, i_287_621, i_287_622, i_287_623, i_287_624, i_287_625, i_287_626, i_287_627, i_287_628, i_287_629, i_287_630, i_287_631, i_287_632, i_287_633, i_287_634, i_287_635, i_287_636, i_287_639, i_287_640, i_287_641, i_287_642, i_287_643, i_287_644, i_287_645, i_287_646, i_287_647, i_287_648, i_287_649, i_287_650, i_287_651, i_287_652, i_287_653, i_287_654, i_287_655, i_287_658, i_287_661, i_287_662, g_s, g_o0, g_o172, m1, m2, n1, n2, hc, hm, l0, b1, b2, b3, b4, c1, c2, c3, c4, exists_eq_left', Option.some.injEq, exists_eq_left, ne_eq, List.length_nil, List.length_cons, Option.toList_some, Option.toList_none, List.cons_append, List.nil_append, mj_wt_nil, mj_wt_i, mj_wt_r, mj_wt_l, true_and, and_true, false_and, and_false, true_implies, false_implies, implies_true, not_true_eq_false, not_false_eq_true, and_self, Int.reduceEq, Nat.reduceEqDiff, ↓reduceIte, mj_w_id2, List.append_nil]
  try grind
theorem lw_c13 (hJ : lw_J n S L V M) (hn : 0 ≤ n ∧ n < 80000000) (hS : ∀ j, -2147483648 ≤ S j ∧ S j < 2147483648) (hi : 0 ≤ i ∧ i + 5 ≤ L) (hL : L ≤ 2560) : ∃ (V1 M1 : mj_M) (x1 : Nat), lw_J (n + 1000) S L V1 M1 ∧ ∀ d Q, mj_Rn (d + 201) 287 663 [.inr (.inl 9000), .inr (.inl 0), .inr (.inl 172), .inl i] [] (SGx x) M Q = mj_Rn (d + 201) 287 1361 [.inr (.inl 9000), .inr (.inl 0), .inr (.inl 172), .inl i] [] (SGx x1) M1 Q := by
  obtain ⟨v, N, V1, M1, x1, hc, hm, ⟨n1, n2⟩, h1⟩ := lw_z hJ (z_o_tell (x := x) hJ.1 (r := (S (i + 1).toNat)) (v := (S (i + 2).toNat)))
  refine ⟨V1, M1, x1, h1, fun d Q => ?_⟩
  have m1 := hJ.2.2.1
  have m2 := hJ.2.2.2
  have l0 : ((L.toNat : Nat) : Int) = L := by omega
  have b1 : 0 ≤ i + 1 := by omega
  have b2 : 0 ≤ i + 2 := by omega
  have b3 : 0 ≤ i + 3 := by omega
  have b4 : 0 ≤ i + 4 := by omega
  have c1 : i + 1 < L := by omega
  have c2 : i + 2 < L := by omega
  have c3 : i + 3 < L := by omega
  have c4 : i + 4 < L := by omega
  simp (disch := omega) only [i_287_663, i_287_664, i_287_665, i_287_666, i_287_667, i_287_668, i_287_669, i_287_670, i_287_671, i_287_672, i_287_673, i_287_674, i_287_677, i_287_678, i_287_679, i_287_680, i_287_681, i_287_682, i_287_683, i_287_684, i_287_685, i_287_686, i_287_687, i_287_688, i_287_691, i_287_694, i_287_695, g_s, g_o0, g_o172, m1, m2, n1, n2, hc, hm, l0, b1, b2, b3, b4, c1, c2, c3, c4, exists_eq_left', Option.some.injEq, exists_eq_left, ne_eq, List.length_nil, List.length_cons, Option.toList_some, Option.toList_none, List.cons_append, List.nil_append, mj_wt_nil, mj_wt_i, mj_wt_r, mj_wt_l, true_and, and_true, false_and, and_false, true_implies, false_implies, implies_true, not_true_eq_false, not_false_eq_true, and_self, Int.reduceEq, Nat.reduceEqDiff, ↓reduceIte, mj_w_id2, List.append_nil]
  try grind
theorem lw_c14 (hJ : lw_J n S L V M) (hn : 0 ≤ n ∧ n < 80000000) (hS : ∀ j, -2147483648 ≤ S j ∧ S j < 2147483648) (hi : 0 ≤ i ∧ i + 5 ≤ L) (hL : L ≤ 2560) : ∃ (V1 M1 : mj_M) (x1 : Nat), lw_J (n + 1000) S L V1 M1 ∧ ∀ d Q, mj_Rn (d + 201) 287 696 [.inr (.inl 9000), .inr (.inl 0), .inr (.inl 172), .inl i] [] (SGx x) M Q = mj_Rn (d + 201) 287 1361 [.inr (.inl 9000), .inr (.inl 0), .inr (.inl 172), .inl i] [] (SGx x1) M1 Q := by
  obtain ⟨v, N, V1, M1, x1, hc, hm, ⟨n1, n2⟩, h1⟩ := lw_z hJ (z_o_resume (x := x) hJ.1 (r := (S (i + 1).toNat)) (k := (S (i + 2).toNat)))
  refine ⟨V1, M1, x1, h1, fun d Q => ?_⟩
  have m1 := hJ.2.2.1
  have m2 := hJ.2.2.2
  have l0 : ((L.toNat : Nat) : Int) = L := by omega
  have b1 : 0 ≤ i + 1 := by omega
  have b2 : 0 ≤ i + 2 := by omega
  have b3 : 0 ≤ i + 3 := by omega
  have b4 : 0 ≤ i + 4 := by omega
  have c1 : i + 1 < L := by omega
  have c2 : i + 2 < L := by omega
  have c3 : i + 3 < L := by omega
  have c4 : i + 4 < L := by omega
  simp (disch := omega) only [i_287_696, i_287_697, i_287_698, i_287_699, i_287_700, i_287_701, i_287_702, i_287_703, i_287_704, i_287_705, i_287_706, i_287_707, i_287_710, i_287_711, i_287_712, i_287_713, i_287_714, i_287_715, i_287_716, i_287_717, i_287_718, i_287_719, i_287_720, i_287_721, i_287_724, i_287_727, i_287_728, g_s, g_o0, g_o172, m1, m2, n1, n2, hc, hm, l0, b1, b2, b3, b4, c1, c2, c3, c4, exists_eq_left', Option.some.injEq, exists_eq_left, ne_eq, List.length_nil, List.length_cons, Option.toList_some, Option.toList_none, List.cons_append, List.nil_append, mj_wt_nil, mj_wt_i, mj_wt_r, mj_wt_l, true_and, and_true, false_and, and_false, true_implies, false_implies, implies_true, not_true_eq_false, not_false_eq_true, and_self, Int.reduceEq, Nat.reduceEqDiff, ↓reduceIte, mj_w_id2, List.append_nil]
  try grind
theorem lw_c15 (hJ : lw_J n S L V M) (hn : 0 ≤ n ∧ n < 80000000) (hS : ∀ j, -2147483648 ≤ S j ∧ S j < 2147483648) (hi : 0 ≤ i ∧ i + 5 ≤ L) (hL : L ≤ 2560) : ∃ (V1 M1 : mj_M) (x1 : Nat), lw_J (n + 1000) S L V1 M1 ∧ ∀ d Q, mj_Rn (d + 201) 287 729 [.inr (.inl 9000), .inr (.inl 0), .inr (.inl 172), .inl i] [] (SGx x) M Q = mj_Rn (d + 201) 287 1361 [.inr (.inl 9000), .inr (.inl 0), .inr (.inl 172), .inl i] [] (SGx x1) M1 Q := by
  obtain ⟨v, N, V1, M1, x1, hc, hm, ⟨n1, n2⟩, h1⟩ := lw_z hJ (z_o_rule (x := x) hJ.1 (k := (S (i + 1).toNat)))
  refine ⟨V1, M1, x1, h1, fun d Q => ?_⟩
  have m1 := hJ.2.2.1
  have m2 := hJ.2.2.2
  have l0 : ((L.toNat : Nat) : Int) = L := by omega
  have b1 : 0 ≤ i + 1 := by omega
  have b2 : 0 ≤ i + 2 := by omega
  have b3 : 0 ≤ i + 3 := by omega
  have b4 : 0 ≤ i + 4 := by omega
  have c1 : i + 1 < L := by omega
  have c2 : i + 2 < L := by omega
  have c3 : i + 3 < L := by omega
  have c4 : i + 4 < L := by omega
  simp (disch := omega) only [i_287_729, i_287_730, i_287_731, i_287_732, i_287_733, i_287_734, i_287_735, i_287_738, i_287_739, i_287_740, i_287_741, i_287_742, i_287_743, i_287_744, i_287_747, i_287_750, i_287_751, g_s, g_o0, g_o172, m1, m2, n1, n2, hc, hm, l0, b1, b2, b3, b4, c1, c2, c3, c4, exists_eq_left', Option.some.injEq, exists_eq_left, ne_eq, List.length_nil, List.length_cons, Option.toList_some, Option.toList_none, List.cons_append, List.nil_append, mj_wt_nil, mj_wt_i, mj_wt_r, mj_wt_l, true_and, and_true, false_and, and_false, true_implies, false_implies, implies_true, not_true_eq_false, not_false_eq_true, and_self, Int.reduceEq, Nat.reduceEqDiff, ↓reduceIte, mj_w_id2, List.append_nil]
  try grind
theorem lw_c16 (hJ : lw_J n S L V M) (hn : 0 ≤ n ∧ n < 80000000) (hS : ∀ j, -2147483648 ≤ S j ∧ S j < 2147483648) (hi : 0 ≤ i ∧ i + 5 ≤ L) (hL : L ≤ 2560) : ∃ (V1 M1 : mj_M) (x1 : Nat), lw_J (n + 1000) S L V1 M1 ∧ ∀ d Q, mj_Rn (d + 201) 287 752 [.inr (.inl 9000), .inr (.inl 0), .inr (.inl 172), .inl i] [] (SGx x) M Q = mj_Rn (d + 201) 287 1361 [.inr (.inl 9000), .inr (.inl 0), .inr (.inl 172), .inl i] [] (SGx x1) M1 Q := by
  obtain ⟨v, N, V1, M1, x1, hc, hm, ⟨n1, n2⟩, h1⟩ := lw_z hJ (z_o_time (x := x) hJ.1 (k := (S (i + 1).toNat)))
  refine ⟨V1, M1, x1, h1, fun d Q => ?_⟩
  have m1 := hJ.2.2.1
  have m2 := hJ.2.2.2
  have l0 : ((L.toNat : Nat) : Int) = L := by omega
  have b1 : 0 ≤ i + 1 := by omega
  have b2 : 0 ≤ i + 2 := by omega
  have b3 : 0 ≤ i + 3 := by omega
  have b4 : 0 ≤ i + 4 := by omega
  have c1 : i + 1 < L := by omega
  have c2 : i + 2 < L := by omega
  have c3 : i + 3 < L := by omega
  have c4 : i + 4 < L := by omega
  simp (disch := omega) only [i_287_752, i_287_753, i_287_754, i_287_755, i_287_756, i_287_757, i_287_758, i_287_761, i_287_762, i_287_763, i_287_764, i_287_765, i_287_766, i_287_767, i_287_770, i_287_773, i_287_774, g_s, g_o0, g_o172, m1, m2, n1, n2, hc, hm, l0, b1, b2, b3, b4, c1, c2, c3, c4, exists_eq_left', Option.some.injEq, exists_eq_left, ne_eq, List.length_nil, List.length_cons, Option.toList_some, Option.toList_none, List.cons_append, List.nil_append, mj_wt_nil, mj_wt_i, mj_wt_r, mj_wt_l, true_and, and_true, false_and, and_false, true_implies, false_implies, implies_true, not_true_eq_false, not_false_eq_true, and_self, Int.reduceEq, Nat.reduceEqDiff, ↓reduceIte, mj_w_id2, List.append_nil]
  try grind
theorem lw_c17 (hJ : lw_J n S L V M) (hn : 0 ≤ n ∧ n < 80000000) (hS : ∀ j, -2147483648 ≤ S j ∧ S j < 2147483648) (hi : 0 ≤ i ∧ i + 5 ≤ L) (hL : L ≤ 2560) : ∃ (V1 M1 : mj_M) (x1 : Nat), lw_J (n + 1000) S L V1 M1 ∧ ∀ d Q, mj_Rn (d + 201) 287 775 [.inr (.inl 9000), .inr (.inl 0), .inr (.inl 172), .inl i] [] (SGx x) M Q = mj_Rn (d + 201) 287 1361 [.inr (.inl 9000), .inr (.inl 0), .inr (.inl 172), .inl i] [] (SGx x1) M1 Q := by
  obtain ⟨v, N, V1, M1, x1, hc, hm, ⟨n1, n2⟩, h1⟩ := lw_z hJ (z_o_in (x := x) hJ.1 (y := (S (i + 1).toNat)) (k := (S (i + 2).toNat)))
  refine ⟨V1, M1, x1, h1, fun d Q => ?_⟩
  have m1 := hJ.2.2.1
  have m2 := hJ.2.2.2
  have l0 : ((L.toNat : Nat) : Int) = L := by omega
  have b1 : 0 ≤ i + 1 := by omega
  have b2 : 0 ≤ i + 2 := by omega
  have b3 : 0 ≤ i + 3 := by omega
  have b4 : 0 ≤ i + 4 := by omega
  have c1 : i + 1 < L := by omega
  have c2 : i + 2 < L := by omega
  have c3 : i + 3 < L := by omega
  have c4 : i + 4 < L := by omega
  simp (disch := omega) only [i_287_775, i_287_776, i_287_777, i_287_778, i_287_779, i_287_780, i_287_781, i_287_782, i_287_783, i_287_784, i_287_785, i_287_786, i_287_789, i_287_790, i_287_791, i_287_792, i_287_793, i_287_794, i_287_795, i_287_796, i_287_797, i_287_798, i_287_799, i_287_800, i_287_803, i_287_806, i_287_807, g_s, g_o0, g_o172, m1, m2, n1, n2, hc, hm, l0, b1, b2, b3, b4, c1, c2, c3, c4, exists_eq_left', Option.some.injEq, exists_eq_left, ne_eq, List.length_nil, List.length_cons, Option.toList_some, Option.toList_none, List.cons_append, List.nil_append, mj_wt_nil, mj_wt_i, mj_wt_r, mj_wt_l, true_and, and_true, false_and, and_false, true_implies, false_implies, implies_true, not_true_eq_false, not_false_eq_true, and_self, Int.reduceEq, Nat.reduceEqDiff, ↓reduceIte, mj_w_id2, List.append_nil]
  try grind
theorem lw_c18 (hJ : lw_J n S L V M) (hn : 0 ≤ n ∧ n < 80000000) (hS : ∀ j, -2147483648 ≤ S j ∧ S j < 2147483648) (hi : 0 ≤ i ∧ i + 5 ≤ L) (hL : L ≤ 2560) : ∃ (V1 M1 : mj_M) (x1 : Nat), lw_J (n + 1000) S L V1 M1 ∧ ∀ d Q, mj_Rn (d + 201) 287 808 [.inr (.inl 9000), .inr (.inl 0), .inr (.inl 172), .inl i] [] (SGx x) M Q = mj_Rn (d + 201) 287 1361 [.inr (.inl 9000), .inr (.inl 0), .inr (.inl 172), .inl i] [] (SGx x1) M1 Q := by
  obtain ⟨v, N, V1, M1, x1, hc, hm, ⟨n1, n2⟩, h1⟩ := lw_z hJ (z_o_run (x := x) hJ.1 (hn := ⟨by omega, by omega⟩) (k := (S (i + 1).toNat)))
  refine ⟨V1, M1, x1, h1, fun d Q => ?_⟩
  have m1 := hJ.2.2.1
  have m2 := hJ.2.2.2
  have l0 : ((L.toNat : Nat) : Int) = L := by omega
  have b1 : 0 ≤ i + 1 := by omega
  have b2 : 0 ≤ i + 2 := by omega
  have b3 : 0 ≤ i + 3 := by omega
  have b4 : 0 ≤ i + 4 := by omega
  have c1 : i + 1 < L := by omega
  have c2 : i + 2 < L := by omega
  have c3 : i + 3 < L := by omega
  have c4 : i + 4 < L := by omega
  simp (disch := omega) only [i_287_808, i_287_809, i_287_810, i_287_811, i_287_812, i_287_813, i_287_814, i_287_817, i_287_818, i_287_819, i_287_820, i_287_821, i_287_822, i_287_823, i_287_826, i_287_829, i_287_830, g_s, g_o0, g_o172, m1, m2, n1, n2, hc, hm, l0, b1, b2, b3, b4, c1, c2, c3, c4, exists_eq_left', Option.some.injEq, exists_eq_left, ne_eq, List.length_nil, List.length_cons, Option.toList_some, Option.toList_none, List.cons_append, List.nil_append, mj_wt_nil, mj_wt_i, mj_wt_r, mj_wt_l, true_and, and_true, false_and, and_false, true_implies, false_implies, implies_true, not_true_eq_false, not_false_eq_true, and_self, Int.reduceEq, Nat.reduceEqDiff, ↓reduceIte, mj_w_id2, List.append_nil]
  try grind
theorem lw_c19 (hJ : lw_J n S L V M) (hn : 0 ≤ n ∧ n < 80000000) (hS : ∀ j, -2147483648 ≤ S j ∧ S j < 2147483648) (hi : 0 ≤ i ∧ i + 5 ≤ L) (hL : L ≤ 2560) : ∃ (V1 M1 : mj_M) (x1 : Nat), lw_J (n + 1000) S L V1 M1 ∧ ∀ d Q, mj_Rn (d + 201) 287 831 [.inr (.inl 9000), .inr (.inl 0), .inr (.inl 172), .inl i] [] (SGx x) M Q = mj_Rn (d + 201) 287 1361 [.inr (.inl 9000), .inr (.inl 0), .inr (.inl 172), .inl i] [] (SGx x1) M1 Q := by
  obtain ⟨v, N, V1, M1, x1, hc, hm, ⟨n1, n2⟩, h1⟩ := lw_z hJ (z_o_leak (x := x) hJ.1 (hn := ⟨by omega, by omega⟩) (hrn := hS _) (hto := hS _) (rn := (S (i + 1).toNat)) (rl := (S (i + 2).toNat)) (to := (S (i + 3).toNat)))
  refine ⟨V1, M1, x1, h1, fun d Q => ?_⟩
  have m1 := hJ.2.2.1
  have m2 := hJ.2.2.2
  have l0 : ((L.toNat : Nat) : Int) = L := by omega
  have b1 : 0 ≤ i + 1 := by omega
  have b2 : 0 ≤ i + 2 := by omega
  have b3 : 0 ≤ i + 3 := by omega
  have b4 : 0 ≤ i + 4 := by omega
  have c1 : i + 1 < L := by omega
  have c2 : i + 2 < L := by omega
  have c3 : i + 3 < L := by omega
  have c4 : i + 4 < L := by omega
  simp (disch := omega) only [i_287_831, i_287_832, i_287_833, i_287_834, i_287_835, i_287_836, i_287_837, i_287_838, i_287_839, i_287_840, i_287_841, i_287_842, i_287_843, i_287_844, i_287_845, i_287_846, i_287_847, i_287_850, i_287_851, i_287_852, i_287_853, i_287_854, i_287_855, i_287_856, i_287_857, i_287_858, i_287_859, i_287_860, i_287_861, i_287_862, i_287_863, i_287_864, i_287_865, i_287_866, i_287_869, i_287_872, i_287_873, g_s, g_o0, g_o172, m1, m2, n1, n2, hc, hm, l0, b1, b2, b3, b4, c1, c2, c3, c4, exists_eq_left', Option.some.injEq, exists_eq_left, ne_eq, List.length_nil, List.length_cons, Option.toList_some, Option.toList_none, List.cons_append, List.nil_append, mj_wt_nil, mj_wt_i, mj_wt_r, mj_wt_l, true_and, and_true, false_and, and_false, true_implies, false_implies, implies_true, not_true_eq_false, not_false_eq_true, and_self, Int.reduceEq, Nat.reduceEqDiff, ↓reduceIte, mj_w_id2, List.append_nil]
  try grind
theorem lw_c20 (hJ : lw_J n S L V M) (hn : 0 ≤ n ∧ n < 80000000) (hS : ∀ j, -2147483648 ≤ S j ∧ S j < 2147483648) (hi : 0 ≤ i ∧ i + 5 ≤ L) (hL : L ≤ 2560) : ∃ (V1 M1 : mj_M) (x1 : Nat), lw_J (n + 1000) S L V1 M1 ∧ ∀ d Q, mj_Rn (d + 201) 287 874 [.inr (.inl 9000), .inr (.inl 0), .inr (.inl 172), .inl i] [] (SGx x) M Q = mj_Rn (d + 201) 287 1361 [.inr (.inl 9000), .inr (.inl 0), .inr (.inl 172), .inl i] [] (SGx x1) M1 Q := by
  obtain ⟨v, N, V1, M1, x1, hc, hm, ⟨n1, n2⟩, h1⟩ := lw_z hJ (z_o_late (x := x) hJ.1 (hn := ⟨by omega, by omega⟩) (r := (S (i + 1).toNat)))
  refine ⟨V1, M1, x1, h1, fun d Q => ?_⟩
  have m1 := hJ.2.2.1
  have m2 := hJ.2.2.2
  have l0 : ((L.toNat : Nat) : Int) = L := by omega
  have b1 : 0 ≤ i + 1 := by omega
  have b2 : 0 ≤ i + 2 := by omega
  have b3 : 0 ≤ i + 3 := by omega
  have b4 : 0 ≤ i + 4 := by omega
  have c1 : i + 1 < L := by omega
  have c2 : i + 2 < L := by omega
  have c3 : i + 3 < L := by omega
  have c4 : i + 4 < L := by omega
  simp (disch := omega) only [i_287_874, i_287_875, i_287_876, i_287_877, i_287_878, i_287_879, i_287_880, i_287_883, i_287_884, i_287_885, i_287_886, i_287_887, i_287_888, i_287_889, i_287_892, i_287_895, i_287_896, g_s, g_o0, g_o172, m1, m2, n1, n2, hc, hm, l0, b1, b2, b3, b4, c1, c2, c3, c4, exists_eq_left', Option.some.injEq, exists_eq_left, ne_eq, List.length_nil, List.length_cons, Option.toList_some, Option.toList_none, List.cons_append, List.nil_append, mj_wt_nil, mj_wt_i, mj_wt_r, mj_wt_l, true_and, and_true, false_and, and_false, true_implies, false_implies, implies_true, not_true_eq_false, not_false_eq_true, and_self, Int.reduceEq, Nat.reduceEqDiff, ↓reduceIte, mj_w_id2, List.append_nil]
  try grind
theorem lw_c21 (hJ : lw_J n S L V M) (hn : 0 ≤ n ∧ n < 80000000) (hS : ∀ j, -2147483648 ≤ S j ∧ S j < 2147483648) (hi : 0 ≤ i ∧ i + 5 ≤ L) (hL : L ≤ 2560) : ∃ (V1 M1 : mj_M) (x1 : Nat), lw_J (n + 1000) S L V1 M1 ∧ ∀ d Q, mj_Rn (d + 201) 287 897 [.inr (.inl 9000), .inr (.inl 0), .inr (.inl 172), .inl i] [] (SGx x) M Q = mj_Rn (d + 201) 287 1361 [.inr (.inl 9000), .inr (.inl 0), .inr (.inl 172), .inl i] [] (SGx x1) M1 Q := by
  obtain ⟨v, N, V1, M1, x1, hc, hm, ⟨n1, n2⟩, h1⟩ := lw_z hJ (z_o_judge (x := x) hJ.1 (hn := ⟨by omega, by omega⟩) (zz := 0))
  refine ⟨V1, M1, x1, h1, fun d Q => ?_⟩
  have m1 := hJ.2.2.1
  have m2 := hJ.2.2.2
  have l0 : ((L.toNat : Nat) : Int) = L := by omega
  have b1 : 0 ≤ i + 1 := by omega
  have b2 : 0 ≤ i + 2 := by omega
  have b3 : 0 ≤ i + 3 := by omega
  have b4 : 0 ≤ i + 4 := by omega
  have c1 : i + 1 < L := by omega
  have c2 : i + 2 < L := by omega
  have c3 : i + 3 < L := by omega
  have c4 : i + 4 < L := by omega
  simp (disch := omega) only [i_287_897, i_287_898, i_287_901, i_287_902, i_287_905, i_287_908, i_287_909, g_s, g_o0, g_o172, m1, m2, n1, n2, hc, hm, l0, b1, b2, b3, b4, c1, c2, c3, c4, exists_eq_left', Option.some.injEq, exists_eq_left, ne_eq, List.length_nil, List.length_cons, Option.toList_some, Option.toList_none, List.cons_append, List.nil_append, mj_wt_nil, mj_wt_i, mj_wt_r, mj_wt_l, true_and, and_true, false_and, and_false, true_implies, false_implies, implies_true, not_true_eq_false, not_false_eq_true, and_self, Int.reduceEq, Nat.reduceEqDiff, ↓reduceIte, mj_w_id2, List.append_nil]
  try grind
theorem lw_c22 (hJ : lw_J n S L V M) (hn : 0 ≤ n ∧ n < 80000000) (hS : ∀ j, -2147483648 ≤ S j ∧ S j < 2147483648) (hi : 0 ≤ i ∧ i + 5 ≤ L) (hL : L ≤ 2560) : ∃ (V1 M1 : mj_M) (x1 : Nat), lw_J (n + 1000) S L V1 M1 ∧ ∀ d Q, mj_Rn (d + 201) 287 910 [.inr (.inl 9000), .inr (.inl 0), .inr (.inl 172), .inl i] [] (SGx x) M Q = mj_Rn (d + 201) 287 1361 [.inr (.inl 9000), .inr (.inl 0), .inr (.inl 172), .inl i] [] (SGx x1) M1 Q := by
  obtain ⟨v, N, V1, M1, x1, hc, hm, ⟨n1, n2⟩, h1⟩ := lw_z hJ (z_o_could (x := x) hJ.1 (b := (S (i + 1).toNat)) (y := (S (i + 2).toNat)))
  refine ⟨V1, M1, x1, h1, fun d Q => ?_⟩
  have m1 := hJ.2.2.1
  have m2 := hJ.2.2.2
  have l0 : ((L.toNat : Nat) : Int) = L := by omega
  have b1 : 0 ≤ i + 1 := by omega
  have b2 : 0 ≤ i + 2 := by omega
  have b3 : 0 ≤ i + 3 := by omega
  have b4 : 0 ≤ i + 4 := by omega
  have c1 : i + 1 < L := by omega
  have c2 : i + 2 < L := by omega
  have c3 : i + 3 < L := by omega
  have c4 : i + 4 < L := by omega
  simp (disch := omega) only [i_287_910, i_287_911, i_287_912, i_287_913, i_287_914, i_287_915, i_287_916, i_287_917, i_287_918, i_287_919, i_287_920, i_287_921, i_287_924, i_287_925, i_287_926, i_287_927, i_287_928, i_287_929, i_287_930, i_287_931, i_287_932, i_287_933, i_287_934, i_287_935, i_287_938, i_287_941, i_287_942, g_s, g_o0, g_o172, m1, m2, n1, n2, hc, hm, l0, b1, b2, b3, b4, c1, c2, c3, c4, exists_eq_left', Option.some.injEq, exists_eq_left, ne_eq, List.length_nil, List.length_cons, Option.toList_some, Option.toList_none, List.cons_append, List.nil_append, mj_wt_nil, mj_wt_i, mj_wt_r, mj_wt_l, true_and, and_true, false_and, and_false, true_implies, false_implies, implies_true, not_true_eq_false, not_false_eq_true, and_self, Int.reduceEq, Nat.reduceEqDiff, ↓reduceIte, mj_w_id2, List.append_nil]
  try grind
theorem lw_c23 (hJ : lw_J n S L V M) (hn : 0 ≤ n ∧ n < 80000000) (hS : ∀ j, -2147483648 ≤ S j ∧ S j < 2147483648) (hi : 0 ≤ i ∧ i + 5 ≤ L) (hL : L ≤ 2560) : ∃ (V1 M1 : mj_M) (x1 : Nat), lw_J (n + 1000) S L V1 M1 ∧ ∀ d Q, mj_Rn (d + 201) 287 943 [.inr (.inl 9000), .inr (.inl 0), .inr (.inl 172), .inl i] [] (SGx x) M Q = mj_Rn (d + 201) 287 1361 [.inr (.inl 9000), .inr (.inl 0), .inr (.inl 172), .inl i] [] (SGx x1) M1 Q := by
  obtain ⟨v, N, V1, M1, x1, hc, hm, ⟨n1, n2⟩, h1⟩ := lw_z hJ (z_o_when (x := x) hJ.1 (b := (S (i + 1).toNat)) (y := (S (i + 2).toNat)) (rt := (S (i + 3).toNat)))
  refine ⟨V1, M1, x1, h1, fun d Q => ?_⟩
  have m1 := hJ.2.2.1
  have m2 := hJ.2.2.2
  have l0 : ((L.toNat : Nat) : Int) = L := by omega
  have b1 : 0 ≤ i + 1 := by omega
  have b2 : 0 ≤ i + 2 := by omega
  have b3 : 0 ≤ i + 3 := by omega
  have b4 : 0 ≤ i + 4 := by omega
  have c1 : i + 1 < L := by omega
  have c2 : i + 2 < L := by omega
  have c3 : i + 3 < L := by omega
  have c4 : i + 4 < L := by omega
  simp (disch := omega) only [i_287_943, i_287_944, i_287_945, i_287_946, i_287_947, i_287_948, i_287_949, i_287_950, i_287_951, i_287_952, i_287_953, i_287_954, i_287_955, i_287_956, i_287_957, i_287_958, i_287_959, i_287_962, i_287_963, i_287_964, i_287_965, i_287_966, i_287_967, i_287_968, i_287_969, i_287_970, i_287_971, i_287_972, i_287_973, i_287_974, i_287_975, i_287_976, i_287_977, i_287_978, i_287_981, i_287_984, i_287_985, g_s, g_o0, g_o172, m1, m2, n1, n2, hc, hm, l0, b1, b2, b3, b4, c1, c2, c3, c4, exists_eq_left', Option.some.injEq, exists_eq_left, ne_eq, List.length_nil, List.length_cons, Option.toList_some, Option.toList_none, List.cons_append, List.nil_append, mj_wt_nil, mj_wt_i, mj_wt_r, mj_wt_l, true_and, and_true, false_and, and_false, true_implies, false_implies, implies_true, not_true_eq_false, not_false_eq_true, and_self, Int.reduceEq, Nat.reduceEqDiff, ↓reduceIte, mj_w_id2, List.append_nil]
  try grind
theorem lw_c24 (hJ : lw_J n S L V M) (hn : 0 ≤ n ∧ n < 80000000) (hS : ∀ j, -2147483648 ≤ S j ∧ S j < 2147483648) (hi : 0 ≤ i ∧ i + 5 ≤ L) (hL : L ≤ 2560) : ∃ (V1 M1 : mj_M) (x1 : Nat), lw_J (n + 1000) S L V1 M1 ∧ ∀ d Q, mj_Rn (d + 201) 287 986 [.inr (.inl 9000), .inr (.inl 0), .inr (.inl 172), .inl i] [] (SGx x) M Q = mj_Rn (d + 201) 287 1361 [.inr (.inl 9000), .inr (.inl 0), .inr (.inl 172), .inl i] [] (SGx x1) M1 Q := by
  obtain ⟨v, N, V1, M1, x1, hc, hm, ⟨n1, n2⟩, h1⟩ := lw_z hJ (z_o_show (x := x) hJ.1 (k := (S (i + 1).toNat)))
  refine ⟨V1, M1, x1, h1, fun d Q => ?_⟩
  have m1 := hJ.2.2.1
  have m2 := hJ.2.2.2
  have l0 : ((L.toNat : Nat) : Int) = L := by omega
  have b1 : 0 ≤ i + 1 := by omega
  have b2 : 0 ≤ i + 2 := by omega
  have b3 : 0 ≤ i + 3 := by omega
  have b4 : 0 ≤ i + 4 := by omega
  have c1 : i + 1 < L := by omega
  have c2 : i + 2 < L := by omega
  have c3 : i + 3 < L := by omega
  have c4 : i + 4 < L := by omega
  simp (disch := omega) only [i_287_986, i_287_987, i_287_988, i_287_989, i_287_990, i_287_991, i_287_992, i_287_995, i_287_996, i_287_997, i_287_998, i_287_999, i_287_1000, i_287_1001, i_287_1004, i_287_1007, i_287_1008, g_s, g_o0, g_o172, m1, m2, n1, n2, hc, hm, l0, b1, b2, b3, b4, c1, c2, c3, c4, exists_eq_left', Option.some.injEq, exists_eq_left, ne_eq, List.length_nil, List.length_cons, Option.toList_some, Option.toList_none, List.cons_append, List.nil_append, mj_wt_nil, mj_wt_i, mj_wt_r, mj_wt_l, true_and, and_true, false_and, and_false, true_implies, false_implies, implies_true, not_true_eq_false, not_false_eq_true, and_self, Int.reduceEq, Nat.reduceEqDiff, ↓reduceIte, mj_w_id2, List.append_nil]
  try grind
theorem lw_c25 (hJ : lw_J n S L V M) (hn : 0 ≤ n ∧ n < 80000000) (hS : ∀ j, -2147483648 ≤ S j ∧ S j < 2147483648) (hi : 0 ≤ i ∧ i + 5 ≤ L) (hL : L ≤ 2560) : ∃ (V1 M1 : mj_M) (x1 : Nat), lw_J (n + 1000) S L V1 M1 ∧ ∀ d Q, mj_Rn (d + 201) 287 1009 [.inr (.inl 9000), .inr (.inl 0), .inr (.inl 172), .inl i] [] (SGx x) M Q = mj_Rn (d + 201) 287 1361 [.inr (.inl 9000), .inr (.inl 0), .inr (.inl 172), .inl i] [] (SGx x1) M1 Q := by
  obtain ⟨v, N, V1, M1, x1, hc, hm, ⟨n1, n2⟩, h1⟩ := lw_z hJ (z_o_feed (x := x) hJ.1 (hs := hS _) (k := (S (i + 1).toNat)) (s := (S (i + 2).toNat)))
  refine ⟨V1, M1, x1, h1, fun d Q => ?_⟩
  have m1 := hJ.2.2.1
  have m2 := hJ.2.2.2
  have l0 : ((L.toNat : Nat) : Int) = L := by omega
  have b1 : 0 ≤ i + 1 := by omega
  have b2 : 0 ≤ i + 2 := by omega
  have b3 : 0 ≤ i + 3 := by omega
  have b4 : 0 ≤ i + 4 := by omega
  have c1 : i + 1 < L := by omega
  have c2 : i + 2 < L := by omega
  have c3 : i + 3 < L := by omega
  have c4 : i + 4 < L := by omega
  simp (disch := omega) only [i_287_1009, i_287_1010, i_287_1011, i_287_1012, i_287_1013, i_287_1014, i_287_1015, i_287_1016, i_287_1017, i_287_1018, i_287_1019, i_287_1020, i_287_1023, i_287_1024, i_287_1025, i_287_1026, i_287_1027, i_287_1028, i_287_1029, i_287_1030, i_287_1031, i_287_1032, i_287_1033, i_287_1034, i_287_1037, i_287_1040, i_287_1041, g_s, g_o0, g_o172, m1, m2, n1, n2, hc, hm, l0, b1, b2, b3, b4, c1, c2, c3, c4, exists_eq_left', Option.some.injEq, exists_eq_left, ne_eq, List.length_nil, List.length_cons, Option.toList_some, Option.toList_none, List.cons_append, List.nil_append, mj_wt_nil, mj_wt_i, mj_wt_r, mj_wt_l, true_and, and_true, false_and, and_false, true_implies, false_implies, implies_true, not_true_eq_false, not_false_eq_true, and_self, Int.reduceEq, Nat.reduceEqDiff, ↓reduceIte, mj_w_id2, List.append_nil]
  try grind
theorem lw_c26 (hJ : lw_J n S L V M) (hn : 0 ≤ n ∧ n < 80000000) (hS : ∀ j, -2147483648 ≤ S j ∧ S j < 2147483648) (hi : 0 ≤ i ∧ i + 5 ≤ L) (hL : L ≤ 2560) : ∃ (V1 M1 : mj_M) (x1 : Nat), lw_J (n + 1000) S L V1 M1 ∧ ∀ d Q, mj_Rn (d + 201) 287 1042 [.inr (.inl 9000), .inr (.inl 0), .inr (.inl 172), .inl i] [] (SGx x) M Q = mj_Rn (d + 201) 287 1361 [.inr (.inl 9000), .inr (.inl 0), .inr (.inl 172), .inl i] [] (SGx x1) M1 Q := by
  obtain ⟨v, N, V1, M1, x1, hc, hm, ⟨n1, n2⟩, h1⟩ := lw_z hJ (z_o_wipe (x := x) hJ.1 (zz := 0))
  refine ⟨V1, M1, x1, h1, fun d Q => ?_⟩
  have m1 := hJ.2.2.1
  have m2 := hJ.2.2.2
  have l0 : ((L.toNat : Nat) : Int) = L := by omega
  have b1 : 0 ≤ i + 1 := by omega
  have b2 : 0 ≤ i + 2 := by omega
  have b3 : 0 ≤ i + 3 := by omega
  have b4 : 0 ≤ i + 4 := by omega
  have c1 : i + 1 < L := by omega
  have c2 : i + 2 < L := by omega
  have c3 : i + 3 < L := by omega
  have c4 : i + 4 < L := by omega
  simp (disch := omega) only [i_287_1042, i_287_1043, i_287_1046, i_287_1047, i_287_1050, i_287_1053, i_287_1054, g_s, g_o0, g_o172, m1, m2, n1, n2, hc, hm, l0, b1, b2, b3, b4, c1, c2, c3, c4, exists_eq_left', Option.some.injEq, exists_eq_left, ne_eq, List.length_nil, List.length_cons, Option.toList_some, Option.toList_none, List.cons_append, List.nil_append, mj_wt_nil, mj_wt_i, mj_wt_r, mj_wt_l, true_and, and_true, false_and, and_false, true_implies, false_implies, implies_true, not_true_eq_false, not_false_eq_true, and_self, Int.reduceEq, Nat.reduceEqDiff, ↓reduceIte, mj_w_id2, List.append_nil]
  try grind
theorem lw_c27 (hJ : lw_J n S L V M) (hn : 0 ≤ n ∧ n < 80000000) (hS : ∀ j, -2147483648 ≤ S j ∧ S j < 2147483648) (hi : 0 ≤ i ∧ i + 5 ≤ L) (hL : L ≤ 2560) : ∃ (V1 M1 : mj_M) (x1 : Nat), lw_J (n + 1000) S L V1 M1 ∧ ∀ d Q, mj_Rn (d + 201) 287 1055 [.inr (.inl 9000), .inr (.inl 0), .inr (.inl 172), .inl i] [] (SGx x) M Q = mj_Rn (d + 201) 287 1361 [.inr (.inl 9000), .inr (.inl 0), .inr (.inl 172), .inl i] [] (SGx x1) M1 Q := by
  obtain ⟨v, N, V1, M1, x1, hc, hm, ⟨n1, n2⟩, h1⟩ := lw_z hJ (z_o_text (x := x) hJ.1 (hn := ⟨by omega, by omega⟩) (zz := 0))
  refine ⟨V1, M1, x1, h1, fun d Q => ?_⟩
  have m1 := hJ.2.2.1
  have m2 := hJ.2.2.2
  have l0 : ((L.toNat : Nat) : Int) = L := by omega
  have b1 : 0 ≤ i + 1 := by omega
  have b2 : 0 ≤ i + 2 := by omega
  have b3 : 0 ≤ i + 3 := by omega
  have b4 : 0 ≤ i + 4 := by omega
  have c1 : i + 1 < L := by omega
  have c2 : i + 2 < L := by omega
  have c3 : i + 3 < L := by omega
  have c4 : i + 4 < L := by omega
  simp (disch := omega) only [i_287_1055, i_287_1056, i_287_1059, i_287_1060, i_287_1063, i_287_1066, i_287_1067, g_s, g_o0, g_o172, m1, m2, n1, n2, hc, hm, l0, b1, b2, b3, b4, c1, c2, c3, c4, exists_eq_left', Option.some.injEq, exists_eq_left, ne_eq, List.length_nil, List.length_cons, Option.toList_some, Option.toList_none, List.cons_append, List.nil_append, mj_wt_nil, mj_wt_i, mj_wt_r, mj_wt_l, true_and, and_true, false_and, and_false, true_implies, false_implies, implies_true, not_true_eq_false, not_false_eq_true, and_self, Int.reduceEq, Nat.reduceEqDiff, ↓reduceIte, mj_w_id2, List.append_nil]
  try grind
theorem lw_c28 (hJ : lw_J n S L V M) (hn : 0 ≤ n ∧ n < 80000000) (hS : ∀ j, -2147483648 ≤ S j ∧ S j < 2147483648) (hi : 0 ≤ i ∧ i + 5 ≤ L) (hL : L ≤ 2560) : ∃ (V1 M1 : mj_M) (x1 : Nat), lw_J (n + 1000) S L V1 M1 ∧ ∀ d Q, mj_Rn (d + 201) 287 1068 [.inr (.inl 9000), .inr (.inl 0), .inr (.inl 172), .inl i] [] (SGx x) M Q = mj_Rn (d + 201) 287 1361 [.inr (.inl 9000), .inr (.inl 0), .inr (.inl 172), .inl i] [] (SGx x1) M1 Q := by
  obtain ⟨v, N, V1, M1, x1, hc, hm, ⟨n1, n2⟩, h1⟩ := lw_z hJ (z_o_count (x := x) hJ.1 (k := (S (i + 1).toNat)))
  refine ⟨V1, M1, x1, h1, fun d Q => ?_⟩
  have m1 := hJ.2.2.1
  have m2 := hJ.2.2.2
  have l0 : ((L.toNat : Nat) : Int) = L := by omega
  have b1 : 0 ≤ i + 1 := by omega
  have b2 : 0 ≤ i + 2 := by omega
  have b3 : 0 ≤ i + 3 := by omega
  have b4 : 0 ≤ i + 4 := by omega
  have c1 : i + 1 < L := by omega
  have c2 : i + 2 < L := by omega
  have c3 : i + 3 < L := by omega
  have c4 : i + 4 < L := by omega
  simp (disch := omega) only [i_287_1068, i_287_1069, i_287_1070, i_287_1071, i_287_1072, i_287_1073, i_287_1074, i_287_1077, i_287_1078, i_287_1079, i_287_1080, i_287_1081, i_287_1082, i_287_1083, i_287_1086, i_287_1089, i_287_1090, g_s, g_o0, g_o172, m1, m2, n1, n2, hc, hm, l0, b1, b2, b3, b4, c1, c2, c3, c4, exists_eq_left', Option.some.injEq, exists_eq_left, ne_eq, List.length_nil, List.length_cons, Option.toList_some, Option.toList_none, List.cons_append, List.nil_append, mj_wt_nil, mj_wt_i, mj_wt_r, mj_wt_l, true_and, and_true, false_and, and_false, true_implies, false_implies, implies_true, not_true_eq_false, not_false_eq_true, and_self, Int.reduceEq, Nat.reduceEqDiff, ↓reduceIte, mj_w_id2, List.append_nil]
  try grind
theorem lw_c29 (hJ : lw_J n S L V M) (hn : 0 ≤ n ∧ n < 80000000) (hS : ∀ j, -2147483648 ≤ S j ∧ S j < 2147483648) (hi : 0 ≤ i ∧ i + 5 ≤ L) (hL : L ≤ 2560) : ∃ (V1 M1 : mj_M) (x1 : Nat), lw_J (n + 1000) S L V1 M1 ∧ ∀ d Q, mj_Rn (d + 201) 287 1091 [.inr (.inl 9000), .inr (.inl 0), .inr (.inl 172), .inl i] [] (SGx x) M Q = mj_Rn (d + 201) 287 1361 [.inr (.inl 9000), .inr (.inl 0), .inr (.inl 172), .inl i] [] (SGx x1) M1 Q := by
  obtain ⟨v, N, V1, M1, x1, hc, hm, ⟨n1, n2⟩, h1⟩ := lw_z hJ (z_o_image (x := x) hJ.1 (zz := 0))
  refine ⟨V1, M1, x1, h1, fun d Q => ?_⟩
  have m1 := hJ.2.2.1
  have m2 := hJ.2.2.2
  have l0 : ((L.toNat : Nat) : Int) = L := by omega
  have b1 : 0 ≤ i + 1 := by omega
  have b2 : 0 ≤ i + 2 := by omega
  have b3 : 0 ≤ i + 3 := by omega
  have b4 : 0 ≤ i + 4 := by omega
  have c1 : i + 1 < L := by omega
  have c2 : i + 2 < L := by omega
  have c3 : i + 3 < L := by omega
  have c4 : i + 4 < L := by omega
  simp (disch := omega) only [i_287_1091, i_287_1092, i_287_1095, i_287_1096, i_287_1099, i_287_1102, i_287_1103, g_s, g_o0, g_o172, m1, m2, n1, n2, hc, hm, l0, b1, b2, b3, b4, c1, c2, c3, c4, exists_eq_left', Option.some.injEq, exists_eq_left, ne_eq, List.length_nil, List.length_cons, Option.toList_some, Option.toList_none, List.cons_append, List.nil_append, mj_wt_nil, mj_wt_i, mj_wt_r, mj_wt_l, true_and, and_true, false_and, and_false, true_implies, false_implies, implies_true, not_true_eq_false, not_false_eq_true, and_self, Int.reduceEq, Nat.reduceEqDiff, ↓reduceIte, mj_w_id2, List.append_nil]
  try grind
theorem lw_c30 (hJ : lw_J n S L V M) (hn : 0 ≤ n ∧ n < 80000000) (hS : ∀ j, -2147483648 ≤ S j ∧ S j < 2147483648) (hi : 0 ≤ i ∧ i + 5 ≤ L) (hL : L ≤ 2560) : ∃ (V1 M1 : mj_M) (x1 : Nat), lw_J (n + 1000) S L V1 M1 ∧ ∀ d Q, mj_Rn (d + 201) 287 1104 [.inr (.inl 9000), .inr (.inl 0), .inr (.inl 172), .inl i] [] (SGx x) M Q = mj_Rn (d + 201) 287 1361 [.inr (.inl 9000), .inr (.inl 0), .inr (.inl 172), .inl i] [] (SGx x1) M1 Q := by
  obtain ⟨v, N, V1, M1, x1, hc, hm, ⟨n1, n2⟩, h1⟩ := lw_z hJ (z_o_back (x := x) hJ.1 (zz := 0))
  refine ⟨V1, M1, x1, h1, fun d Q => ?_⟩
  have m1 := hJ.2.2.1
  have m2 := hJ.2.2.2
  have l0 : ((L.toNat : Nat) : Int) = L := by omega
  have b1 : 0 ≤ i + 1 := by omega
  have b2 : 0 ≤ i + 2 := by omega
  have b3 : 0 ≤ i + 3 := by omega
  have b4 : 0 ≤ i + 4 := by omega
  have c1 : i + 1 < L := by omega
  have c2 : i + 2 < L := by omega
  have c3 : i + 3 < L := by omega
  have c4 : i + 4 < L := by omega
  simp (disch := omega) only [i_287_1104, i_287_1105, i_287_1108, i_287_1109, i_287_1112, i_287_1115, i_287_1116, g_s, g_o0, g_o172, m1, m2, n1, n2, hc, hm, l0, b1, b2, b3, b4, c1, c2, c3, c4, exists_eq_left', Option.some.injEq, exists_eq_left, ne_eq, List.length_nil, List.length_cons, Option.toList_some, Option.toList_none, List.cons_append, List.nil_append, mj_wt_nil, mj_wt_i, mj_wt_r, mj_wt_l, true_and, and_true, false_and, and_false, true_implies, false_implies, implies_true, not_true_eq_false, not_false_eq_true, and_self, Int.reduceEq, Nat.reduceEqDiff, ↓reduceIte, mj_w_id2, List.append_nil]
  try grind
theorem lw_c31 (hJ : lw_J n S L V M) (hn : 0 ≤ n ∧ n < 80000000) (hS : ∀ j, -2147483648 ≤ S j ∧ S j < 2147483648) (hi : 0 ≤ i ∧ i + 5 ≤ L) (hL : L ≤ 2560) : ∃ (V1 M1 : mj_M) (x1 : Nat), lw_J (n + 1000) S L V1 M1 ∧ ∀ d Q, mj_Rn (d + 201) 287 1117 [.inr (.inl 9000), .inr (.inl 0), .inr (.inl 172), .inl i] [] (SGx x) M Q = mj_Rn (d + 201) 287 1361 [.inr (.inl 9000), .inr (.inl 0), .inr (.inl 172), .inl i] [] (SGx x1) M1 Q := by
  obtain ⟨v, N, V1, M1, x1, hc, hm, ⟨n1, n2⟩, h1⟩ := lw_z hJ (z_o_sheet (x := x) hJ.1 (k := (S (i + 1).toNat)) (s := (S (i + 2).toNat)))
  refine ⟨V1, M1, x1, h1, fun d Q => ?_⟩
  have m1 := hJ.2.2.1
  have m2 := hJ.2.2.2
  have l0 : ((L.toNat : Nat) : Int) = L := by omega
  have b1 : 0 ≤ i + 1 := by omega
  have b2 : 0 ≤ i + 2 := by omega
  have b3 : 0 ≤ i + 3 := by omega
  have b4 : 0 ≤ i + 4 := by omega
  have c1 : i + 1 < L := by omega
  have c2 : i + 2 < L := by omega
  have c3 : i + 3 < L := by omega
  have c4 : i + 4 < L := by omega
  simp (disch := omega) only [i_287_1117, i_287_1118, i_287_1119, i_287_1120, i_287_1121, i_287_1122, i_287_1123, i_287_1124, i_287_1125, i_287_1126, i_287_1127, i_287_1128, i_287_1131, i_287_1132, i_287_1133, i_287_1134, i_287_1135, i_287_1136, i_287_1137, i_287_1138, i_287_1139, i_287_1140, i_287_1141, i_287_1142, i_287_1145, i_287_1148, i_287_1149, g_s, g_o0, g_o172, m1, m2, n1, n2, hc, hm, l0, b1, b2, b3, b4, c1, c2, c3, c4, exists_eq_left', Option.some.injEq, exists_eq_left, ne_eq, List.length_nil, List.length_cons, Option.toList_some, Option.toList_none, List.cons_append, List.nil_append, mj_wt_nil, mj_wt_i, mj_wt_r, mj_wt_l, true_and, and_true, false_and, and_false, true_implies, false_implies, implies_true, not_true_eq_false, not_false_eq_true, and_self, Int.reduceEq, Nat.reduceEqDiff, ↓reduceIte, mj_w_id2, List.append_nil]
  try grind
theorem lw_c32 (hJ : lw_J n S L V M) (hn : 0 ≤ n ∧ n < 80000000) (hS : ∀ j, -2147483648 ≤ S j ∧ S j < 2147483648) (hi : 0 ≤ i ∧ i + 5 ≤ L) (hL : L ≤ 2560) : ∃ (V1 M1 : mj_M) (x1 : Nat), lw_J (n + 1000) S L V1 M1 ∧ ∀ d Q, mj_Rn (d + 201) 287 1150 [.inr (.inl 9000), .inr (.inl 0), .inr (.inl 172), .inl i] [] (SGx x) M Q = mj_Rn (d + 201) 287 1361 [.inr (.inl 9000), .inr (.inl 0), .inr (.inl 172), .inl i] [] (SGx x1) M1 Q := by
  obtain ⟨v, N, V1, M1, x1, hc, hm, ⟨n1, n2⟩, h1⟩ := lw_z hJ (z_o_set (x := x) hJ.1 (k := (S (i + 1).toNat)) (i := (S (i + 2).toNat)) (v := (S (i + 3).toNat)))
  refine ⟨V1, M1, x1, h1, fun d Q => ?_⟩
  have m1 := hJ.2.2.1
  have m2 := hJ.2.2.2
  have l0 : ((L.toNat : Nat) : Int) = L := by omega
  have b1 : 0 ≤ i + 1 := by omega
  have b2 : 0 ≤ i + 2 := by omega
  have b3 : 0 ≤ i + 3 := by omega
  have b4 : 0 ≤ i + 4 := by omega
  have c1 : i + 1 < L := by omega
  have c2 : i + 2 < L := by omega
  have c3 : i + 3 < L := by omega
  have c4 : i + 4 < L := by omega
  simp (disch := omega) only [i_287_1150, i_287_1151, i_287_1152, i_287_1153, i_287_1154, i_287_1155, i_287_1156, i_287_1157, i_287_1158, i_287_1159, i_287_1160, i_287_1161, i_287_1162, i_287_1163, i_287_1164, i_287_1165, i_287_1166, i_287_1169, i_287_1170, i_287_1171, i_287_1172, i_287_1173, i_287_1174, i_287_1175, i_287_1176, i_287_1177, i_287_1178, i_287_1179, i_287_1180, i_287_1181, i_287_1182, i_287_1183, i_287_1184, i_287_1185, i_287_1188, i_287_1191, i_287_1192, g_s, g_o0, g_o172, m1, m2, n1, n2, hc, hm, l0, b1, b2, b3, b4, c1, c2, c3, c4, exists_eq_left', Option.some.injEq, exists_eq_left, ne_eq, List.length_nil, List.length_cons, Option.toList_some, Option.toList_none, List.cons_append, List.nil_append, mj_wt_nil, mj_wt_i, mj_wt_r, mj_wt_l, true_and, and_true, false_and, and_false, true_implies, false_implies, implies_true, not_true_eq_false, not_false_eq_true, and_self, Int.reduceEq, Nat.reduceEqDiff, ↓reduceIte, mj_w_id2, List.append_nil]
  try grind
theorem lw_c33 (hJ : lw_J n S L V M) (hn : 0 ≤ n ∧ n < 80000000) (hS : ∀ j, -2147483648 ≤ S j ∧ S j < 2147483648) (hi : 0 ≤ i ∧ i + 5 ≤ L) (hL : L ≤ 2560) : ∃ (V1 M1 : mj_M) (x1 : Nat), lw_J (n + 1000) S L V1 M1 ∧ ∀ d Q, mj_Rn (d + 201) 287 1193 [.inr (.inl 9000), .inr (.inl 0), .inr (.inl 172), .inl i] [] (SGx x) M Q = mj_Rn (d + 201) 287 1361 [.inr (.inl 9000), .inr (.inl 0), .inr (.inl 172), .inl i] [] (SGx x1) M1 Q := by
  obtain ⟨v, N, V1, M1, x1, hc, hm, ⟨n1, n2⟩, h1⟩ := lw_z hJ (z_o_lay (x := x) hJ.1 (k := (S (i + 1).toNat)))
  refine ⟨V1, M1, x1, h1, fun d Q => ?_⟩
  have m1 := hJ.2.2.1
  have m2 := hJ.2.2.2
  have l0 : ((L.toNat : Nat) : Int) = L := by omega
  have b1 : 0 ≤ i + 1 := by omega
  have b2 : 0 ≤ i + 2 := by omega
  have b3 : 0 ≤ i + 3 := by omega
  have b4 : 0 ≤ i + 4 := by omega
  have c1 : i + 1 < L := by omega
  have c2 : i + 2 < L := by omega
  have c3 : i + 3 < L := by omega
  have c4 : i + 4 < L := by omega
  simp (disch := omega) only [i_287_1193, i_287_1194, i_287_1195, i_287_1196, i_287_1197, i_287_1198, i_287_1199, i_287_1202, i_287_1203, i_287_1204, i_287_1205, i_287_1206, i_287_1207, i_287_1208, i_287_1211, i_287_1214, i_287_1215, g_s, g_o0, g_o172, m1, m2, n1, n2, hc, hm, l0, b1, b2, b3, b4, c1, c2, c3, c4, exists_eq_left', Option.some.injEq, exists_eq_left, ne_eq, List.length_nil, List.length_cons, Option.toList_some, Option.toList_none, List.cons_append, List.nil_append, mj_wt_nil, mj_wt_i, mj_wt_r, mj_wt_l, true_and, and_true, false_and, and_false, true_implies, false_implies, implies_true, not_true_eq_false, not_false_eq_true, and_self, Int.reduceEq, Nat.reduceEqDiff, ↓reduceIte, mj_w_id2, List.append_nil]
  try grind
theorem lw_c34 (hJ : lw_J n S L V M) (hn : 0 ≤ n ∧ n < 80000000) (hS : ∀ j, -2147483648 ≤ S j ∧ S j < 2147483648) (hi : 0 ≤ i ∧ i + 5 ≤ L) (hL : L ≤ 2560) : ∃ (V1 M1 : mj_M) (x1 : Nat), lw_J (n + 1000) S L V1 M1 ∧ ∀ d Q, mj_Rn (d + 201) 287 1216 [.inr (.inl 9000), .inr (.inl 0), .inr (.inl 172), .inl i] [] (SGx x) M Q = mj_Rn (d + 201) 287 1361 [.inr (.inl 9000), .inr (.inl 0), .inr (.inl 172), .inl i] [] (SGx x1) M1 Q := by
  obtain ⟨v, N, V1, M1, x1, hc, hm, ⟨n1, n2⟩, h1⟩ := lw_z hJ (z_o_write (x := x) hJ.1 (i := (S (i + 1).toNat)) (v := (S (i + 2).toNat)))
  refine ⟨V1, M1, x1, h1, fun d Q => ?_⟩
  have m1 := hJ.2.2.1
  have m2 := hJ.2.2.2
  have l0 : ((L.toNat : Nat) : Int) = L := by omega
  have b1 : 0 ≤ i + 1 := by omega
  have b2 : 0 ≤ i + 2 := by omega
  have b3 : 0 ≤ i + 3 := by omega
  have b4 : 0 ≤ i + 4 := by omega
  have c1 : i + 1 < L := by omega
  have c2 : i + 2 < L := by omega
  have c3 : i + 3 < L := by omega
  have c4 : i + 4 < L := by omega
  simp (disch := omega) only [i_287_1216, i_287_1217, i_287_1218, i_287_1219, i_287_1220, i_287_1221, i_287_1222, i_287_1223, i_287_1224, i_287_1225, i_287_1226, i_287_1227, i_287_1230, i_287_1231, i_287_1232, i_287_1233, i_287_1234, i_287_1235, i_287_1236, i_287_1237, i_287_1238, i_287_1239, i_287_1240, i_287_1241, i_287_1244, i_287_1247, i_287_1248, g_s, g_o0, g_o172, m1, m2, n1, n2, hc, hm, l0, b1, b2, b3, b4, c1, c2, c3, c4, exists_eq_left', Option.some.injEq, exists_eq_left, ne_eq, List.length_nil, List.length_cons, Option.toList_some, Option.toList_none, List.cons_append, List.nil_append, mj_wt_nil, mj_wt_i, mj_wt_r, mj_wt_l, true_and, and_true, false_and, and_false, true_implies, false_implies, implies_true, not_true_eq_false, not_false_eq_true, and_self, Int.reduceEq, Nat.reduceEqDiff, ↓reduceIte, mj_w_id2, List.append_nil]
  try grind
theorem lw_c35 (hJ : lw_J n S L V M) (hn : 0 ≤ n ∧ n < 80000000) (hS : ∀ j, -2147483648 ≤ S j ∧ S j < 2147483648) (hi : 0 ≤ i ∧ i + 5 ≤ L) (hL : L ≤ 2560) : ∃ (V1 M1 : mj_M) (x1 : Nat), lw_J (n + 1000) S L V1 M1 ∧ ∀ d Q, mj_Rn (d + 201) 287 1249 [.inr (.inl 9000), .inr (.inl 0), .inr (.inl 172), .inl i] [] (SGx x) M Q = mj_Rn (d + 201) 287 1361 [.inr (.inl 9000), .inr (.inl 0), .inr (.inl 172), .inl i] [] (SGx x1) M1 Q := by
  obtain ⟨v, N, V1, M1, x1, hc, hm, ⟨n1, n2⟩, h1⟩ := lw_z hJ (z_o_tear (x := x) hJ.1 (zz := 0))
  refine ⟨V1, M1, x1, h1, fun d Q => ?_⟩
  have m1 := hJ.2.2.1
  have m2 := hJ.2.2.2
  have l0 : ((L.toNat : Nat) : Int) = L := by omega
  have b1 : 0 ≤ i + 1 := by omega
  have b2 : 0 ≤ i + 2 := by omega
  have b3 : 0 ≤ i + 3 := by omega
  have b4 : 0 ≤ i + 4 := by omega
  have c1 : i + 1 < L := by omega
  have c2 : i + 2 < L := by omega
  have c3 : i + 3 < L := by omega
  have c4 : i + 4 < L := by omega
  simp (disch := omega) only [i_287_1249, i_287_1250, i_287_1253, i_287_1254, i_287_1257, i_287_1260, i_287_1261, g_s, g_o0, g_o172, m1, m2, n1, n2, hc, hm, l0, b1, b2, b3, b4, c1, c2, c3, c4, exists_eq_left', Option.some.injEq, exists_eq_left, ne_eq, List.length_nil, List.length_cons, Option.toList_some, Option.toList_none, List.cons_append, List.nil_append, mj_wt_nil, mj_wt_i, mj_wt_r, mj_wt_l, true_and, and_true, false_and, and_false, true_implies, false_implies, implies_true, not_true_eq_false, not_false_eq_true, and_self, Int.reduceEq, Nat.reduceEqDiff, ↓reduceIte, mj_w_id2, List.append_nil]
  try grind
theorem lw_c36 (hJ : lw_J n S L V M) (hn : 0 ≤ n ∧ n < 80000000) (hS : ∀ j, -2147483648 ≤ S j ∧ S j < 2147483648) (hi : 0 ≤ i ∧ i + 5 ≤ L) (hL : L ≤ 2560) : ∃ (V1 M1 : mj_M) (x1 : Nat), lw_J (n + 1000) S L V1 M1 ∧ ∀ d Q, mj_Rn (d + 201) 287 1262 [.inr (.inl 9000), .inr (.inl 0), .inr (.inl 172), .inl i] [] (SGx x) M Q = mj_Rn (d + 201) 287 1361 [.inr (.inl 9000), .inr (.inl 0), .inr (.inl 172), .inl i] [] (SGx x1) M1 Q := by
  obtain ⟨v, N, V1, M1, x1, hc, hm, ⟨n1, n2⟩, h1⟩ := lw_z hJ (z_o_row (x := x) hJ.1 (i := (S (i + 1).toNat)))
  refine ⟨V1, M1, x1, h1, fun d Q => ?_⟩
  have m1 := hJ.2.2.1
  have m2 := hJ.2.2.2
  have l0 : ((L.toNat : Nat) : Int) = L := by omega
  have b1 : 0 ≤ i + 1 := by omega
  have b2 : 0 ≤ i + 2 := by omega
  have b3 : 0 ≤ i + 3 := by omega
  have b4 : 0 ≤ i + 4 := by omega
  have c1 : i + 1 < L := by omega
  have c2 : i + 2 < L := by omega
  have c3 : i + 3 < L := by omega
  have c4 : i + 4 < L := by omega
  simp (disch := omega) only [i_287_1262, i_287_1263, i_287_1264, i_287_1265, i_287_1266, i_287_1267, i_287_1268, i_287_1271, i_287_1272, i_287_1273, i_287_1274, i_287_1275, i_287_1276, i_287_1277, i_287_1280, i_287_1283, i_287_1284, g_s, g_o0, g_o172, m1, m2, n1, n2, hc, hm, l0, b1, b2, b3, b4, c1, c2, c3, c4, exists_eq_left', Option.some.injEq, exists_eq_left, ne_eq, List.length_nil, List.length_cons, Option.toList_some, Option.toList_none, List.cons_append, List.nil_append, mj_wt_nil, mj_wt_i, mj_wt_r, mj_wt_l, true_and, and_true, false_and, and_false, true_implies, false_implies, implies_true, not_true_eq_false, not_false_eq_true, and_self, Int.reduceEq, Nat.reduceEqDiff, ↓reduceIte, mj_w_id2, List.append_nil]
  try grind
theorem lw_c37 (hJ : lw_J n S L V M) (hn : 0 ≤ n ∧ n < 80000000) (hS : ∀ j, -2147483648 ≤ S j ∧ S j < 2147483648) (hi : 0 ≤ i ∧ i + 5 ≤ L) (hL : L ≤ 2560) : ∃ (V1 M1 : mj_M) (x1 : Nat), lw_J (n + 1000) S L V1 M1 ∧ ∀ d Q, mj_Rn (d + 201) 287 1285 [.inr (.inl 9000), .inr (.inl 0), .inr (.inl 172), .inl i] [] (SGx x) M Q = mj_Rn (d + 201) 287 1361 [.inr (.inl 9000), .inr (.inl 0), .inr (.inl 172), .inl i] [] (SGx x1) M1 Q := by
  obtain ⟨v, N, V1, M1, x1, hc, hm, ⟨n1, n2⟩, h1⟩ := lw_z hJ (z_o_copy (x := x) hJ.1 (hn := hS _) (k := (S (i + 1).toNat)) (i := (S (i + 2).toNat)) (j := (S (i + 3).toNat)) (s := (S (i + 4).toNat)))
  refine ⟨V1, M1, x1, h1, fun d Q => ?_⟩
  have m1 := hJ.2.2.1
  have m2 := hJ.2.2.2
  have l0 : ((L.toNat : Nat) : Int) = L := by omega
  have b1 : 0 ≤ i + 1 := by omega
  have b2 : 0 ≤ i + 2 := by omega
  have b3 : 0 ≤ i + 3 := by omega
  have b4 : 0 ≤ i + 4 := by omega
  have c1 : i + 1 < L := by omega
  have c2 : i + 2 < L := by omega
  have c3 : i + 3 < L := by omega
  have c4 : i + 4 < L := by omega
  simp (disch := omega) only [i_287_1285, i_287_1286, i_287_1287, i_287_1288, i_287_1289, i_287_1290, i_287_1291, i_287_1292, i_287_1293, i_287_1294, i_287_1295, i_287_1296, i_287_1297, i_287_1298, i_287_1299, i_287_1300, i_287_1301, i_287_1302, i_287_1303, i_287_1304, i_287_1305, i_287_1306, i_287_1309, i_287_1310, i_287_1311, i_287_1312, i_287_1313, i_287_1314, i_287_1315, i_287_1316, i_287_1317, i_287_1318, i_287_1319, i_287_1320, i_287_1321, i_287_1322, i_287_1323, i_287_1324, i_287_1325, i_287_1326, i_287_1327, i_287_1328, i_287_1329, i_287_1330, i_287_1333, i_287_1336, i_287_1337, g_s, g_o0, g_o172, m1, m2, n1, n2, hc, hm, l0, b1, b2, b3, b4, c1, c2, c3, c4, exists_eq_left', Option.some.injEq, exists_eq_left, ne_eq, List.length_nil, List.length_cons, Option.toList_some, Option.toList_none, List.cons_append, List.nil_append, mj_wt_nil, mj_wt_i, mj_wt_r, mj_wt_l, true_and, and_true, false_and, and_false, true_implies, false_implies, implies_true, not_true_eq_false, not_false_eq_true, and_self, Int.reduceEq, Nat.reduceEqDiff, ↓reduceIte, mj_w_id2, List.append_nil]
  try grind
theorem lw_c38 (hJ : lw_J n S L V M) (hn : 0 ≤ n ∧ n < 80000000) (hS : ∀ j, -2147483648 ≤ S j ∧ S j < 2147483648) (hi : 0 ≤ i ∧ i + 5 ≤ L) (hL : L ≤ 2560) : ∃ (V1 M1 : mj_M) (x1 : Nat), lw_J (n + 1000) S L V1 M1 ∧ ∀ d Q, mj_Rn (d + 201) 287 1338 [.inr (.inl 9000), .inr (.inl 0), .inr (.inl 172), .inl i] [] (SGx x) M Q = mj_Rn (d + 201) 287 1361 [.inr (.inl 9000), .inr (.inl 0), .inr (.inl 172), .inl i] [] (SGx x1) M1 Q := by
  obtain ⟨v, N, V1, M1, x1, hc, hm, ⟨n1, n2⟩, h1⟩ := lw_z hJ (z_o_status (x := x) hJ.1 (k := (S (i + 1).toNat)))
  refine ⟨V1, M1, x1, h1, fun d Q => ?_⟩
  have m1 := hJ.2.2.1
  have m2 := hJ.2.2.2
  have l0 : ((L.toNat : Nat) : Int) = L := by omega
  have b1 : 0 ≤ i + 1 := by omega
  have b2 : 0 ≤ i + 2 := by omega
  have b3 : 0 ≤ i + 3 := by omega
  have b4 : 0 ≤ i + 4 := by omega
  have c1 : i + 1 < L := by omega
  have c2 : i + 2 < L := by omega
  have c3 : i + 3 < L := by omega
  have c4 : i + 4 < L := by omega
  simp (disch := omega) only [i_287_1338, i_287_1339, i_287_1340, i_287_1341, i_287_1342, i_287_1343, i_287_1344, i_287_1347, i_287_1348, i_287_1349, i_287_1350, i_287_1351, i_287_1352, i_287_1353, i_287_1356, i_287_1359, i_287_1360, g_s, g_o0, g_o172, m1, m2, n1, n2, hc, hm, l0, b1, b2, b3, b4, c1, c2, c3, c4, exists_eq_left', Option.some.injEq, exists_eq_left, ne_eq, List.length_nil, List.length_cons, Option.toList_some, Option.toList_none, List.cons_append, List.nil_append, mj_wt_nil, mj_wt_i, mj_wt_r, mj_wt_l, true_and, and_true, false_and, and_false, true_implies, false_implies, implies_true, not_true_eq_false, not_false_eq_true, and_self, Int.reduceEq, Nat.reduceEqDiff, ↓reduceIte, mj_w_id2, List.append_nil]
  try grind
theorem lw_loop (hS : ∀ j, -2147483648 ≤ S j ∧ S j < 2147483648) (hL : 0 ≤ L ∧ L ≤ 2560) : ∀ (k : Nat) (i n : Int) (x : Nat) (V M : mj_M), lw_J n S L V M → 0 ≤ i ∧ i ≤ 2560 → L < i + 5 * k + 5 → 0 ≤ n ∧ n + 1000 * k < 80000000 →
    mj_Rn (d + 201) 287 18 [.inr (.inl 9000), .inr (.inl 0), .inr (.inl 172), .inl i] [] (SGx x) M (fun r G' M' => r = some (.inl 1) ∧ ∃ x', G' = SGx x') := by
  intro k
  have hL2 := hL
  obtain ⟨hL0, hL⟩ := hL
  have ex : ∀ (i n : Int) (x : Nat) (V M : mj_M), lw_J n S L V M → 0 ≤ i ∧ i ≤ 2560 → L - 5 < i → mj_Rn (d + 201) 287 18 [.inr (.inl 9000), .inr (.inl 0), .inr (.inl 172), .inl i] [] (SGx x) M (fun r G' M' => r = some (.inl 1) ∧ ∃ x', G' = SGx x') := by
    intro i n x V M hJ hi c
    have m2 := hJ.2.2.2
    have l0 : ((L.toNat : Nat) : Int) = L := by omega
    have c' : ¬ ¬ L - 5 < i := fun q => q c
    simp (disch := omega) only [i_287_18, i_287_19, i_287_20, i_287_21, i_287_22, i_287_23, i_287_1367, i_287_1368, g_s, m2, l0, exists_eq_left', Option.some.injEq, exists_eq_left, ne_eq, List.length_nil, List.length_cons, Option.toList_some, Option.toList_none, List.cons_append, List.nil_append, mj_wt_nil, mj_wt_i, mj_wt_r, mj_wt_l, true_and, and_true, false_and, and_false, true_implies, false_implies, implies_true, not_true_eq_false, not_false_eq_true, and_self, Int.reduceEq, Nat.reduceEqDiff, ↓reduceIte, mj_w_id2, c, c', true_implies, false_implies, and_true, not_true_eq_false, not_false_eq_true]
    exact ⟨by omega, x, rfl⟩
  induction k with
  | zero =>
    intro i n x V M hJ hi hk hn
    exact ex i n x V M hJ hi (by omega)
  | succ k ih =>
    intro i n x V M hJ hi hk hn
    by_cases c : L - 5 < i
    · exact ex i n x V M hJ hi c
    · have h0 := hi.1
      have m1 := hJ.2.2.1
      have m2 := hJ.2.2.2
      have l0 : ((L.toNat : Nat) : Int) = L := by omega
      have nx : ∀ (x1 : Nat) (V1 M1 : mj_M), lw_J (n + 1000) S L V1 M1 → mj_Rn (d + 201) 287 1361 [.inr (.inl 9000), .inr (.inl 0), .inr (.inl 172), .inl i] [] (SGx x1) M1 (fun r G' M' => r = some (.inl 1) ∧ ∃ x', G' = SGx x') := by
        intro x1 V1 M1 h1
        rw [i_287_1361, i_287_1364, mj_w_id2 (by omega) (by omega)]
        exact ih (i + 5) (n + 1000) x1 V1 M1 h1 (by omega) (by omega) (by omega)
      have fin : ∀ {p : Nat}, (∃ (V1 M1 : mj_M) (x1 : Nat), lw_J (n + 1000) S L V1 M1 ∧ ∀ d Q, mj_Rn (d + 201) 287 p [.inr (.inl 9000), .inr (.inl 0), .inr (.inl 172), .inl i] [] (SGx x) M Q = mj_Rn (d + 201) 287 1361 [.inr (.inl 9000), .inr (.inl 0), .inr (.inl 172), .inl i] [] (SGx x1) M1 Q) → mj_Rn (d + 201) 287 p [.inr (.inl 9000), .inr (.inl 0), .inr (.inl 172), .inl i] [] (SGx x) M (fun r G' M' => r = some (.inl 1) ∧ ∃ x', G' = SGx x') := by
        intro p hp
        obtain ⟨V1, M1, x1, h1, he⟩ := hp
        rw [he]
        exact nx x1 V1 M1 h1
      have dflt := nx x V M (lw_J_m hJ (by omega))
      have sw : mj_Rn (d + 201) 287 32 [.inr (.inl 9000), .inr (.inl 0), .inr (.inl 172), .inl i] [.inl (mj_and (S i.toNat) 63)] (SGx x) M (fun r G' M' => r = some (.inl 1) ∧ ∃ x', G' = SGx x') := by
        rw [i_287_32]
        exact ⟨fun _ => fin (lw_c0 hJ ⟨by omega, by omega⟩ hS ⟨h0, by omega⟩ hL), fun _ => ⟨fun _ => fin (lw_c1 hJ ⟨by omega, by omega⟩ hS ⟨h0, by omega⟩ hL), fun _ => ⟨fun _ => fin (lw_c2 hJ ⟨by omega, by omega⟩ hS ⟨h0, by omega⟩ hL), fun _ => ⟨fun _ => fin (lw_c3 hJ ⟨by omega, by omega⟩ hS ⟨h0, by omega⟩ hL), fun _ => ⟨fun _ => fin (lw_c4 hJ ⟨by omega, by omega⟩ hS ⟨h0, by omega⟩ hL), fun _ => ⟨fun _ => fin (lw_c5 hJ ⟨by omega, by omega⟩ hS ⟨h0, by omega⟩ hL), fun _ => ⟨fun _ => fin (lw_c6 hJ ⟨by omega, by omega⟩ hS ⟨h0, by omega⟩ hL), fun _ => ⟨fun _ => fin (lw_c7 hJ ⟨by omega, by omega⟩ hS ⟨h0, by omega⟩ hL), fun _ => ⟨fun _ => fin (lw_c8 hJ ⟨by omega, by omega⟩ hS ⟨h0, by omega⟩ hL), fun _ => ⟨fun _ => fin (lw_c9 hJ ⟨by omega, by omega⟩ hS ⟨h0, by omega⟩ hL), fun _ => ⟨fun _ => fin (lw_c10 hJ ⟨by omega, by omega⟩ hS ⟨h0, by omega⟩ hL), fun _ => ⟨fun _ => fin (lw_c11 hJ ⟨by omega, by omega⟩ hS ⟨h0, by omega⟩ hL), fun _ => ⟨fun _ => fin (lw_c12 hJ ⟨by omega, by omega⟩ hS ⟨h0, by omega⟩ hL), fun _ => ⟨fun _ => fin (lw_c13 hJ ⟨by omega, by omega⟩ hS ⟨h0, by omega⟩ hL), fun _ => ⟨fun _ => fin (lw_c14 hJ ⟨by omega, by omega⟩ hS ⟨h0, by omega⟩ hL), fun _ => ⟨fun _ => fin (lw_c15 hJ ⟨by omega, by omega⟩ hS ⟨h0, by omega⟩ hL), fun _ => ⟨fun _ => fin (lw_c16 hJ ⟨by omega, by omega⟩ hS ⟨h0, by omega⟩ hL), fun _ => ⟨fun _ => fin (lw_c17 hJ ⟨by omega, by omega⟩ hS ⟨h0, by omega⟩ hL), fun _ => ⟨fun _ => fin (lw_c18 hJ ⟨by omega, by omega⟩ hS ⟨h0, by omega⟩ hL), fun _ => ⟨fun _ => fin (lw_c19 hJ ⟨by omega, by omega⟩ hS ⟨h0, by omega⟩ hL), fun _ => ⟨fun _ => fin (lw_c20 hJ ⟨by omega, by omega⟩ hS ⟨h0, by omega⟩ hL), fun _ => ⟨fun _ => fin (lw_c21 hJ ⟨by omega, by omega⟩ hS ⟨h0, by omega⟩ hL), fun _ => ⟨fun _ => fin (lw_c22 hJ ⟨by omega, by omega⟩ hS ⟨h0, by omega⟩ hL), fun _ => ⟨fun _ => fin (lw_c23 hJ ⟨by omega, by omega⟩ hS ⟨h0, by omega⟩ hL), fun _ => ⟨fun _ => fin (lw_c24 hJ ⟨by omega, by omega⟩ hS ⟨h0, by omega⟩ hL), fun _ => ⟨fun _ => fin (lw_c25 hJ ⟨by omega, by omega⟩ hS ⟨h0, by omega⟩ hL), fun _ => ⟨fun _ => fin (lw_c26 hJ ⟨by omega, by omega⟩ hS ⟨h0, by omega⟩ hL), fun _ => ⟨fun _ => fin (lw_c27 hJ ⟨by omega, by omega⟩ hS ⟨h0, by omega⟩ hL), fun _ => ⟨fun _ => fin (lw_c28 hJ ⟨by omega, by omega⟩ hS ⟨h0, by omega⟩ hL), fun _ => ⟨fun _ => fin (lw_c29 hJ ⟨by omega, by omega⟩ hS ⟨h0, by omega⟩ hL), fun _ => ⟨fun _ => fin (lw_c30 hJ ⟨by omega, by omega⟩ hS ⟨h0, by omega⟩ hL), fun _ => ⟨fun _ => fin (lw_c31 hJ ⟨by omega, by omega⟩ hS ⟨h0, by omega⟩ hL), fun _ => ⟨fun _ => fin (lw_c32 hJ ⟨by omega, by omega⟩ hS ⟨h0, by omega⟩ hL), fun _ => ⟨fun _ => fin (lw_c33 hJ ⟨by omega, by omega⟩ hS ⟨h0, by omega⟩ hL), fun _ => ⟨fun _ => fin (lw_c34 hJ ⟨by omega, by omega⟩ hS ⟨h0, by omega⟩ hL), fun _ => ⟨fun _ => fin (lw_c35 hJ ⟨by omega, by omega⟩ hS ⟨h0, by omega⟩ hL), fun _ => ⟨fun _ => fin (lw_c36 hJ ⟨by omega, by omega⟩ hS ⟨h0, by omega⟩ hL), fun _ => ⟨fun _ => fin (lw_c37 hJ ⟨by omega, by omega⟩ hS ⟨h0, by omega⟩ hL), fun _ => ⟨fun _ => fin (lw_c38 hJ ⟨by omega, by omega⟩ hS ⟨h0, by omega⟩ hL), fun _ => dflt⟩⟩⟩⟩⟩⟩⟩⟩⟩⟩⟩⟩⟩⟩⟩⟩⟩⟩⟩⟩⟩⟩⟩⟩⟩⟩⟩⟩⟩⟩⟩⟩⟩⟩⟩⟩⟩⟩⟩
      have b0 : 0 ≤ i := h0
      have c0 : i < L := by omega
      simp (disch := omega) only [i_287_18, i_287_19, i_287_20, i_287_21, i_287_22, i_287_23, i_287_26, i_287_27, i_287_28, i_287_29, i_287_31, g_s, m1, m2, l0, b0, c0, exists_eq_left', Option.some.injEq, exists_eq_left, ne_eq, List.length_nil, List.length_cons, Option.toList_some, Option.toList_none, List.cons_append, List.nil_append, mj_wt_nil, mj_wt_i, mj_wt_r, mj_wt_l, true_and, and_true, false_and, and_false, true_implies, false_implies, implies_true, not_true_eq_false, not_false_eq_true, and_self, Int.reduceEq, Nat.reduceEqDiff, ↓reduceIte, mj_w_id2]
      exact ⟨fun q => absurd q c, fun _ => sw⟩
end law
section lmain
variable {S : Nat → Int} {L : Int} {d : Nat}
theorem mV0_e : v_enc mV0 = fun _ => 0 := by
  funext i
  rfl
/-- the small machine's run of the whole law -/
theorem lw_main {M0 : mj_M} (h0 : ∀ a, a < 9000 → M0 a = fun _ => 0) (hP : ∀ k : Nat, k < 6 → M0 9001 k = m_ro k) (hM : M0 9000 = S) (hM2 : M0 9002 0 = L) (hS : ∀ j, -2147483648 ≤ S j ∧ S j < 2147483648) (hL : 0 ≤ L ∧ L ≤ 2560) :
    mj_Rn (d + 201) 287 0 [.inr (.inl 9000), .inr (.inr 0), .inr (.inr 0), .inr (.inr 0)] [] (0, 0, sgD, sgR) M0 (fun r G' M' => r = some (.inl 1) ∧ ∃ x', G' = SGx x') := by
  have z0 : mj_upr M0 0 (fun _ => 0) = M0 := cZ (h0 0 (by omega))
  have o172 : ∀ a, 172 ≤ a → cM_0 M0 a = M0 a := fun a ha => cA0_o ha
  have z172 : mj_upr (cM_0 M0) 172 (fun _ => 0) = cM_0 M0 := cZ (by rw [o172 172 (by omega)]; exact h0 172 (by omega))
  have t0 := fun (d : Nat) (Q : Option mj_V → mj_G → mj_M → Prop) => ct_0 (d := d) (ρ := sgR) (M := M0) (Q := Q) (fun b _ _ => rfl) (fun b _ h2 => h0 b (by omega))
  have ta := fun (d : Nat) (Q : Option mj_V → mj_G → mj_M → Prop) => mi_a (d := d) (M := cM_0 M0) (Q := Q) (fun b h1 h2 => by rw [o172 b (by omega)]; exact h0 b (by omega))
  have e0 : v_st mV0 (cM_0 M0) = cM_0 M0 := by
    unfold v_st
    rw [mV0_e]
    exact cZ (by rw [o172 173 (by omega)]; exact h0 173 (by omega))
  have tb := fun (d : Nat) (Q : Option mj_V → mj_G → mj_M → Prop) => mi_b (d := d) (x := 162) (M := cM_0 M0) (Q := Q)
  rw [e0] at tb
  have hz : ∀ a, 172 ≤ a → a < 185 → a ≠ 173 → cM_0 M0 a = fun _ => 0 := fun a h1 h2 _ => by rw [o172 a h1]; exact h0 a (by omega)
  have hJ0 : z_JJ 1000 (cM_0 M0) mV3 := z_JJ_0 (iA_0 h0) iV_0 (fun k hk => by rw [o172 9001 (by omega)]; exact hP k hk) hz
  have hJ : lw_J 1000 S L mV3 (v_st mV3 (cM_0 M0)) := ⟨z_JJ_st hJ0, v_st_st, by rw [v_st_ne (by omega), o172 9000 (by omega)]; exact hM, by rw [v_st_ne (by omega), o172 9002 (by omega)]; exact hM2⟩
  have lp := lw_loop (d := d) hS hL 512 0 1000 162 mV3 _ hJ (by omega) (by omega) (by omega)
  simp (disch := first | omega | decide) only [i_287_0, i_287_3, i_287_4, i_287_7, i_287_8, i_287_11, i_287_12, i_287_15, i_287_16, i_287_17, cN_0, cN_172, cO_0, cO_172, z0, z172, t0, ta, tb, exists_eq_left', Option.some.injEq, exists_eq_left, ne_eq, List.length_nil, List.length_cons, Option.toList_some, Option.toList_none, List.cons_append, List.nil_append, mj_wt_nil, mj_wt_i, mj_wt_r, mj_wt_l, true_and, and_true, false_and, and_false, true_implies, false_implies, implies_true, not_true_eq_false, not_false_eq_true, and_self, Int.reduceEq, Nat.reduceEqDiff, ↓reduceIte, Nat.reduceAdd, List.append_nil, List.nil_append, true_and, and_true]
  exact ⟨by omega, by omega, lp⟩
end lmain
