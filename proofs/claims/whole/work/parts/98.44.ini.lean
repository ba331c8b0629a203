section ini44
variable {M : mj_M} {j : Nat}
theorem cA0_0 (hM : M 0 = fun _ => 0) : cM_0 M 0 j = (if j = 16 then 0 else (if j = 15 then 0 else (if j = 14 then -1 else 0))) := by
  unfold cM_0
  rw [cB_o (by omega), q_fill_ne (by omega), mj_up_at, mj_up_at, mj_up_at, cM_157_o (by omega), cM_152_o (by omega), cM_134_o (by omega), cM_133_o (by omega), cM_132_o (by omega), cM_130_o (by omega), cM_87_o (by omega), cM_44_o (by omega), cM_1_o (by omega), hM]
theorem cA0_1 (hM : M 1 = fun _ => 0) : cM_0 M 1 j = (if j = 11 then 0 else (if j = 10 then -1 else (if j = 9 then 0 else (if j = 8 then 0 else (if j = 7 then 0 else (if j = 6 then 0 else 0)))))) := by
  unfold cM_0
  rw [cB_o (by omega), q_fill_ne (by omega), mj_up_ne (by omega), mj_up_ne (by omega), mj_up_ne (by omega), cM_157_o (by omega), cM_152_o (by omega), cM_134_o (by omega), cM_133_o (by omega), cM_132_o (by omega), cM_130_o (by omega), cM_87_o (by omega), cM_44_o (by omega)]
  unfold cM_1
  rw [q_fill_ne (by omega), mj_up_at, mj_up_at, mj_up_at, mj_up_at, mj_up_at, mj_up_at, cM_36_o (by omega), cM_22_o (by omega), cM_13_o (by omega), cM_2_o (by omega), hM]
theorem cA0_2 (hM : M 2 = fun _ => 0) : cM_0 M 2 j = 0 := by
  unfold cM_0
  rw [cB_o (by omega), q_fill_ne (by omega), mj_up_ne (by omega), mj_up_ne (by omega), mj_up_ne (by omega), cM_157_o (by omega), cM_152_o (by omega), cM_134_o (by omega), cM_133_o (by omega), cM_132_o (by omega), cM_130_o (by omega), cM_87_o (by omega), cM_44_o (by omega)]
  unfold cM_1
  rw [q_fill_ne (by omega), mj_up_ne (by omega), mj_up_ne (by omega), mj_up_ne (by omega), mj_up_ne (by omega), mj_up_ne (by omega), mj_up_ne (by omega), cM_36_o (by omega), cM_22_o (by omega), cM_13_o (by omega)]
  unfold cM_2
  rw [q_fill_ne (by omega), hM]
theorem cA0_3 (hM : M 3 = fun _ => 0) : cM_0 M 3 j = (if j = 0 then 0 else (if j < 120 then -1 else 0)) := by
  unfold cM_0
  unfold cB cB2 cB1
  rw [mj_up_ne (by omega), mj_up_ne (by omega), mj_up_ne (by omega), mj_up_ne (by omega), mj_up_ne (by omega), mj_up_ne (by omega), mj_up_ne (by omega), mj_up_ne (by omega), mj_up_ne (by omega), mj_up_ne (by omega), mj_up_ne (by omega), mj_up_at, mj_up_ne (by omega), mj_up_ne (by omega), mj_up_ne (by omega), mj_up_ne (by omega), mj_up_ne (by omega), mj_up_ne (by omega), q_fill_ne (by omega), mj_up_ne (by omega), mj_up_ne (by omega), mj_up_ne (by omega), cM_157_o (by omega), cM_152_o (by omega), cM_134_o (by omega), cM_133_o (by omega), cM_132_o (by omega), cM_130_o (by omega), cM_87_o (by omega), cM_44_o (by omega)]
  unfold cM_1
  rw [q_fill_ne (by omega), mj_up_ne (by omega), mj_up_ne (by omega), mj_up_ne (by omega), mj_up_ne (by omega), mj_up_ne (by omega), mj_up_ne (by omega), cM_36_o (by omega), cM_22_o (by omega), cM_13_o (by omega)]
  unfold cM_2
  rw [q_fill_at.2, hM]
theorem cA0_4 (hM : M 4 = fun _ => 0) : cM_0 M 4 j = (if j = 0 then -1 else 0) := by
  unfold cM_0
  unfold cB cB2 cB1
  rw [mj_up_ne (by omega), mj_up_ne (by omega), mj_up_ne (by omega), mj_up_ne (by omega), mj_up_ne (by omega), mj_up_ne (by omega), mj_up_ne (by omega), mj_up_ne (by omega), mj_up_ne (by omega), mj_up_ne (by omega), mj_up_at, mj_up_ne (by omega), mj_up_ne (by omega), mj_up_ne (by omega), mj_up_ne (by omega), mj_up_ne (by omega), mj_up_ne (by omega), mj_up_ne (by omega), q_fill_ne (by omega), mj_up_ne (by omega), mj_up_ne (by omega), mj_up_ne (by omega), cM_157_o (by omega), cM_152_o (by omega), cM_134_o (by omega), cM_133_o (by omega), cM_132_o (by omega), cM_130_o (by omega), cM_87_o (by omega), cM_44_o (by omega)]
  unfold cM_1
  rw [q_fill_ne (by omega), mj_up_ne (by omega), mj_up_ne (by omega), mj_up_ne (by omega), mj_up_ne (by omega), mj_up_ne (by omega), mj_up_ne (by omega), cM_36_o (by omega), cM_22_o (by omega), cM_13_o (by omega)]
  unfold cM_2
  rw [q_fill_ne (by omega), hM]
theorem cA0_5 (hM : M 5 = fun _ => 0) : cM_0 M 5 j = (if j = 0 then 31 else 0) := by
  unfold cM_0
  unfold cB cB2 cB1
  rw [mj_up_ne (by omega), mj_up_ne (by omega), mj_up_ne (by omega), mj_up_ne (by omega), mj_up_ne (by omega), mj_up_ne (by omega), mj_up_ne (by omega), mj_up_ne (by omega), mj_up_ne (by omega), mj_up_at, mj_up_ne (by omega), mj_up_ne (by omega), mj_up_ne (by omega), mj_up_ne (by omega), mj_up_ne (by omega), mj_up_ne (by omega), mj_up_ne (by omega), mj_up_ne (by omega), q_fill_ne (by omega), mj_up_ne (by omega), mj_up_ne (by omega), mj_up_ne (by omega), cM_157_o (by omega), cM_152_o (by omega), cM_134_o (by omega), cM_133_o (by omega), cM_132_o (by omega), cM_130_o (by omega), cM_87_o (by omega), cM_44_o (by omega)]
  unfold cM_1
  rw [q_fill_ne (by omega), mj_up_ne (by omega), mj_up_ne (by omega), mj_up_ne (by omega), mj_up_ne (by omega), mj_up_ne (by omega), mj_up_ne (by omega), cM_36_o (by omega), cM_22_o (by omega), cM_13_o (by omega)]
  unfold cM_2
  rw [q_fill_ne (by omega), hM]
theorem cA0_6 (hM : M 6 = fun _ => 0) : cM_0 M 6 j = (if j = 0 then 960 else (if j = 0 then 0 else 0)) := by
  unfold cM_0
  unfold cB cB2 cB1
  rw [mj_up_at, mj_up_ne (by omega), mj_up_ne (by omega), mj_up_ne (by omega), mj_up_ne (by omega), mj_up_ne (by omega), mj_up_ne (by omega), mj_up_ne (by omega), mj_up_at, mj_up_ne (by omega), mj_up_ne (by omega), mj_up_ne (by omega), mj_up_ne (by omega), mj_up_ne (by omega), mj_up_ne (by omega), mj_up_ne (by omega), mj_up_ne (by omega), mj_up_ne (by omega), q_fill_ne (by omega), mj_up_ne (by omega), mj_up_ne (by omega), mj_up_ne (by omega), cM_157_o (by omega), cM_152_o (by omega), cM_134_o (by omega), cM_133_o (by omega), cM_132_o (by omega), cM_130_o (by omega), cM_87_o (by omega), cM_44_o (by omega)]
  unfold cM_1
  rw [q_fill_ne (by omega), mj_up_ne (by omega), mj_up_ne (by omega), mj_up_ne (by omega), mj_up_ne (by omega), mj_up_ne (by omega), mj_up_ne (by omega), cM_36_o (by omega), cM_22_o (by omega), cM_13_o (by omega)]
  unfold cM_2
  rw [q_fill_ne (by omega), hM]
theorem cA0_7 (hM : M 7 = fun _ => 0) : cM_0 M 7 j = (if j = 0 then -1 else 0) := by
  unfold cM_0
  unfold cB cB2 cB1
  rw [mj_up_ne (by omega), mj_up_ne (by omega), mj_up_ne (by omega), mj_up_ne (by omega), mj_up_ne (by omega), mj_up_ne (by omega), mj_up_ne (by omega), mj_up_at, mj_up_ne (by omega), mj_up_ne (by omega), mj_up_ne (by omega), mj_up_ne (by omega), mj_up_ne (by omega), mj_up_ne (by omega), mj_up_ne (by omega), mj_up_ne (by omega), mj_up_ne (by omega), mj_up_ne (by omega), q_fill_ne (by omega), mj_up_ne (by omega), mj_up_ne (by omega), mj_up_ne (by omega), cM_157_o (by omega), cM_152_o (by omega), cM_134_o (by omega), cM_133_o (by omega), cM_132_o (by omega), cM_130_o (by omega), cM_87_o (by omega), cM_44_o (by omega)]
  unfold cM_1
  rw [q_fill_ne (by omega), mj_up_ne (by omega), mj_up_ne (by omega), mj_up_ne (by omega), mj_up_ne (by omega), mj_up_ne (by omega), mj_up_ne (by omega), cM_36_o (by omega), cM_22_o (by omega), cM_13_o (by omega)]
  unfold cM_2
  rw [q_fill_ne (by omega), hM]
theorem cA0_8 (hM : M 8 = fun _ => 0) : cM_0 M 8 j = (if j = 0 then 0 else 0) := by
  unfold cM_0
  unfold cB cB2 cB1
  rw [mj_up_ne (by omega), mj_up_ne (by omega), mj_up_ne (by omega), mj_up_ne (by omega), mj_up_ne (by omega), mj_up_ne (by omega), mj_up_at, mj_up_ne (by omega), mj_up_ne (by omega), mj_up_ne (by omega), mj_up_ne (by omega), mj_up_ne (by omega), mj_up_ne (by omega), mj_up_ne (by omega), mj_up_ne (by omega), mj_up_ne (by omega), mj_up_ne (by omega), mj_up_ne (by omega), q_fill_ne (by omega), mj_up_ne (by omega), mj_up_ne (by omega), mj_up_ne (by omega), cM_157_o (by omega), cM_152_o (by omega), cM_134_o (by omega), cM_133_o (by omega), cM_132_o (by omega), cM_130_o (by omega), cM_87_o (by omega), cM_44_o (by omega)]
  unfold cM_1
  rw [q_fill_ne (by omega), mj_up_ne (by omega), mj_up_ne (by omega), mj_up_ne (by omega), mj_up_ne (by omega), mj_up_ne (by omega), mj_up_ne (by omega), cM_36_o (by omega), cM_22_o (by omega), cM_13_o (by omega)]
  unfold cM_2
  rw [q_fill_ne (by omega), hM]
theorem cA0_9 (hM : M 9 = fun _ => 0) : cM_0 M 9 j = (if j = 0 then 0 else 0) := by
  unfold cM_0
  unfold cB cB2 cB1
  rw [mj_up_ne (by omega), mj_up_ne (by omega), mj_up_ne (by omega), mj_up_ne (by omega), mj_up_ne (by omega), mj_up_at, mj_up_ne (by omega), mj_up_ne (by omega), mj_up_ne (by omega), mj_up_ne (by omega), mj_up_ne (by omega), mj_up_ne (by omega), mj_up_ne (by omega), mj_up_ne (by omega), mj_up_ne (by omega), mj_up_ne (by omega), mj_up_ne (by omega), mj_up_ne (by omega), q_fill_ne (by omega), mj_up_ne (by omega), mj_up_ne (by omega), mj_up_ne (by omega), cM_157_o (by omega), cM_152_o (by omega), cM_134_o (by omega), cM_133_o (by omega), cM_132_o (by omega), cM_130_o (by omega), cM_87_o (by omega), cM_44_o (by omega)]
  unfold cM_1
  rw [q_fill_ne (by omega), mj_up_ne (by omega), mj_up_ne (by omega), mj_up_ne (by omega), mj_up_ne (by omega), mj_up_ne (by omega), mj_up_ne (by omega), cM_36_o (by omega), cM_22_o (by omega), cM_13_o (by omega)]
  unfold cM_2
  rw [q_fill_ne (by omega), hM]
theorem cA0_10 (hM : M 10 = fun _ => 0) : cM_0 M 10 j = (if j = 0 then -1 else 0) := by
  unfold cM_0
  unfold cB cB2 cB1
  rw [mj_up_ne (by omega), mj_up_ne (by omega), mj_up_ne (by omega), mj_up_ne (by omega), mj_up_at, mj_up_ne (by omega), mj_up_ne (by omega), mj_up_ne (by omega), mj_up_ne (by omega), mj_up_ne (by omega), mj_up_ne (by omega), mj_up_ne (by omega), mj_up_ne (by omega), mj_up_ne (by omega), mj_up_ne (by omega), mj_up_ne (by omega), mj_up_ne (by omega), mj_up_ne (by omega), q_fill_ne (by omega), mj_up_ne (by omega), mj_up_ne (by omega), mj_up_ne (by omega), cM_157_o (by omega), cM_152_o (by omega), cM_134_o (by omega), cM_133_o (by omega), cM_132_o (by omega), cM_130_o (by omega), cM_87_o (by omega), cM_44_o (by omega)]
  unfold cM_1
  rw [q_fill_ne (by omega), mj_up_ne (by omega), mj_up_ne (by omega), mj_up_ne (by omega), mj_up_ne (by omega), mj_up_ne (by omega), mj_up_ne (by omega), cM_36_o (by omega), cM_22_o (by omega), cM_13_o (by omega)]
  unfold cM_2
  rw [q_fill_ne (by omega), hM]
theorem cA0_11 (hM : M 11 = fun _ => 0) : cM_0 M 11 j = (if j = 0 then -1 else 0) := by
  unfold cM_0
  unfold cB cB2 cB1
  rw [mj_up_ne (by omega), mj_up_ne (by omega), mj_up_ne (by omega), mj_up_at, mj_up_ne (by omega), mj_up_ne (by omega), mj_up_ne (by omega), mj_up_ne (by omega), mj_up_ne (by omega), mj_up_ne (by omega), mj_up_ne (by omega), mj_up_ne (by omega), mj_up_ne (by omega), mj_up_ne (by omega), mj_up_ne (by omega), mj_up_ne (by omega), mj_up_ne (by omega), mj_up_ne (by omega), q_fill_ne (by omega), mj_up_ne (by omega), mj_up_ne (by omega), mj_up_ne (by omega), cM_157_o (by omega), cM_152_o (by omega), cM_134_o (by omega), cM_133_o (by omega), cM_132_o (by omega), cM_130_o (by omega), cM_87_o (by omega), cM_44_o (by omega)]
  unfold cM_1
  rw [q_fill_ne (by omega), mj_up_ne (by omega), mj_up_ne (by omega), mj_up_ne (by omega), mj_up_ne (by omega), mj_up_ne (by omega), mj_up_ne (by omega), cM_36_o (by omega), cM_22_o (by omega), cM_13_o (by omega)]
  unfold cM_2
  rw [q_fill_ne (by omega), hM]
theorem cA0_12 (hM : M 12 = fun _ => 0) : cM_0 M 12 j = (if j = 0 then 0 else 0) := by
  unfold cM_0
  unfold cB cB2 cB1
  rw [mj_up_ne (by omega), mj_up_ne (by omega), mj_up_at, mj_up_ne (by omega), mj_up_ne (by omega), mj_up_ne (by omega), mj_up_ne (by omega), mj_up_ne (by omega), mj_up_ne (by omega), mj_up_ne (by omega), mj_up_ne (by omega), mj_up_ne (by omega), mj_up_ne (by omega), mj_up_ne (by omega), mj_up_ne (by omega), mj_up_ne (by omega), mj_up_ne (by omega), mj_up_ne (by omega), q_fill_ne (by omega), mj_up_ne (by omega), mj_up_ne (by omega), mj_up_ne (by omega), cM_157_o (by omega), cM_152_o (by omega), cM_134_o (by omega), cM_133_o (by omega), cM_132_o (by omega), cM_130_o (by omega), cM_87_o (by omega), cM_44_o (by omega)]
  unfold cM_1
  rw [q_fill_ne (by omega), mj_up_ne (by omega), mj_up_ne (by omega), mj_up_ne (by omega), mj_up_ne (by omega), mj_up_ne (by omega), mj_up_ne (by omega), cM_36_o (by omega), cM_22_o (by omega), cM_13_o (by omega)]
  unfold cM_2
  rw [q_fill_ne (by omega), hM]
theorem cA0_13 (hM : M 13 = fun _ => 0) : cM_0 M 13 j = 0 := by
  unfold cM_0
  rw [cB_o (by omega), q_fill_ne (by omega), mj_up_ne (by omega), mj_up_ne (by omega), mj_up_ne (by omega), cM_157_o (by omega), cM_152_o (by omega), cM_134_o (by omega), cM_133_o (by omega), cM_132_o (by omega), cM_130_o (by omega), cM_87_o (by omega), cM_44_o (by omega)]
  unfold cM_1
  rw [q_fill_ne (by omega), mj_up_ne (by omega), mj_up_ne (by omega), mj_up_ne (by omega), mj_up_ne (by omega), mj_up_ne (by omega), mj_up_ne (by omega), cM_36_o (by omega), cM_22_o (by omega)]
  unfold cM_13
  rw [q_fill_ne (by omega), cM_2_o (by omega), hM]
theorem cA0_14 (hM : M 14 = fun _ => 0) : cM_0 M 14 j = (if j = 0 then 1 else (if j < 40 then -1 else 0)) := by
  unfold cM_0
  unfold cB cB2 cB1
  rw [mj_up_ne (by omega), mj_up_ne (by omega), mj_up_ne (by omega), mj_up_ne (by omega), mj_up_ne (by omega), mj_up_ne (by omega), mj_up_ne (by omega), mj_up_ne (by omega), mj_up_ne (by omega), mj_up_ne (by omega), mj_up_ne (by omega), mj_up_ne (by omega), mj_up_ne (by omega), mj_up_ne (by omega), mj_up_ne (by omega), mj_up_ne (by omega), mj_up_ne (by omega), mj_up_at, q_fill_ne (by omega), mj_up_ne (by omega), mj_up_ne (by omega), mj_up_ne (by omega), cM_157_o (by omega), cM_152_o (by omega), cM_134_o (by omega), cM_133_o (by omega), cM_132_o (by omega), cM_130_o (by omega), cM_87_o (by omega), cM_44_o (by omega)]
  unfold cM_1
  rw [q_fill_ne (by omega), mj_up_ne (by omega), mj_up_ne (by omega), mj_up_ne (by omega), mj_up_ne (by omega), mj_up_ne (by omega), mj_up_ne (by omega), cM_36_o (by omega), cM_22_o (by omega)]
  unfold cM_13
  rw [q_fill_at.2, cM_2_o (by omega), hM]
theorem cA0_15 (hM : M 15 = fun _ => 0) : cM_0 M 15 j = (if j = 0 then -1 else 0) := by
  unfold cM_0
  unfold cB cB2 cB1
  rw [mj_up_ne (by omega), mj_up_ne (by omega), mj_up_ne (by omega), mj_up_ne (by omega), mj_up_ne (by omega), mj_up_ne (by omega), mj_up_ne (by omega), mj_up_ne (by omega), mj_up_ne (by omega), mj_up_ne (by omega), mj_up_ne (by omega), mj_up_ne (by omega), mj_up_ne (by omega), mj_up_ne (by omega), mj_up_ne (by omega), mj_up_ne (by omega), mj_up_at, mj_up_ne (by omega), q_fill_ne (by omega), mj_up_ne (by omega), mj_up_ne (by omega), mj_up_ne (by omega), cM_157_o (by omega), cM_152_o (by omega), cM_134_o (by omega), cM_133_o (by omega), cM_132_o (by omega), cM_130_o (by omega), cM_87_o (by omega), cM_44_o (by omega)]
  unfold cM_1
  rw [q_fill_ne (by omega), mj_up_ne (by omega), mj_up_ne (by omega), mj_up_ne (by omega), mj_up_ne (by omega), mj_up_ne (by omega), mj_up_ne (by omega), cM_36_o (by omega), cM_22_o (by omega)]
  unfold cM_13
  rw [q_fill_ne (by omega), cM_2_o (by omega), hM]
theorem cA0_16 (hM : M 16 = fun _ => 0) : cM_0 M 16 j = (if j = 0 then 0 else 0) := by
  unfold cM_0
  unfold cB cB2 cB1
  rw [mj_up_ne (by omega), mj_up_ne (by omega), mj_up_ne (by omega), mj_up_ne (by omega), mj_up_ne (by omega), mj_up_ne (by omega), mj_up_ne (by omega), mj_up_ne (by omega), mj_up_ne (by omega), mj_up_ne (by omega), mj_up_ne (by omega), mj_up_ne (by omega), mj_up_ne (by omega), mj_up_ne (by omega), mj_up_ne (by omega), mj_up_at, mj_up_ne (by omega), mj_up_ne (by omega), q_fill_ne (by omega), mj_up_ne (by omega), mj_up_ne (by omega), mj_up_ne (by omega), cM_157_o (by omega), cM_152_o (by omega), cM_134_o (by omega), cM_133_o (by omega), cM_132_o (by omega), cM_130_o (by omega), cM_87_o (by omega), cM_44_o (by omega)]
  unfold cM_1
  rw [q_fill_ne (by omega), mj_up_ne (by omega), mj_up_ne (by omega), mj_up_ne (by omega), mj_up_ne (by omega), mj_up_ne (by omega), mj_up_ne (by omega), cM_36_o (by omega), cM_22_o (by omega)]
  unfold cM_13
  rw [q_fill_ne (by omega), cM_2_o (by omega), hM]
theorem cA0_17 (hM : M 17 = fun _ => 0) : cM_0 M 17 j = (if j = 0 then 0 else 0) := by
  unfold cM_0
  unfold cB cB2 cB1
  rw [mj_up_ne (by omega), mj_up_ne (by omega), mj_up_ne (by omega), mj_up_ne (by omega), mj_up_ne (by omega), mj_up_ne (by omega), mj_up_ne (by omega), mj_up_ne (by omega), mj_up_ne (by omega), mj_up_ne (by omega), mj_up_ne (by omega), mj_up_ne (by omega), mj_up_ne (by omega), mj_up_ne (by omega), mj_up_at, mj_up_ne (by omega), mj_up_ne (by omega), mj_up_ne (by omega), q_fill_ne (by omega), mj_up_ne (by omega), mj_up_ne (by omega), mj_up_ne (by omega), cM_157_o (by omega), cM_152_o (by omega), cM_134_o (by omega), cM_133_o (by omega), cM_132_o (by omega), cM_130_o (by omega), cM_87_o (by omega), cM_44_o (by omega)]
  unfold cM_1
  rw [q_fill_ne (by omega), mj_up_ne (by omega), mj_up_ne (by omega), mj_up_ne (by omega), mj_up_ne (by omega), mj_up_ne (by omega), mj_up_ne (by omega), cM_36_o (by omega), cM_22_o (by omega)]
  unfold cM_13
  rw [q_fill_ne (by omega), cM_2_o (by omega), hM]
theorem cA0_18 (hM : M 18 = fun _ => 0) : cM_0 M 18 j = (if j = 0 then 0 else 0) := by
  unfold cM_0
  unfold cB cB2 cB1
  rw [mj_up_ne (by omega), mj_up_ne (by omega), mj_up_ne (by omega), mj_up_ne (by omega), mj_up_ne (by omega), mj_up_ne (by omega), mj_up_ne (by omega), mj_up_ne (by omega), mj_up_ne (by omega), mj_up_ne (by omega), mj_up_ne (by omega), mj_up_ne (by omega), mj_up_ne (by omega), mj_up_at, mj_up_ne (by omega), mj_up_ne (by omega), mj_up_ne (by omega), mj_up_ne (by omega), q_fill_ne (by omega), mj_up_ne (by omega), mj_up_ne (by omega), mj_up_ne (by omega), cM_157_o (by omega), cM_152_o (by omega), cM_134_o (by omega), cM_133_o (by omega), cM_132_o (by omega), cM_130_o (by omega), cM_87_o (by omega), cM_44_o (by omega)]
  unfold cM_1
  rw [q_fill_ne (by omega), mj_up_ne (by omega), mj_up_ne (by omega), mj_up_ne (by omega), mj_up_ne (by omega), mj_up_ne (by omega), mj_up_ne (by omega), cM_36_o (by omega), cM_22_o (by omega)]
  unfold cM_13
  rw [q_fill_ne (by omega), cM_2_o (by omega), hM]
theorem cA0_19 (hM : M 19 = fun _ => 0) : cM_0 M 19 j = (if j = 0 then 0 else 0) := by
  unfold cM_0
  unfold cB cB2 cB1
  rw [mj_up_ne (by omega), mj_up_ne (by omega), mj_up_ne (by omega), mj_up_ne (by omega), mj_up_ne (by omega), mj_up_ne (by omega), mj_up_ne (by omega), mj_up_ne (by omega), mj_up_ne (by omega), mj_up_ne (by omega), mj_up_ne (by omega), mj_up_ne (by omega), mj_up_at, mj_up_ne (by omega), mj_up_ne (by omega), mj_up_ne (by omega), mj_up_ne (by omega), mj_up_ne (by omega), q_fill_ne (by omega), mj_up_ne (by omega), mj_up_ne (by omega), mj_up_ne (by omega), cM_157_o (by omega), cM_152_o (by omega), cM_134_o (by omega), cM_133_o (by omega), cM_132_o (by omega), cM_130_o (by omega), cM_87_o (by omega), cM_44_o (by omega)]
  unfold cM_1
  rw [q_fill_ne (by omega), mj_up_ne (by omega), mj_up_ne (by omega), mj_up_ne (by omega), mj_up_ne (by omega), mj_up_ne (by omega), mj_up_ne (by omega), cM_36_o (by omega), cM_22_o (by omega)]
  unfold cM_13
  rw [q_fill_ne (by omega), cM_2_o (by omega), hM]
theorem cA0_20 (hM : M 20 = fun _ => 0) : cM_0 M 20 j = 0 := by
  unfold cM_0
  rw [cB_o (by omega), q_fill_ne (by omega), mj_up_ne (by omega), mj_up_ne (by omega), mj_up_ne (by omega), cM_157_o (by omega), cM_152_o (by omega), cM_134_o (by omega), cM_133_o (by omega), cM_132_o (by omega), cM_130_o (by omega), cM_87_o (by omega), cM_44_o (by omega)]
  unfold cM_1
  rw [q_fill_ne (by omega), mj_up_ne (by omega), mj_up_ne (by omega), mj_up_ne (by omega), mj_up_ne (by omega), mj_up_ne (by omega), mj_up_ne (by omega), cM_36_o (by omega), cM_22_o (by omega)]
  unfold cM_13
  rw [q_fill_ne (by omega), cM_2_o (by omega), hM]
theorem cA0_21 (hM : M 21 = fun _ => 0) : cM_0 M 21 j = 0 := by
  unfold cM_0
  rw [cB_o (by omega), q_fill_ne (by omega), mj_up_ne (by omega), mj_up_ne (by omega), mj_up_ne (by omega), cM_157_o (by omega), cM_152_o (by omega), cM_134_o (by omega), cM_133_o (by omega), cM_132_o (by omega), cM_130_o (by omega), cM_87_o (by omega), cM_44_o (by omega)]
  unfold cM_1
  rw [q_fill_ne (by omega), mj_up_ne (by omega), mj_up_ne (by omega), mj_up_ne (by omega), mj_up_ne (by omega), mj_up_ne (by omega), mj_up_ne (by omega), cM_36_o (by omega), cM_22_o (by omega)]
  unfold cM_13
  rw [q_fill_ne (by omega), cM_2_o (by omega), hM]
theorem cA0_22 (hM : M 22 = fun _ => 0) : cM_0 M 22 j = (if j = 13 then 0 else 0) := by
  unfold cM_0
  rw [cB_o (by omega), q_fill_ne (by omega), mj_up_ne (by omega), mj_up_ne (by omega), mj_up_ne (by omega), cM_157_o (by omega), cM_152_o (by omega), cM_134_o (by omega), cM_133_o (by omega), cM_132_o (by omega), cM_130_o (by omega), cM_87_o (by omega), cM_44_o (by omega)]
  unfold cM_1
  rw [q_fill_ne (by omega), mj_up_ne (by omega), mj_up_ne (by omega), mj_up_ne (by omega), mj_up_ne (by omega), mj_up_ne (by omega), mj_up_ne (by omega), cM_36_o (by omega)]
  unfold cM_22
  rw [mj_up_at, cM_13_o (by omega), cM_2_o (by omega), hM]
theorem cA0_23 (hM : M 23 = fun _ => 0) : cM_0 M 23 j = 0 := by
  unfold cM_0
  rw [cB_o (by omega), q_fill_ne (by omega), mj_up_ne (by omega), mj_up_ne (by omega), mj_up_ne (by omega), cM_157_o (by omega), cM_152_o (by omega), cM_134_o (by omega), cM_133_o (by omega), cM_132_o (by omega), cM_130_o (by omega), cM_87_o (by omega), cM_44_o (by omega)]
  unfold cM_1
  rw [q_fill_ne (by omega), mj_up_ne (by omega), mj_up_ne (by omega), mj_up_ne (by omega), mj_up_ne (by omega), mj_up_ne (by omega), mj_up_ne (by omega), cM_36_o (by omega)]
  unfold cM_22
  rw [mj_up_ne (by omega), cM_13_o (by omega), cM_2_o (by omega), hM]
theorem cA0_24 (hM : M 24 = fun _ => 0) : cM_0 M 24 j = 0 := by
  unfold cM_0
  rw [cB_o (by omega), q_fill_ne (by omega), mj_up_ne (by omega), mj_up_ne (by omega), mj_up_ne (by omega), cM_157_o (by omega), cM_152_o (by omega), cM_134_o (by omega), cM_133_o (by omega), cM_132_o (by omega), cM_130_o (by omega), cM_87_o (by omega), cM_44_o (by omega)]
  unfold cM_1
  rw [q_fill_ne (by omega), mj_up_ne (by omega), mj_up_ne (by omega), mj_up_ne (by omega), mj_up_ne (by omega), mj_up_ne (by omega), mj_up_ne (by omega), cM_36_o (by omega)]
  unfold cM_22
  rw [mj_up_ne (by omega), cM_13_o (by omega), cM_2_o (by omega), hM]
theorem cA0_25 (hM : M 25 = fun _ => 0) : cM_0 M 25 j = 0 := by
  unfold cM_0
  rw [cB_o (by omega), q_fill_ne (by omega), mj_up_ne (by omega), mj_up_ne (by omega), mj_up_ne (by omega), cM_157_o (by omega), cM_152_o (by omega), cM_134_o (by omega), cM_133_o (by omega), cM_132_o (by omega), cM_130_o (by omega), cM_87_o (by omega), cM_44_o (by omega)]
  unfold cM_1
  rw [q_fill_ne (by omega), mj_up_ne (by omega), mj_up_ne (by omega), mj_up_ne (by omega), mj_up_ne (by omega), mj_up_ne (by omega), mj_up_ne (by omega), cM_36_o (by omega)]
  unfold cM_22
  rw [mj_up_ne (by omega), cM_13_o (by omega), cM_2_o (by omega), hM]
theorem cA0_26 (hM : M 26 = fun _ => 0) : cM_0 M 26 j = 0 := by
  unfold cM_0
  rw [cB_o (by omega), q_fill_ne (by omega), mj_up_ne (by omega), mj_up_ne (by omega), mj_up_ne (by omega), cM_157_o (by omega), cM_152_o (by omega), cM_134_o (by omega), cM_133_o (by omega), cM_132_o (by omega), cM_130_o (by omega), cM_87_o (by omega), cM_44_o (by omega)]
  unfold cM_1
  rw [q_fill_ne (by omega), mj_up_ne (by omega), mj_up_ne (by omega), mj_up_ne (by omega), mj_up_ne (by omega), mj_up_ne (by omega), mj_up_ne (by omega), cM_36_o (by omega)]
  unfold cM_22
  rw [mj_up_ne (by omega), cM_13_o (by omega), cM_2_o (by omega), hM]
theorem cA0_27 (hM : M 27 = fun _ => 0) : cM_0 M 27 j = 0 := by
  unfold cM_0
  rw [cB_o (by omega), q_fill_ne (by omega), mj_up_ne (by omega), mj_up_ne (by omega), mj_up_ne (by omega), cM_157_o (by omega), cM_152_o (by omega), cM_134_o (by omega), cM_133_o (by omega), cM_132_o (by omega), cM_130_o (by omega), cM_87_o (by omega), cM_44_o (by omega)]
  unfold cM_1
  rw [q_fill_ne (by omega), mj_up_ne (by omega), mj_up_ne (by omega), mj_up_ne (by omega), mj_up_ne (by omega), mj_up_ne (by omega), mj_up_ne (by omega), cM_36_o (by omega)]
  unfold cM_22
  rw [mj_up_ne (by omega), cM_13_o (by omega), cM_2_o (by omega), hM]
theorem cA0_28 (hM : M 28 = fun _ => 0) : cM_0 M 28 j = 0 := by
  unfold cM_0
  rw [cB_o (by omega), q_fill_ne (by omega), mj_up_ne (by omega), mj_up_ne (by omega), mj_up_ne (by omega), cM_157_o (by omega), cM_152_o (by omega), cM_134_o (by omega), cM_133_o (by omega), cM_132_o (by omega), cM_130_o (by omega), cM_87_o (by omega), cM_44_o (by omega)]
  unfold cM_1
  rw [q_fill_ne (by omega), mj_up_ne (by omega), mj_up_ne (by omega), mj_up_ne (by omega), mj_up_ne (by omega), mj_up_ne (by omega), mj_up_ne (by omega), cM_36_o (by omega)]
  unfold cM_22
  rw [mj_up_ne (by omega), cM_13_o (by omega), cM_2_o (by omega), hM]
theorem cA0_29 (hM : M 29 = fun _ => 0) : cM_0 M 29 j = 0 := by
  unfold cM_0
  rw [cB_o (by omega), q_fill_ne (by omega), mj_up_ne (by omega), mj_up_ne (by omega), mj_up_ne (by omega), cM_157_o (by omega), cM_152_o (by omega), cM_134_o (by omega), cM_133_o (by omega), cM_132_o (by omega), cM_130_o (by omega), cM_87_o (by omega), cM_44_o (by omega)]
  unfold cM_1
  rw [q_fill_ne (by omega), mj_up_ne (by omega), mj_up_ne (by omega), mj_up_ne (by omega), mj_up_ne (by omega), mj_up_ne (by omega), mj_up_ne (by omega), cM_36_o (by omega)]
  unfold cM_22
  rw [mj_up_ne (by omega), cM_13_o (by omega), cM_2_o (by omega), hM]
theorem cA0_30 (hM : M 30 = fun _ => 0) : cM_0 M 30 j = 0 := by
  unfold cM_0
  rw [cB_o (by omega), q_fill_ne (by omega), mj_up_ne (by omega), mj_up_ne (by omega), mj_up_ne (by omega), cM_157_o (by omega), cM_152_o (by omega), cM_134_o (by omega), cM_133_o (by omega), cM_132_o (by omega), cM_130_o (by omega), cM_87_o (by omega), cM_44_o (by omega)]
  unfold cM_1
  rw [q_fill_ne (by omega), mj_up_ne (by omega), mj_up_ne (by omega), mj_up_ne (by omega), mj_up_ne (by omega), mj_up_ne (by omega), mj_up_ne (by omega), cM_36_o (by omega)]
  unfold cM_22
  rw [mj_up_ne (by omega), cM_13_o (by omega), cM_2_o (by omega), hM]
theorem cA0_31 (hM : M 31 = fun _ => 0) : cM_0 M 31 j = 0 := by
  unfold cM_0
  rw [cB_o (by omega), q_fill_ne (by omega), mj_up_ne (by omega), mj_up_ne (by omega), mj_up_ne (by omega), cM_157_o (by omega), cM_152_o (by omega), cM_134_o (by omega), cM_133_o (by omega), cM_132_o (by omega), cM_130_o (by omega), cM_87_o (by omega), cM_44_o (by omega)]
  unfold cM_1
  rw [q_fill_ne (by omega), mj_up_ne (by omega), mj_up_ne (by omega), mj_up_ne (by omega), mj_up_ne (by omega), mj_up_ne (by omega), mj_up_ne (by omega), cM_36_o (by omega)]
  unfold cM_22
  rw [mj_up_ne (by omega), cM_13_o (by omega), cM_2_o (by omega), hM]
theorem cA0_32 (hM : M 32 = fun _ => 0) : cM_0 M 32 j = 0 := by
  unfold cM_0
  rw [cB_o (by omega), q_fill_ne (by omega), mj_up_ne (by omega), mj_up_ne (by omega), mj_up_ne (by omega), cM_157_o (by omega), cM_152_o (by omega), cM_134_o (by omega), cM_133_o (by omega), cM_132_o (by omega), cM_130_o (by omega), cM_87_o (by omega), cM_44_o (by omega)]
  unfold cM_1
  rw [q_fill_ne (by omega), mj_up_ne (by omega), mj_up_ne (by omega), mj_up_ne (by omega), mj_up_ne (by omega), mj_up_ne (by omega), mj_up_ne (by omega), cM_36_o (by omega)]
  unfold cM_22
  rw [mj_up_ne (by omega), cM_13_o (by omega), cM_2_o (by omega), hM]
theorem cA0_33 (hM : M 33 = fun _ => 0) : cM_0 M 33 j = 0 := by
  unfold cM_0
  rw [cB_o (by omega), q_fill_ne (by omega), mj_up_ne (by omega), mj_up_ne (by omega), mj_up_ne (by omega), cM_157_o (by omega), cM_152_o (by omega), cM_134_o (by omega), cM_133_o (by omega), cM_132_o (by omega), cM_130_o (by omega), cM_87_o (by omega), cM_44_o (by omega)]
  unfold cM_1
  rw [q_fill_ne (by omega), mj_up_ne (by omega), mj_up_ne (by omega), mj_up_ne (by omega), mj_up_ne (by omega), mj_up_ne (by omega), mj_up_ne (by omega), cM_36_o (by omega)]
  unfold cM_22
  rw [mj_up_ne (by omega), cM_13_o (by omega), cM_2_o (by omega), hM]
theorem cA0_34 (hM : M 34 = fun _ => 0) : cM_0 M 34 j = 0 := by
  unfold cM_0
  rw [cB_o (by omega), q_fill_ne (by omega), mj_up_ne (by omega), mj_up_ne (by omega), mj_up_ne (by omega), cM_157_o (by omega), cM_152_o (by omega), cM_134_o (by omega), cM_133_o (by omega), cM_132_o (by omega), cM_130_o (by omega), cM_87_o (by omega), cM_44_o (by omega)]
  unfold cM_1
  rw [q_fill_ne (by omega), mj_up_ne (by omega), mj_up_ne (by omega), mj_up_ne (by omega), mj_up_ne (by omega), mj_up_ne (by omega), mj_up_ne (by omega), cM_36_o (by omega)]
  unfold cM_22
  rw [mj_up_ne (by omega), cM_13_o (by omega), cM_2_o (by omega), hM]
theorem cA0_35 (hM : M 35 = fun _ => 0) : cM_0 M 35 j = 0 := by
  unfold cM_0
  rw [cB_o (by omega), q_fill_ne (by omega), mj_up_ne (by omega), mj_up_ne (by omega), mj_up_ne (by omega), cM_157_o (by omega), cM_152_o (by omega), cM_134_o (by omega), cM_133_o (by omega), cM_132_o (by omega), cM_130_o (by omega), cM_87_o (by omega), cM_44_o (by omega)]
  unfold cM_1
  rw [q_fill_ne (by omega), mj_up_ne (by omega), mj_up_ne (by omega), mj_up_ne (by omega), mj_up_ne (by omega), mj_up_ne (by omega), mj_up_ne (by omega), cM_36_o (by omega)]
  unfold cM_22
  rw [mj_up_ne (by omega), cM_13_o (by omega), cM_2_o (by omega), hM]
theorem cA0_36 (hM : M 36 = fun _ => 0) : cM_0 M 36 j = (if j = 5 then 0 else 0) := by
  unfold cM_0
  rw [cB_o (by omega), q_fill_ne (by omega), mj_up_ne (by omega), mj_up_ne (by omega), mj_up_ne (by omega), cM_157_o (by omega), cM_152_o (by omega), cM_134_o (by omega), cM_133_o (by omega), cM_132_o (by omega), cM_130_o (by omega), cM_87_o (by omega), cM_44_o (by omega)]
  unfold cM_1
  rw [q_fill_ne (by omega), mj_up_ne (by omega), mj_up_ne (by omega), mj_up_ne (by omega), mj_up_ne (by omega), mj_up_ne (by omega), mj_up_ne (by omega)]
  unfold cM_36
  rw [mj_up_at, cM_22_o (by omega), cM_13_o (by omega), cM_2_o (by omega), hM]
theorem cA0_37 (hM : M 37 = fun _ => 0) : cM_0 M 37 j = 0 := by
  unfold cM_0
  rw [cB_o (by omega), q_fill_ne (by omega), mj_up_ne (by omega), mj_up_ne (by omega), mj_up_ne (by omega), cM_157_o (by omega), cM_152_o (by omega), cM_134_o (by omega), cM_133_o (by omega), cM_132_o (by omega), cM_130_o (by omega), cM_87_o (by omega), cM_44_o (by omega)]
  unfold cM_1
  rw [q_fill_ne (by omega), mj_up_ne (by omega), mj_up_ne (by omega), mj_up_ne (by omega), mj_up_ne (by omega), mj_up_ne (by omega), mj_up_ne (by omega)]
  unfold cM_36
  rw [mj_up_ne (by omega), cM_22_o (by omega), cM_13_o (by omega), cM_2_o (by omega), hM]
theorem cA0_38 (hM : M 38 = fun _ => 0) : cM_0 M 38 j = 0 := by
  unfold cM_0
  rw [cB_o (by omega), q_fill_ne (by omega), mj_up_ne (by omega), mj_up_ne (by omega), mj_up_ne (by omega), cM_157_o (by omega), cM_152_o (by omega), cM_134_o (by omega), cM_133_o (by omega), cM_132_o (by omega), cM_130_o (by omega), cM_87_o (by omega), cM_44_o (by omega)]
  unfold cM_1
  rw [q_fill_ne (by omega), mj_up_ne (by omega), mj_up_ne (by omega), mj_up_ne (by omega), mj_up_ne (by omega), mj_up_ne (by omega), mj_up_ne (by omega)]
  unfold cM_36
  rw [mj_up_ne (by omega), cM_22_o (by omega), cM_13_o (by omega), cM_2_o (by omega), hM]
theorem cA0_39 (hM : M 39 = fun _ => 0) : cM_0 M 39 j = 0 := by
  unfold cM_0
  rw [cB_o (by omega), q_fill_ne (by omega), mj_up_ne (by omega), mj_up_ne (by omega), mj_up_ne (by omega), cM_157_o (by omega), cM_152_o (by omega), cM_134_o (by omega), cM_133_o (by omega), cM_132_o (by omega), cM_130_o (by omega), cM_87_o (by omega), cM_44_o (by omega)]
  unfold cM_1
  rw [q_fill_ne (by omega), mj_up_ne (by omega), mj_up_ne (by omega), mj_up_ne (by omega), mj_up_ne (by omega), mj_up_ne (by omega), mj_up_ne (by omega)]
  unfold cM_36
  rw [mj_up_ne (by omega), cM_22_o (by omega), cM_13_o (by omega), cM_2_o (by omega), hM]
theorem cA0_40 (hM : M 40 = fun _ => 0) : cM_0 M 40 j = 0 := by
  unfold cM_0
  rw [cB_o (by omega), q_fill_ne (by omega), mj_up_ne (by omega), mj_up_ne (by omega), mj_up_ne (by omega), cM_157_o (by omega), cM_152_o (by omega), cM_134_o (by omega), cM_133_o (by omega), cM_132_o (by omega), cM_130_o (by omega), cM_87_o (by omega), cM_44_o (by omega)]
  unfold cM_1
  rw [q_fill_ne (by omega), mj_up_ne (by omega), mj_up_ne (by omega), mj_up_ne (by omega), mj_up_ne (by omega), mj_up_ne (by omega), mj_up_ne (by omega)]
  unfold cM_36
  rw [mj_up_ne (by omega), cM_22_o (by omega), cM_13_o (by omega), cM_2_o (by omega), hM]
theorem cA0_41 (hM : M 41 = fun _ => 0) : cM_0 M 41 j = 0 := by
  unfold cM_0
  rw [cB_o (by omega), q_fill_ne (by omega), mj_up_ne (by omega), mj_up_ne (by omega), mj_up_ne (by omega), cM_157_o (by omega), cM_152_o (by omega), cM_134_o (by omega), cM_133_o (by omega), cM_132_o (by omega), cM_130_o (by omega), cM_87_o (by omega), cM_44_o (by omega)]
  unfold cM_1
  rw [q_fill_ne (by omega), mj_up_ne (by omega), mj_up_ne (by omega), mj_up_ne (by omega), mj_up_ne (by omega), mj_up_ne (by omega), mj_up_ne (by omega)]
  unfold cM_36
  rw [mj_up_ne (by omega), cM_22_o (by omega), cM_13_o (by omega), cM_2_o (by omega), hM]
theorem cA0_42 (hM : M 42 = fun _ => 0) : cM_0 M 42 j = (if j = 0 then 0 else (if j < 400 then -1 else 0)) := by
  unfold cM_0
  unfold cB cB2 cB1
  rw [mj_up_ne (by omega), mj_up_at, mj_up_ne (by omega), mj_up_ne (by omega), mj_up_ne (by omega), mj_up_ne (by omega), mj_up_ne (by omega), mj_up_ne (by omega), mj_up_ne (by omega), mj_up_ne (by omega), mj_up_ne (by omega), mj_up_ne (by omega), mj_up_ne (by omega), mj_up_ne (by omega), mj_up_ne (by omega), mj_up_ne (by omega), mj_up_ne (by omega), mj_up_ne (by omega), q_fill_ne (by omega), mj_up_ne (by omega), mj_up_ne (by omega), mj_up_ne (by omega), cM_157_o (by omega), cM_152_o (by omega), cM_134_o (by omega), cM_133_o (by omega), cM_132_o (by omega), cM_130_o (by omega), cM_87_o (by omega), cM_44_o (by omega)]
  unfold cM_1
  rw [q_fill_at.2, mj_up_ne (by omega), mj_up_ne (by omega), mj_up_ne (by omega), mj_up_ne (by omega), mj_up_ne (by omega), mj_up_ne (by omega), cM_36_o (by omega), cM_22_o (by omega), cM_13_o (by omega), cM_2_o (by omega), hM]
theorem cA0_43 (hM : M 43 = fun _ => 0) : cM_0 M 43 j = 0 := by
  unfold cM_0
  rw [cB_o (by omega), q_fill_ne (by omega), mj_up_ne (by omega), mj_up_ne (by omega), mj_up_ne (by omega), cM_157_o (by omega), cM_152_o (by omega), cM_134_o (by omega), cM_133_o (by omega), cM_132_o (by omega), cM_130_o (by omega), cM_87_o (by omega), cM_44_o (by omega)]
  unfold cM_1
  rw [q_fill_ne (by omega), mj_up_ne (by omega), mj_up_ne (by omega), mj_up_ne (by omega), mj_up_ne (by omega), mj_up_ne (by omega), mj_up_ne (by omega), cM_36_o (by omega), cM_22_o (by omega), cM_13_o (by omega), cM_2_o (by omega), hM]
theorem cA0_130 (hM : M 130 = fun _ => 0) : cM_0 M 130 j = (if j = 2 then 0 else 0) := by
  unfold cM_0
  rw [cB_o (by omega), q_fill_ne (by omega), mj_up_ne (by omega), mj_up_ne (by omega), mj_up_ne (by omega), cM_157_o (by omega), cM_152_o (by omega), cM_134_o (by omega), cM_133_o (by omega), cM_132_o (by omega)]
  unfold cM_130
  rw [mj_up_at, cM_87_o (by omega), cM_44_o (by omega), cM_1_o (by omega), hM]
theorem cA0_131 (hM : M 131 = fun _ => 0) : cM_0 M 131 j = 0 := by
  unfold cM_0
  rw [cB_o (by omega), q_fill_ne (by omega), mj_up_ne (by omega), mj_up_ne (by omega), mj_up_ne (by omega), cM_157_o (by omega), cM_152_o (by omega), cM_134_o (by omega), cM_133_o (by omega), cM_132_o (by omega)]
  unfold cM_130
  rw [mj_up_ne (by omega), cM_87_o (by omega), cM_44_o (by omega), cM_1_o (by omega), hM]
theorem cA0_132 (hM : M 132 = fun _ => 0) : cM_0 M 132 j = (if j = 2 then 0 else 0) := by
  unfold cM_0
  rw [cB_o (by omega), q_fill_ne (by omega), mj_up_ne (by omega), mj_up_ne (by omega), mj_up_ne (by omega), cM_157_o (by omega), cM_152_o (by omega), cM_134_o (by omega), cM_133_o (by omega)]
  unfold cM_132
  rw [mj_up_at, cM_130_o (by omega), cM_87_o (by omega), cM_44_o (by omega), cM_1_o (by omega), hM]
theorem cA0_163 (hM : M 163 = fun _ => 0) : cM_0 M 163 j = 0 := by
  unfold cM_0
  rw [cB_o (by omega), q_fill_ne (by omega), mj_up_ne (by omega), mj_up_ne (by omega), mj_up_ne (by omega), cM_157_o (by omega), cM_152_o (by omega), cM_134_o (by omega), cM_133_o (by omega), cM_132_o (by omega), cM_130_o (by omega), cM_87_o (by omega), cM_44_o (by omega), cM_1_o (by omega), hM]
theorem cA0_164 (hM : M 164 = fun _ => 0) : cM_0 M 164 j = 0 := by
  unfold cM_0
  rw [cB_o (by omega), q_fill_ne (by omega), mj_up_ne (by omega), mj_up_ne (by omega), mj_up_ne (by omega), cM_157_o (by omega), cM_152_o (by omega), cM_134_o (by omega), cM_133_o (by omega), cM_132_o (by omega), cM_130_o (by omega), cM_87_o (by omega), cM_44_o (by omega), cM_1_o (by omega), hM]
theorem cA0_165 (hM : M 165 = fun _ => 0) : cM_0 M 165 j = 0 := by
  unfold cM_0
  rw [cB_o (by omega), q_fill_ne (by omega), mj_up_ne (by omega), mj_up_ne (by omega), mj_up_ne (by omega), cM_157_o (by omega), cM_152_o (by omega), cM_134_o (by omega), cM_133_o (by omega), cM_132_o (by omega), cM_130_o (by omega), cM_87_o (by omega), cM_44_o (by omega), cM_1_o (by omega), hM]
theorem cA0_166 (hM : M 166 = fun _ => 0) : cM_0 M 166 j = 0 := by
  unfold cM_0
  rw [cB_o (by omega), q_fill_ne (by omega), mj_up_ne (by omega), mj_up_ne (by omega), mj_up_ne (by omega), cM_157_o (by omega), cM_152_o (by omega), cM_134_o (by omega), cM_133_o (by omega), cM_132_o (by omega), cM_130_o (by omega), cM_87_o (by omega), cM_44_o (by omega), cM_1_o (by omega), hM]
theorem cA0_167 (hM : M 167 = fun _ => 0) : cM_0 M 167 j = 0 := by
  unfold cM_0
  rw [cB_o (by omega), q_fill_ne (by omega), mj_up_ne (by omega), mj_up_ne (by omega), mj_up_ne (by omega), cM_157_o (by omega), cM_152_o (by omega), cM_134_o (by omega), cM_133_o (by omega), cM_132_o (by omega), cM_130_o (by omega), cM_87_o (by omega), cM_44_o (by omega), cM_1_o (by omega), hM]
theorem cA0_168 (hM : M 168 = fun _ => 0) : cM_0 M 168 j = (if j < 4 then -1 else 0) := by
  unfold cM_0
  rw [cB_o (by omega), q_fill_at.2, mj_up_ne (by omega), mj_up_ne (by omega), mj_up_ne (by omega), cM_157_o (by omega), cM_152_o (by omega), cM_134_o (by omega), cM_133_o (by omega), cM_132_o (by omega), cM_130_o (by omega), cM_87_o (by omega), cM_44_o (by omega), cM_1_o (by omega), hM]
theorem cA0_169 (hM : M 169 = fun _ => 0) : cM_0 M 169 j = 0 := by
  unfold cM_0
  rw [cB_o (by omega), q_fill_ne (by omega), mj_up_ne (by omega), mj_up_ne (by omega), mj_up_ne (by omega), cM_157_o (by omega), cM_152_o (by omega), cM_134_o (by omega), cM_133_o (by omega), cM_132_o (by omega), cM_130_o (by omega), cM_87_o (by omega), cM_44_o (by omega), cM_1_o (by omega), hM]
theorem cA0_170 (hM : M 170 = fun _ => 0) : cM_0 M 170 j = 0 := by
  unfold cM_0
  rw [cB_o (by omega), q_fill_ne (by omega), mj_up_ne (by omega), mj_up_ne (by omega), mj_up_ne (by omega), cM_157_o (by omega), cM_152_o (by omega), cM_134_o (by omega), cM_133_o (by omega), cM_132_o (by omega), cM_130_o (by omega), cM_87_o (by omega), cM_44_o (by omega), cM_1_o (by omega), hM]
theorem cA0_171 (hM : M 171 = fun _ => 0) : cM_0 M 171 j = 0 := by
  unfold cM_0
  rw [cB_o (by omega), q_fill_ne (by omega), mj_up_ne (by omega), mj_up_ne (by omega), mj_up_ne (by omega), cM_157_o (by omega), cM_152_o (by omega), cM_134_o (by omega), cM_133_o (by omega), cM_132_o (by omega), cM_130_o (by omega), cM_87_o (by omega), cM_44_o (by omega), cM_1_o (by omega), hM]
theorem cA0_o {a : Nat} (h : 172 ≤ a) : cM_0 M a = M a := cM_0_o (Or.inr h)
end ini44
section ini45
variable {M : mj_M} {n : Int}
/-- the class's numbers when all begins -/
def iA (A : mj_M) : Prop := (∀ j, A 0 j = if j = 14 then -1 else 0) ∧
  (∀ j, A 1 j = if j = 10 then -1 else 0) ∧
  (∀ j, A 2 j = 0) ∧
  (∀ j, A 3 j = if j = 0 then 0 else if j < 120 then -1 else 0) ∧
  (∀ j, A 4 j = if j = 0 then -1 else 0) ∧
  (∀ j, A 5 j = if j = 0 then 31 else 0) ∧
  (∀ j, A 6 j = if j = 0 then 960 else 0) ∧
  (∀ j, A 7 j = if j = 0 then -1 else 0) ∧
  (∀ j, A 8 j = 0) ∧
  (∀ j, A 9 j = 0) ∧
  (∀ j, A 10 j = if j = 0 then -1 else 0) ∧
  (∀ j, A 11 j = if j = 0 then -1 else 0) ∧
  (∀ j, A 12 j = 0) ∧
  (∀ j, A 13 j = 0) ∧
  (∀ j, A 14 j = if j = 0 then 1 else if j < 40 then -1 else 0) ∧
  (∀ j, A 15 j = if j = 0 then -1 else 0) ∧
  (∀ j, A 16 j = 0) ∧
  (∀ j, A 17 j = 0) ∧
  (∀ j, A 18 j = 0) ∧
  (∀ j, A 19 j = 0) ∧
  (∀ j, A 20 j = 0) ∧
  (∀ j, A 21 j = 0) ∧
  (∀ j, A 22 j = 0) ∧
  (∀ j, A 23 j = 0) ∧
  (∀ j, A 24 j = 0) ∧
  (∀ j, A 25 j = 0) ∧
  (∀ j, A 26 j = 0) ∧
  (∀ j, A 27 j = 0) ∧
  (∀ j, A 28 j = 0) ∧
  (∀ j, A 29 j = 0) ∧
  (∀ j, A 30 j = 0) ∧
  (∀ j, A 31 j = 0) ∧
  (∀ j, A 32 j = 0) ∧
  (∀ j, A 33 j = 0) ∧
  (∀ j, A 34 j = 0) ∧
  (∀ j, A 35 j = 0) ∧
  (∀ j, A 36 j = 0) ∧
  (∀ j, A 37 j = 0) ∧
  (∀ j, A 38 j = 0) ∧
  (∀ j, A 39 j = 0) ∧
  (∀ j, A 40 j = 0) ∧
  (∀ j, A 41 j = 0) ∧
  (∀ j, A 42 j = if j = 0 then 0 else if j < 400 then -1 else 0) ∧
  (∀ j, A 43 j = 0) ∧
  (∀ j, A 130 j = 0) ∧
  (∀ j, A 131 j = 0) ∧
  (∀ j, A 163 j = 0) ∧
  (∀ j, A 164 j = 0) ∧
  (∀ j, A 165 j = 0) ∧
  (∀ j, A 166 j = 0) ∧
  (∀ j, A 167 j = 0) ∧
  (∀ j, A 168 j = if j < 4 then -1 else 0) ∧
  (∀ j, A 169 j = 0) ∧
  (∀ j, A 170 j = 0) ∧
  (∀ j, A 171 j = 0)
theorem iA_0 (hM : ∀ a, a < 9000 → M a = fun _ => 0) : iA (cM_0 M) := by
  refine ⟨?_, ?_, ?_, ?_, ?_, ?_, ?_, ?_, ?_, ?_, ?_, ?_, ?_, ?_, ?_, ?_, ?_, ?_, ?_, ?_, ?_, ?_, ?_, ?_, ?_, ?_, ?_, ?_, ?_, ?_, ?_, ?_, ?_, ?_, ?_, ?_, ?_, ?_, ?_, ?_, ?_, ?_, ?_, ?_, ?_, ?_, ?_, ?_, ?_, ?_, ?_, ?_, ?_, ?_, ?_⟩
  · intro j; rw [cA0_0 (hM 0 (by omega))] <;> grind
  · intro j; rw [cA0_1 (hM 1 (by omega))] <;> grind
  · intro j; rw [cA0_2 (hM 2 (by omega))]
  · intro j; rw [cA0_3 (hM 3 (by omega))] <;> grind
  · intro j; rw [cA0_4 (hM 4 (by omega))] <;> grind
  · intro j; rw [cA0_5 (hM 5 (by omega))] <;> grind
  · intro j; rw [cA0_6 (hM 6 (by omega))] <;> grind
  · intro j; rw [cA0_7 (hM 7 (by omega))] <;> grind
  · intro j; rw [cA0_8 (hM 8 (by omega))] <;> grind
  · intro j; rw [cA0_9 (hM 9 (by omega))] <;> grind
  · intro j; rw [cA0_10 (hM 10 (by omega))] <;> grind
  · intro j; rw [cA0_11 (hM 11 (by omega))] <;> grind
  · intro j; rw [cA0_12 (hM 12 (by omega))] <;> grind
  · intro j; rw [cA0_13 (hM 13 (by omega))]
  · intro j; rw [cA0_14 (hM 14 (by omega))] <;> grind
  · intro j; rw [cA0_15 (hM 15 (by omega))] <;> grind
  · intro j; rw [cA0_16 (hM 16 (by omega))] <;> grind
  · intro j; rw [cA0_17 (hM 17 (by omega))] <;> grind
  · intro j; rw [cA0_18 (hM 18 (by omega))] <;> grind
  · intro j; rw [cA0_19 (hM 19 (by omega))] <;> grind
  · intro j; rw [cA0_20 (hM 20 (by omega))]
  · intro j; rw [cA0_21 (hM 21 (by omega))]
  · intro j; rw [cA0_22 (hM 22 (by omega))] <;> grind
  · intro j; rw [cA0_23 (hM 23 (by omega))]
  · intro j; rw [cA0_24 (hM 24 (by omega))]
  · intro j; rw [cA0_25 (hM 25 (by omega))]
  · intro j; rw [cA0_26 (hM 26 (by omega))]
  · intro j; rw [cA0_27 (hM 27 (by omega))]
  · intro j; rw [cA0_28 (hM 28 (by omega))]
  · intro j; rw [cA0_29 (hM 29 (by omega))]
  · intro j; rw [cA0_30 (hM 30 (by omega))]
  · intro j; rw [cA0_31 (hM 31 (by omega))]
  · intro j; rw [cA0_32 (hM 32 (by omega))]
  · intro j; rw [cA0_33 (hM 33 (by omega))]
  · intro j; rw [cA0_34 (hM 34 (by omega))]
  · intro j; rw [cA0_35 (hM 35 (by omega))]
  · intro j; rw [cA0_36 (hM 36 (by omega))] <;> grind
  · intro j; rw [cA0_37 (hM 37 (by omega))]
  · intro j; rw [cA0_38 (hM 38 (by omega))]
  · intro j; rw [cA0_39 (hM 39 (by omega))]
  · intro j; rw [cA0_40 (hM 40 (by omega))]
  · intro j; rw [cA0_41 (hM 41 (by omega))]
  · intro j; rw [cA0_42 (hM 42 (by omega))] <;> grind
  · intro j; rw [cA0_43 (hM 43 (by omega))]
  · intro j; rw [cA0_130 (hM 130 (by omega))] <;> grind
  · intro j; rw [cA0_131 (hM 131 (by omega))]
  · intro j; rw [cA0_163 (hM 163 (by omega))]
  · intro j; rw [cA0_164 (hM 164 (by omega))]
  · intro j; rw [cA0_165 (hM 165 (by omega))]
  · intro j; rw [cA0_166 (hM 166 (by omega))]
  · intro j; rw [cA0_167 (hM 167 (by omega))]
  · intro j; rw [cA0_168 (hM 168 (by omega))] <;> grind
  · intro j; rw [cA0_169 (hM 169 (by omega))]
  · intro j; rw [cA0_170 (hM 170 (by omega))]
  · intro j; rw [cA0_171 (hM 171 (by omega))]
def iV (V : mj_M) : Prop := (∀ j, V 1 j = if j = 10 then -1 else 0) ∧
  (∀ j, V 3 j = 0) ∧
  (∀ j, V 4 j = if j = 0 then -1 else 0) ∧
  (∀ j, V 5 j = if j = 0 then 31 else 0) ∧
  (∀ j, V 6 j = if j = 0 then 960 else 0) ∧
  (∀ j, V 7 j = if j = 0 then -1 else 0) ∧
  (∀ j, V 8 j = 0) ∧
  (∀ j, V 9 j = 0) ∧
  (∀ j, V 10 j = if j = 0 then -1 else 0) ∧
  (∀ j, V 11 j = if j = 0 then -1 else 0) ∧
  (∀ j, V 12 j = 0) ∧
  (∀ j, V 14 j = if j = 0 then 1 else 0) ∧
  (∀ j, V 15 j = if j = 0 then -1 else 0) ∧
  (∀ j, V 16 j = 0) ∧
  (∀ j, V 17 j = 0) ∧
  (∀ j, V 18 j = 0) ∧
  (∀ j, V 19 j = 0) ∧
  (∀ j, V 22 j = 0) ∧
  (∀ j, V 23 j = 0) ∧
  (∀ j, V 24 j = 0) ∧
  (∀ j, V 25 j = 0) ∧
  (∀ j, V 26 j = 0) ∧
  (∀ j, V 27 j = 0) ∧
  (∀ j, V 28 j = 0) ∧
  (∀ j, V 29 j = 0) ∧
  (∀ j, V 30 j = 0) ∧
  (∀ j, V 31 j = 0) ∧
  (∀ j, V 32 j = 0) ∧
  (∀ j, V 33 j = 0) ∧
  (∀ j, V 34 j = 0) ∧
  (∀ j, V 35 j = 0) ∧
  (∀ j, V 36 j = 0) ∧
  (∀ j, V 37 j = 0) ∧
  (∀ j, V 38 j = 0) ∧
  (∀ j, V 39 j = 0) ∧
  (∀ j, V 40 j = 0) ∧
  (∀ j, V 41 j = 0) ∧
  (∀ j, V 42 j = if j < 10 then (if j = 0 then 0 else -1) else if j < 400 then -1 else 0) ∧
  (∀ j, V 43 j = 0) ∧
  (∀ j, V 131 j = 0) ∧
  (∀ j, V 201 j = if j = 1 then 1 else 0) ∧
  (∀ j, V 210 j = if j = 0 then 1 else 0) ∧
  (∀ j, V 211 j = if j = 0 then 1 else 0) ∧
  (∀ j, V 212 j = if j = 0 then 1 else 0) ∧
  (∀ j, V 214 j = 0) ∧
  (∀ j, V 215 j = 0) ∧
  (∀ j, V 217 j = 0)
theorem iV_0 : iV mV3 := by
  obtain ⟨y0, y3, y4, y5, y6, y7, y8, y9, y10, y11, y12, y42, y131, y212⟩ := z_putV (V := mV2) (k := 0) (th := -1) (r := 31) (ro := 960) (l := -1) (b := 0) (s := 0) (la := -1)
  obtain ⟨z1, z14, z15, z16, z17, z18, z19, z210, z211, z20, z42, z201⟩ := z_mkt (V := mV1) (y := 0) (k := 1) (o := -1) (by omega)
  have e2 : m_mkt mV1 0 1 (-1) = mV2 := rfl
  have w1 : mj_w (mV1 201 1 + 1) = 1 := by rw [mV1_at.1 201 1 (by omega)]; decide
  rw [e2] at z1 z14 z15 z16 z17 z18 z19 z210 z211 z42 z201
  have e3 : m_put mV2 0 (-1) 31 960 (-1) 0 0 (-1) = mV3 := rfl
  rw [e3] at y0 y3 y4 y5 y6 y7 y8 y9 y10 y11 y12 y42 y131 y212
  refine ⟨?_, ?_, ?_, ?_, ?_, ?_, ?_, ?_, ?_, ?_, ?_, ?_, ?_, ?_, ?_, ?_, ?_, ?_, ?_, ?_, ?_, ?_, ?_, ?_, ?_, ?_, ?_, ?_, ?_, ?_, ?_, ?_, ?_, ?_, ?_, ?_, ?_, ?_, ?_, ?_, ?_, ?_, ?_, ?_, ?_, ?_, ?_⟩
  · intro j; rw [y0 1 (by omega) (by omega) (by omega) (by omega), z1 1 (by omega) (by omega) (by omega) (by omega) (by omega), mV1_at.1 1 j (by omega)] <;> simp
  · intro j; rw [y3, mV2_k, z1 3 (by omega) (by omega) (by omega) (by omega) (by omega), mV1_at.1 3 j (by omega)] <;> grind
  · intro j; rw [y4, mV2_k, z1 4 (by omega) (by omega) (by omega) (by omega) (by omega), mV1_at.1 4 j (by omega)] <;> grind
  · intro j; rw [y5, mV2_k, z1 5 (by omega) (by omega) (by omega) (by omega) (by omega), mV1_at.1 5 j (by omega)] <;> grind
  · intro j; rw [y6, mV2_k, z1 6 (by omega) (by omega) (by omega) (by omega) (by omega), mV1_at.1 6 j (by omega)] <;> grind
  · intro j; rw [y7, mV2_k, z1 7 (by omega) (by omega) (by omega) (by omega) (by omega), mV1_at.1 7 j (by omega)] <;> grind
  · intro j; rw [y8, mV2_k, z1 8 (by omega) (by omega) (by omega) (by omega) (by omega), mV1_at.1 8 j (by omega)] <;> grind
  · intro j; rw [y9, mV2_k, z1 9 (by omega) (by omega) (by omega) (by omega) (by omega), mV1_at.1 9 j (by omega)] <;> grind
  · intro j; rw [y10, mV2_k, z1 10 (by omega) (by omega) (by omega) (by omega) (by omega), mV1_at.1 10 j (by omega)] <;> grind
  · intro j; rw [y11, mV2_k, z1 11 (by omega) (by omega) (by omega) (by omega) (by omega), mV1_at.1 11 j (by omega)] <;> grind
  · intro j; rw [y12, mV2_k, z1 12 (by omega) (by omega) (by omega) (by omega) (by omega), mV1_at.1 12 j (by omega)] <;> grind
  · intro j; rw [y0 14 (by omega) (by omega) (by omega) (by omega), z14, mV1_at.1 14 j (by omega)] <;> grind
  · intro j; rw [y0 15 (by omega) (by omega) (by omega) (by omega), z15, mV1_at.1 15 j (by omega)] <;> grind
  · intro j; rw [y0 16 (by omega) (by omega) (by omega) (by omega), z16, mV1_at.1 16 j (by omega)] <;> grind
  · intro j; rw [y0 17 (by omega) (by omega) (by omega) (by omega), z17, mV1_at.1 17 j (by omega)] <;> grind
  · intro j; rw [y0 18 (by omega) (by omega) (by omega) (by omega), z18, mV1_at.1 18 j (by omega)] <;> grind
  · intro j; rw [y0 19 (by omega) (by omega) (by omega) (by omega), z19, mV1_at.1 19 j (by omega)] <;> grind
  · intro j; rw [y0 22 (by omega) (by omega) (by omega) (by omega), z1 22 (by omega) (by omega) (by omega) (by omega) (by omega), mV1_at.1 22 j (by omega)] <;> grind
  · intro j; rw [y0 23 (by omega) (by omega) (by omega) (by omega), z1 23 (by omega) (by omega) (by omega) (by omega) (by omega), mV1_at.1 23 j (by omega)] <;> grind
  · intro j; rw [y0 24 (by omega) (by omega) (by omega) (by omega), z1 24 (by omega) (by omega) (by omega) (by omega) (by omega), mV1_at.1 24 j (by omega)] <;> grind
  · intro j; rw [y0 25 (by omega) (by omega) (by omega) (by omega), z1 25 (by omega) (by omega) (by omega) (by omega) (by omega), mV1_at.1 25 j (by omega)] <;> grind
  · intro j; rw [y0 26 (by omega) (by omega) (by omega) (by omega), z1 26 (by omega) (by omega) (by omega) (by omega) (by omega), mV1_at.1 26 j (by omega)] <;> grind
  · intro j; rw [y0 27 (by omega) (by omega) (by omega) (by omega), z1 27 (by omega) (by omega) (by omega) (by omega) (by omega), mV1_at.1 27 j (by omega)] <;> grind
  · intro j; rw [y0 28 (by omega) (by omega) (by omega) (by omega), z1 28 (by omega) (by omega) (by omega) (by omega) (by omega), mV1_at.1 28 j (by omega)] <;> grind
  · intro j; rw [y0 29 (by omega) (by omega) (by omega) (by omega), z1 29 (by omega) (by omega) (by omega) (by omega) (by omega), mV1_at.1 29 j (by omega)] <;> grind
  · intro j; rw [y0 30 (by omega) (by omega) (by omega) (by omega), z1 30 (by omega) (by omega) (by omega) (by omega) (by omega), mV1_at.1 30 j (by omega)] <;> grind
  · intro j; rw [y0 31 (by omega) (by omega) (by omega) (by omega), z1 31 (by omega) (by omega) (by omega) (by omega) (by omega), mV1_at.1 31 j (by omega)] <;> grind
  · intro j; rw [y0 32 (by omega) (by omega) (by omega) (by omega), z1 32 (by omega) (by omega) (by omega) (by omega) (by omega), mV1_at.1 32 j (by omega)] <;> grind
  · intro j; rw [y0 33 (by omega) (by omega) (by omega) (by omega), z1 33 (by omega) (by omega) (by omega) (by omega) (by omega), mV1_at.1 33 j (by omega)] <;> grind
  · intro j; rw [y0 34 (by omega) (by omega) (by omega) (by omega), z1 34 (by omega) (by omega) (by omega) (by omega) (by omega), mV1_at.1 34 j (by omega)] <;> grind
  · intro j; rw [y0 35 (by omega) (by omega) (by omega) (by omega), z1 35 (by omega) (by omega) (by omega) (by omega) (by omega), mV1_at.1 35 j (by omega)] <;> grind
  · intro j; rw [y0 36 (by omega) (by omega) (by omega) (by omega), z1 36 (by omega) (by omega) (by omega) (by omega) (by omega), mV1_at.1 36 j (by omega)] <;> grind
  · intro j; rw [y0 37 (by omega) (by omega) (by omega) (by omega), z1 37 (by omega) (by omega) (by omega) (by omega) (by omega), mV1_at.1 37 j (by omega)] <;> grind
  · intro j; rw [y0 38 (by omega) (by omega) (by omega) (by omega), z1 38 (by omega) (by omega) (by omega) (by omega) (by omega), mV1_at.1 38 j (by omega)] <;> grind
  · intro j; rw [y0 39 (by omega) (by omega) (by omega) (by omega), z1 39 (by omega) (by omega) (by omega) (by omega) (by omega), mV1_at.1 39 j (by omega)] <;> grind
  · intro j; rw [y0 40 (by omega) (by omega) (by omega) (by omega), z1 40 (by omega) (by omega) (by omega) (by omega) (by omega), mV1_at.1 40 j (by omega)] <;> grind
  · intro j; rw [y0 41 (by omega) (by omega) (by omega) (by omega), z1 41 (by omega) (by omega) (by omega) (by omega) (by omega), mV1_at.1 41 j (by omega)] <;> grind
  · intro j; rw [y42, mV2_k, z42, mV1_at.2] <;> grind
  · intro j; rw [y0 43 (by omega) (by omega) (by omega) (by omega), z1 43 (by omega) (by omega) (by omega) (by omega) (by omega), mV1_at.1 43 j (by omega)] <;> grind
  · intro j; rw [y131, mV2_k, z1 131 (by omega) (by omega) (by omega) (by omega) (by omega), mV1_at.1 131 j (by omega)] <;> grind
  · intro j; rw [y0 201 (by omega) (by omega) (by omega) (by omega), z201, w1, mV1_at.1 201 j (by omega)] <;> grind
  · intro j; rw [y0 210 (by omega) (by omega) (by omega) (by omega), z210, mV1_at.1 210 j (by omega)] <;> grind
  · intro j; rw [y0 211 (by omega) (by omega) (by omega) (by omega), z211, w1, mV1_at.1 211 j (by omega)] <;> grind
  · intro j; rw [y212, mV2_k, z1 212 (by omega) (by omega) (by omega) (by omega) (by omega), mV1_at.1 212 j (by omega)] <;> grind
  · intro j; rw [y0 214 (by omega) (by omega) (by omega) (by omega), z1 214 (by omega) (by omega) (by omega) (by omega) (by omega), mV1_at.1 214 j (by omega)] <;> grind
  · intro j; rw [y0 215 (by omega) (by omega) (by omega) (by omega), z1 215 (by omega) (by omega) (by omega) (by omega) (by omega), mV1_at.1 215 j (by omega)] <;> grind
  · intro j; rw [y0 217 (by omega) (by omega) (by omega) (by omega), z1 217 (by omega) (by omega) (by omega) (by omega) (by omega), mV1_at.1 217 j (by omega)] <;> grind
theorem iA_wr {A : mj_M} (h : iA A) : q_wr A := by
  obtain ⟨a0, a1, a2, a3, a4, a5, a6, a7, a8, a9, a10, a11, a12, a13, a14, a15, a16, a17, a18, a19, a20, a21, a22, a23, a24, a25, a26, a27, a28, a29, a30, a31, a32, a33, a34, a35, a36, a37, a38, a39, a40, a41, a42, a43, a130, a131, a163, a164, a165, a166, a167, a168, a169, a170, a171⟩ := h
  exact ⟨(fun i h => by rw [a3]; grind), (fun i h => by rw [a4]; grind), (fun i h => by rw [a7]; grind), (fun i h => by rw [a8]; grind), (fun i h => by rw [a9]; grind), (fun i h => by rw [a10]; grind), (fun i h => by rw [a42]; grind), (fun i h => by rw [a14]; grind), (fun i h => by rw [a15]; grind), (fun i h => by rw [a17]; grind), (fun i h => by rw [a18]; grind), (fun i h => by rw [a19]; grind), (fun i h => by rw [a23]; grind), (fun i h => by rw [a27]; grind), (fun i h => by rw [a28]; grind), (fun i h => by rw [a29]; grind), (fun i h => by rw [a30]; grind), (fun i h => by rw [a31]; grind), (by rw [a22]; grind), (by rw [a36]; grind), (by rw [a1]; grind), (by rw [a1]; grind), (by rw [a1]; grind)⟩
theorem iV_ok {V : mj_M} (h : iV V) : m_ok V := by
  obtain ⟨v1, v3, v4, v5, v6, v7, v8, v9, v10, v11, v12, v14, v15, v16, v17, v18, v19, v22, v23, v24, v25, v26, v27, v28, v29, v30, v31, v32, v33, v34, v35, v36, v37, v38, v39, v40, v41, v42, v43, v131, v201, v210, v211, v212, v214, v215, v217⟩ := h
  refine ⟨⟨(fun i h => by rw [v3]; grind), (fun i h => by rw [v4]; grind), (fun i h => by rw [v7]; grind), (fun i h => by rw [v8]; grind), (fun i h => by rw [v9]; grind), (fun i h => by rw [v10]; grind), (fun i h => by rw [v42]; grind), (fun i h => by rw [v14]; grind), (fun i h => by rw [v15]; grind), (fun i h => by rw [v17]; grind), (fun i h => by rw [v18]; grind), (fun i h => by rw [v19]; grind), (fun i h => by rw [v23]; grind), (fun i h => by rw [v27]; grind), (fun i h => by rw [v28]; grind), (fun i h => by rw [v29]; grind), (fun i h => by rw [v30]; grind), (fun i h => by rw [v31]; grind), (by rw [v22]; grind), (by rw [v36]; grind), (by rw [v1]; grind), (by rw [v1]; grind), (by rw [v1]; grind)⟩, fun k hk => by rw [v212]; grind, fun k hk q1 q2 => ?_, fun _ => 0, fun _ => (by show 0 < 120; omega), fun k hk q1 q2 => ?_⟩
  · rw [v212] at q1; rw [v7] at q2; grind
  · rw [v212] at q1; rw [v7] at q2; grind

/-- both sides agree when all begins -/
theorem z_I_0i {A V : mj_M} (hA : iA A) (hV : iV V) (hP : ∀ k : Nat, k < 6 → A 9001 k = m_ro k) : z_I 1000 A V := by
  have wA := iA_wr hA
  have okV := iV_ok hV
  obtain ⟨a0, a1, a2, a3, a4, a5, a6, a7, a8, a9, a10, a11, a12, a13, a14, a15, a16, a17, a18, a19, a20, a21, a22, a23, a24, a25, a26, a27, a28, a29, a30, a31, a32, a33, a34, a35, a36, a37, a38, a39, a40, a41, a42, a43, a130, a131, a163, a164, a165, a166, a167, a168, a169, a170, a171⟩ := hA
  obtain ⟨v1, v3, v4, v5, v6, v7, v8, v9, v10, v11, v12, v14, v15, v16, v17, v18, v19, v22, v23, v24, v25, v26, v27, v28, v29, v30, v31, v32, v33, v34, v35, v36, v37, v38, v39, v40, v41, v42, v43, v131, v201, v210, v211, v212, v214, v215, v217⟩ := hV
  have t0 : ∀ t : Nat, t < 120 → A 3 t ≠ -1 → t = 0 := fun t ht q => by rw [a3] at q; grind
  have y0 : ∀ t : Nat, t < 40 → A 14 t ≠ -1 → t = 0 := fun t ht q => by rw [a14] at q; grind
  have sz : A 22 13 = 0 := a22 13
  refine ⟨⟨⟨⟨wA, ?_, ?_, fun _ => 0, fun _ => (by show 0 < 120; omega), ?_⟩, ?_, ⟨?_, ?_⟩, ⟨?_, ?_⟩, ?_, ?_, okV, ?_, ?_, ?_, ⟨⟨?_, ?_⟩, ?_, ?_, ⟨?_, ?_⟩, wA⟩, ?_, ⟨?_, ?_, ?_⟩, ⟨?_, ?_, ?_, rfl, ?_, ?_, ?_⟩, ?_, ?_, ?_, hP⟩, ⟨Or.inl (a130 2), fun _ k _ => a131 k⟩, ?_, a130 2⟩, ?_, ⟨?_, ?_, ?_⟩, ?_⟩
  · intro k hk q1 q2; rw [t0 k hk q1, a7] at q2; exact absurd rfl q2
  · intro k hk q; rw [a131] at q; omega
  · intro k hk q1 q2; rw [t0 k hk q1, a7] at q2; exact absurd rfl q2
  · intro t ht
    by_cases c : t = 0
    · subst c
      right
      rw [a3, a4, a5, a6, a7, a8, a9, a10, a11, a12, v212, v3, v4, v5, v6, v7, v8, v9, v10, v11, v12]
      simp
    · left; rw [a3, v212]; grind
  · intro t ht q
    rw [t0 t ht q, a8, a9]
    exact a42 0
  · intro i hi q
    have : i = 0 := by rw [a42] at q; grind
    rw [this, a42, if_pos rfl]
    exact ⟨by rw [a3]; decide, by rw [a8, a9]; rfl⟩
  · intro k hk q; rw [t0 k hk q, a6]; decide
  · rw [a1]; decide
  · intro i hi; rw [a42, v42]; grind
  · intro t ht q; rw [a131, v131]; omega
  · intro y hy
    by_cases c : y = 0
    · subst c
      right
      rw [a14, a15, a16, a17, a18, a19, v210, v14, v15, v16, v17, v18, v19]
      simp
    · left; rw [a14, v210]; grind
  · intro y hy q
    rw [y0 y hy q, a16, a17, a18, a19, a15]
    exact ⟨fun _ => rfl, fun _ => ⟨rfl, rfl, rfl⟩, fun g => absurd rfl g⟩
  · intro y hy q
    rw [a17, a18]
    exact ⟨fun j _ g => by omega, fun j _ g => by omega⟩
  · rw [v22, a22]
  · intro r hr
    rw [v23, a23, v24, a24, v25, a25, v26, a26, v27, a27, v28, a28, v29, a29, v30, a30, v31, a31]
    simp
  · intro r hr
    rw [v32, a32, v33, a33, a31]
    refine ⟨fun _ => rfl, fun _ => rfl, fun j _ g => by omega⟩
  · intro r hr; rw [sz] at hr; omega
  · intro r q hr; rw [sz] at hr; omega
  · intro r hr; rw [sz] at hr; omega
  · intro r hr; rw [sz] at hr; omega
  · rw [v36, a36]
  · intro y hy q
    rw [v211, v201]; grind
  · intro u hu; rw [a36] at hu; omega
  · rw [v1, a1]
  · rw [v1, a1]
  · rw [v1, a1]
  · rw [v1, a1]
  · rw [v1, a1]
  · intro j _; rw [v43, a43]
  · intro t ht q q2; rw [t0 t ht q, a4] at q2; exact absurd rfl q2
  · intro t ht q
    left
    rw [t0 t ht q, a8]
    exact a14 0
  · intro t ht q
    rw [t0 t ht q, a5, a4, a12]
    exact ⟨by decide, fun g => absurd rfl g, Or.inl rfl⟩
  · intro y h1 h2 q
    have := y0 y h2 q
    omega
  · intro k hk
    rw [a24, a30, a22]
    refine ⟨fun q => by omega, fun q => by omega, fun _ => by omega⟩
  · intro i hi; rw [v17]; omega
  · rw [v201]; grind
  · rw [v201]; grind
  · intro i hi; rw [a17]; omega
/-- the two objects when all begins -/
theorem z_JJ_0 {A V : mj_M} (hA : iA A) (hV : iV V) (hP : ∀ k : Nat, k < 6 → A 9001 k = m_ro k) (hZ : ∀ a, 172 ≤ a → a < 185 → a ≠ 173 → A a = fun _ => 0) : z_JJ 1000 A V := by
  refine ⟨z_I_0i hA hV hP, ?_⟩
  obtain ⟨a0, a1, a2, a3, a4, a5, a6, a7, a8, a9, a10, a11, a12, a13, a14, a15, a16, a17, a18, a19, a20, a21, a22, a23, a24, a25, a26, a27, a28, a29, a30, a31, a32, a33, a34, a35, a36, a37, a38, a39, a40, a41, a42, a43, a130, a131, a163, a164, a165, a166, a167, a168, a169, a170, a171⟩ := hA
  obtain ⟨v1, v3, v4, v5, v6, v7, v8, v9, v10, v11, v12, v14, v15, v16, v17, v18, v19, v22, v23, v24, v25, v26, v27, v28, v29, v30, v31, v32, v33, v34, v35, v36, v37, v38, v39, v40, v41, v42, v43, v131, v201, v210, v211, v212, v214, v215, v217⟩ := hV
  refine ⟨⟨by rw [v1, a1], by rw [a1]; grind, v217⟩, ?_, ?_, ⟨?_, ?_, ?_, ?_⟩, ⟨?_, ?_, ?_⟩, ?_, ?_, ?_⟩
  · intro j hj; rw [hZ 174 (by omega) (by omega) (by omega), a171]
  · intro i hi
    rw [a168, if_pos (by omega), hZ 181 (by omega) (by omega) (by omega), hZ 182 (by omega) (by omega) (by omega), hZ 183 (by omega) (by omega) (by omega), if_pos rfl]
    refine ⟨by omega, rfl, rfl, fun j hj => ?_⟩
    have : ∀ i, i < 4 → A (164 + i) j = 0 := fun i hi => by
      match i, hi with
      | 0, _ => exact a164 j
      | 1, _ => exact a165 j
      | 2, _ => exact a166 j
      | 3, _ => exact a167 j
      | n + 4, h => exact absurd h (by omega)
    rw [this i hi]
  · rw [a0]; decide
  · rw [hZ 172 (by omega) (by omega) (by omega), a0]; rfl
  · intro q; exact absurd (a0 14) q
  · intro j hj; rw [hZ 184 (by omega) (by omega) (by omega), a169]
  · rw [a0]; decide
  · rw [hZ 172 (by omega) (by omega) (by omega), a0]; rfl
  · intro j hj; rw [hZ 179 (by omega) (by omega) (by omega), a170]
  · rw [a0]; exact Or.inl rfl
  · rw [hZ 172 (by omega) (by omega) (by omega), a0]; rfl
  · intro q; rw [a0] at q; exact absurd q (by decide)
end ini45
