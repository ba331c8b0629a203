/-! the objects that stand behind the two constructors (x: the object that Script.tape holds) -/
def sg_d : List mj_D := [.inl 0, .inl 1, .inl 2, .inr (.int, 120), .inr (.int, 120), .inr (.int, 120), .inr (.int, 120), .inr (.int, 120), .inr (.int, 120), .inr (.int, 120), .inr (.int, 120), .inr (.int, 120), .inr (.int, 120), .inl 3, .inr (.int, 40), .inr (.int, 40), .inr (.int, 40), .inr (.int, 40), .inr (.int, 40), .inr (.int, 40), .inr (.int, 1200), .inr (.int, 1200), .inl 4, .inr (.int, 8), .inr (.int, 8), .inr (.int, 8), .inr (.int, 8), .inr (.int, 8), .inr (.int, 8), .inr (.int, 8), .inr (.int, 8), .inr (.int, 8), .inr (.int, 8), .inr (.int, 8), .inr (.int, 8), .inr (.int, 1280), .inl 5, .inr (.int, 20), .inr (.int, 20), .inr (.int, 20), .inr (.int, 20), .inr (.int, 20), .inr (.int, 400), .inr (.int, 16), .inl 1, .inl 2, .inr (.int, 120), .inr (.int, 120), .inr (.int, 120), .inr (.int, 120), .inr (.int, 120), .inr (.int, 120), .inr (.int, 120), .inr (.int, 120), .inr (.int, 120), .inr (.int, 120), .inl 3, .inr (.int, 40), .inr (.int, 40), .inr (.int, 40), .inr (.int, 40), .inr (.int, 40), .inr (.int, 40), .inr (.int, 1200), .inr (.int, 1200), .inl 4, .inr (.int, 8), .inr (.int, 8), .inr (.int, 8), .inr (.int, 8), .inr (.int, 8), .inr (.int, 8), .inr (.int, 8), .inr (.int, 8), .inr (.int, 8), .inr (.int, 8), .inr (.int, 8), .inr (.int, 8), .inr (.int, 1280), .inl 5, .inr (.int, 20), .inr (.int, 20), .inr (.int, 20), .inr (.int, 20), .inr (.int, 20), .inr (.int, 400), .inr (.int, 16), .inl 1, .inl 2, .inr (.int, 120), .inr (.int, 120), .inr (.int, 120), .inr (.int, 120), .inr (.int, 120), .inr (.int, 120), .inr (.int, 120), .inr (.int, 120), .inr (.int, 120), .inr (.int, 120), .inl 3, .inr (.int, 40), .inr (.int, 40), .inr (.int, 40), .inr (.int, 40), .inr (.int, 40), .inr (.int, 40), .inr (.int, 1200), .inr (.int, 1200), .inl 4, .inr (.int, 8), .inr (.int, 8), .inr (.int, 8), .inr (.int, 8), .inr (.int, 8), .inr (.int, 8), .inr (.int, 8), .inr (.int, 8), .inr (.int, 8), .inr (.int, 8), .inr (.int, 8), .inr (.int, 8), .inr (.int, 1280), .inl 5, .inr (.int, 20), .inr (.int, 20), .inr (.int, 20), .inr (.int, 20), .inr (.int, 20), .inr (.int, 400), .inr (.int, 16), .inl 6, .inr (.int, 120), .inl 7, .inl 8, .inl 9, .inr (.array .int, 16), .inr (.int, 180), .inr (.int, 180), .inr (.int, 180), .inr (.int, 180), .inr (.int, 180), .inr (.int, 180), .inr (.int, 180), .inr (.int, 180), .inr (.int, 180), .inr (.int, 180), .inr (.int, 180), .inr (.int, 180), .inr (.int, 180), .inr (.int, 180), .inr (.int, 180), .inr (.int, 180), .inl 10, .inr (.int, 1600), .inr (.int, 1600), .inr (.long, 40), .inr (.long, 40), .inl 11, .inr (.int, 160), .inr (.int, 160), .inr (.int, 160), .inr (.int, 160), .inr (.int, 0), .inr (.array .int, 4), .inr (.int, 160), .inr (.int, 160), .inr (.int, 160), .inr (.int, 160), .inr (.int, 4), .inr (.int, 60), .inr (.int, 160), .inr (.int, 9), .inl 12, .inr (.int, 6172), .inr (.int, 9), .inr (.int, 6172), .inr (.int, 3840), .inr (.int, 1600), .inr (.int, 1600), .inr (.int, 160), .inr (.int, 6172), .inr (.boolean, 4), .inr (.int, 4), .inr (.int, 640), .inr (.int, 60)]
def sg_r : List (List Nat) := [[1, 44, 87, 130, 132, 133, 134, 152, 157, 163, 168, 169, 170, 171, 9999, 9999, 9999], [2, 13, 22, 36, 42, 43, 9999, 9999, 9999, 9999, 9999, 9999], [3, 4, 5, 6, 7, 8, 9, 10, 11, 12], [], [], [], [], [], [], [], [], [], [], [14, 15, 16, 17, 18, 19, 20, 21], [], [], [], [], [], [], [], [], [23, 24, 25, 26, 27, 28, 29, 30, 31, 32, 33, 34, 35, 9999], [], [], [], [], [], [], [], [], [], [], [], [], [], [37, 38, 39, 40, 41, 9999], [], [], [], [], [], [], [], [45, 56, 65, 79, 85, 86, 9999, 9999, 9999, 9999, 9999, 9999], [46, 47, 48, 49, 50, 51, 52, 53, 54, 55], [], [], [], [], [], [], [], [], [], [], [57, 58, 59, 60, 61, 62, 63, 64], [], [], [], [], [], [], [], [], [66, 67, 68, 69, 70, 71, 72, 73, 74, 75, 76, 77, 78, 9999], [], [], [], [], [], [], [], [], [], [], [], [], [], [80, 81, 82, 83, 84, 9999], [], [], [], [], [], [], [], [88, 99, 108, 122, 128, 129, 9999, 9999, 9999, 9999, 9999, 9999], [89, 90, 91, 92, 93, 94, 95, 96, 97, 98], [], [], [], [], [], [], [], [], [], [], [100, 101, 102, 103, 104, 105, 106, 107], [], [], [], [], [], [], [], [], [109, 110, 111, 112, 113, 114, 115, 116, 117, 118, 119, 120, 121, 9999], [], [], [], [], [], [], [], [], [], [], [], [], [], [123, 124, 125, 126, 127, 9999], [], [], [], [], [], [], [], [1, 131, 9999], [], [1, 130, 9999], [1, 22, 130, 132], [1, 87, 133, 135], [136, 137, 138, 139, 140, 141, 142, 143, 144, 145, 146, 147, 148, 149, 150, 151], [], [], [], [], [], [], [], [], [], [], [], [], [], [], [], [], [1, 153, 154, 155, 156], [], [], [], [], [1, 158, 159, 160, 161, 9999, 9999, 9999, 9999, 9999], [], [], [], [], [], [164, 165, 166, 167], [], [], [], [], [], [], [], [], [9999, 173, 174, 9999, 175, 176, 177, 178, 179, 9999, 9999, 9999, 9999, 9999, 9999, 9999, 180, 9999, 181, 182, 183, 184, 9999, 9999], [], [], [], [], [], [], [], [], [], [], [], []]
def SGx (x : Nat) : mj_G := (185, 51662, fun a => sg_d.getD a (.inl 0), fun a j => if a = 157 ∧ j = 5 then x else if a = 135 then 136 + j else if a = 163 then 164 + j else (sg_r.getD a []).getD j 9999)
section sg
variable {x : Nat} {M : mj_M}
theorem g_o0 : mj_isO (SGx x) 0 0 = true := rfl
theorem g_r0_0 : (SGx x).2.2.2 0 0 = 1 := rfl
theorem g_r0_1 : (SGx x).2.2.2 0 1 = 44 := rfl
theorem g_r0_2 : (SGx x).2.2.2 0 2 = 87 := rfl
theorem g_r0_3 : (SGx x).2.2.2 0 3 = 130 := rfl
theorem g_r0_4 : (SGx x).2.2.2 0 4 = 132 := rfl
theorem g_r0_5 : (SGx x).2.2.2 0 5 = 133 := rfl
theorem g_r0_6 : (SGx x).2.2.2 0 6 = 134 := rfl
theorem g_r0_7 : (SGx x).2.2.2 0 7 = 152 := rfl
theorem g_r0_8 : (SGx x).2.2.2 0 8 = 157 := rfl
theorem g_r0_9 : (SGx x).2.2.2 0 9 = 163 := rfl
theorem g_r0_10 : (SGx x).2.2.2 0 10 = 168 := rfl
theorem g_r0_11 : (SGx x).2.2.2 0 11 = 169 := rfl
theorem g_r0_12 : (SGx x).2.2.2 0 12 = 170 := rfl
theorem g_r0_13 : (SGx x).2.2.2 0 13 = 171 := rfl
theorem g_o1 : mj_isO (SGx x) 1 1 = true := rfl
theorem g_r1_0 : (SGx x).2.2.2 1 0 = 2 := rfl
theorem g_r1_1 : (SGx x).2.2.2 1 1 = 13 := rfl
theorem g_r1_2 : (SGx x).2.2.2 1 2 = 22 := rfl
theorem g_r1_3 : (SGx x).2.2.2 1 3 = 36 := rfl
theorem g_r1_4 : (SGx x).2.2.2 1 4 = 42 := rfl
theorem g_r1_5 : (SGx x).2.2.2 1 5 = 43 := rfl
theorem g_o2 : mj_isO (SGx x) 2 2 = true := rfl
theorem g_r2_0 : (SGx x).2.2.2 2 0 = 3 := rfl
theorem g_r2_1 : (SGx x).2.2.2 2 1 = 4 := rfl
theorem g_r2_2 : (SGx x).2.2.2 2 2 = 5 := rfl
theorem g_r2_3 : (SGx x).2.2.2 2 3 = 6 := rfl
theorem g_r2_4 : (SGx x).2.2.2 2 4 = 7 := rfl
theorem g_r2_5 : (SGx x).2.2.2 2 5 = 8 := rfl
theorem g_r2_6 : (SGx x).2.2.2 2 6 = 9 := rfl
theorem g_r2_7 : (SGx x).2.2.2 2 7 = 10 := rfl
theorem g_r2_8 : (SGx x).2.2.2 2 8 = 11 := rfl
theorem g_r2_9 : (SGx x).2.2.2 2 9 = 12 := rfl
theorem g_a3 : mj_ai (SGx x) M 3 = some 120 := rfl
theorem g_t3 : mj_ty (SGx x) .int 3 = some 120 := rfl
theorem g_a4 : mj_ai (SGx x) M 4 = some 120 := rfl
theorem g_t4 : mj_ty (SGx x) .int 4 = some 120 := rfl
theorem g_a5 : mj_ai (SGx x) M 5 = some 120 := rfl
theorem g_t5 : mj_ty (SGx x) .int 5 = some 120 := rfl
theorem g_a6 : mj_ai (SGx x) M 6 = some 120 := rfl
theorem g_t6 : mj_ty (SGx x) .int 6 = some 120 := rfl
theorem g_a7 : mj_ai (SGx x) M 7 = some 120 := rfl
theorem g_t7 : mj_ty (SGx x) .int 7 = some 120 := rfl
theorem g_a8 : mj_ai (SGx x) M 8 = some 120 := rfl
theorem g_t8 : mj_ty (SGx x) .int 8 = some 120 := rfl
theorem g_a9 : mj_ai (SGx x) M 9 = some 120 := rfl
theorem g_t9 : mj_ty (SGx x) .int 9 = some 120 := rfl
theorem g_a10 : mj_ai (SGx x) M 10 = some 120 := rfl
theorem g_t10 : mj_ty (SGx x) .int 10 = some 120 := rfl
theorem g_a11 : mj_ai (SGx x) M 11 = some 120 := rfl
theorem g_t11 : mj_ty (SGx x) .int 11 = some 120 := rfl
theorem g_a12 : mj_ai (SGx x) M 12 = some 120 := rfl
theorem g_t12 : mj_ty (SGx x) .int 12 = some 120 := rfl
theorem g_o13 : mj_isO (SGx x) 13 3 = true := rfl
theorem g_r13_0 : (SGx x).2.2.2 13 0 = 14 := rfl
theorem g_r13_1 : (SGx x).2.2.2 13 1 = 15 := rfl
theorem g_r13_2 : (SGx x).2.2.2 13 2 = 16 := rfl
theorem g_r13_3 : (SGx x).2.2.2 13 3 = 17 := rfl
theorem g_r13_4 : (SGx x).2.2.2 13 4 = 18 := rfl
theorem g_r13_5 : (SGx x).2.2.2 13 5 = 19 := rfl
theorem g_r13_6 : (SGx x).2.2.2 13 6 = 20 := rfl
theorem g_r13_7 : (SGx x).2.2.2 13 7 = 21 := rfl
theorem g_a14 : mj_ai (SGx x) M 14 = some 40 := rfl
theorem g_t14 : mj_ty (SGx x) .int 14 = some 40 := rfl
theorem g_a15 : mj_ai (SGx x) M 15 = some 40 := rfl
theorem g_t15 : mj_ty (SGx x) .int 15 = some 40 := rfl
theorem g_a16 : mj_ai (SGx x) M 16 = some 40 := rfl
theorem g_t16 : mj_ty (SGx x) .int 16 = some 40 := rfl
theorem g_a17 : mj_ai (SGx x) M 17 = some 40 := rfl
theorem g_t17 : mj_ty (SGx x) .int 17 = some 40 := rfl
theorem g_a18 : mj_ai (SGx x) M 18 = some 40 := rfl
theorem g_t18 : mj_ty (SGx x) .int 18 = some 40 := rfl
theorem g_a19 : mj_ai (SGx x) M 19 = some 40 := rfl
theorem g_t19 : mj_ty (SGx x) .int 19 = some 40 := rfl
theorem g_a20 : mj_ai (SGx x) M 20 = some 1200 := rfl
theorem g_t20 : mj_ty (SGx x) .int 20 = some 1200 := rfl
theorem g_a21 : mj_ai (SGx x) M 21 = some 1200 := rfl
theorem g_t21 : mj_ty (SGx x) .int 21 = some 1200 := rfl
theorem g_o22 : mj_isO (SGx x) 22 4 = true := rfl
theorem g_r22_0 : (SGx x).2.2.2 22 0 = 23 := rfl
theorem g_r22_1 : (SGx x).2.2.2 22 1 = 24 := rfl
theorem g_r22_2 : (SGx x).2.2.2 22 2 = 25 := rfl
theorem g_r22_3 : (SGx x).2.2.2 22 3 = 26 := rfl
theorem g_r22_4 : (SGx x).2.2.2 22 4 = 27 := rfl
theorem g_r22_5 : (SGx x).2.2.2 22 5 = 28 := rfl
theorem g_r22_6 : (SGx x).2.2.2 22 6 = 29 := rfl
theorem g_r22_7 : (SGx x).2.2.2 22 7 = 30 := rfl
theorem g_r22_8 : (SGx x).2.2.2 22 8 = 31 := rfl
theorem g_r22_9 : (SGx x).2.2.2 22 9 = 32 := rfl
theorem g_r22_10 : (SGx x).2.2.2 22 10 = 33 := rfl
theorem g_r22_11 : (SGx x).2.2.2 22 11 = 34 := rfl
theorem g_r22_12 : (SGx x).2.2.2 22 12 = 35 := rfl
theorem g_a23 : mj_ai (SGx x) M 23 = some 8 := rfl
theorem g_t23 : mj_ty (SGx x) .int 23 = some 8 := rfl
theorem g_a24 : mj_ai (SGx x) M 24 = some 8 := rfl
theorem g_t24 : mj_ty (SGx x) .int 24 = some 8 := rfl
theorem g_a25 : mj_ai (SGx x) M 25 = some 8 := rfl
theorem g_t25 : mj_ty (SGx x) .int 25 = some 8 := rfl
theorem g_a26 : mj_ai (SGx x) M 26 = some 8 := rfl
theorem g_t26 : mj_ty (SGx x) .int 26 = some 8 := rfl
theorem g_a27 : mj_ai (SGx x) M 27 = some 8 := rfl
theorem g_t27 : mj_ty (SGx x) .int 27 = some 8 := rfl
theorem g_a28 : mj_ai (SGx x) M 28 = some 8 := rfl
theorem g_t28 : mj_ty (SGx x) .int 28 = some 8 := rfl
theorem g_a29 : mj_ai (SGx x) M 29 = some 8 := rfl
theorem g_t29 : mj_ty (SGx x) .int 29 = some 8 := rfl
theorem g_a30 : mj_ai (SGx x) M 30 = some 8 := rfl
theorem g_t30 : mj_ty (SGx x) .int 30 = some 8 := rfl
theorem g_a31 : mj_ai (SGx x) M 31 = some 8 := rfl
theorem g_t31 : mj_ty (SGx x) .int 31 = some 8 := rfl
theorem g_a32 : mj_ai (SGx x) M 32 = some 8 := rfl
theorem g_t32 : mj_ty (SGx x) .int 32 = some 8 := rfl
theorem g_a33 : mj_ai (SGx x) M 33 = some 8 := rfl
theorem g_t33 : mj_ty (SGx x) .int 33 = some 8 := rfl
theorem g_a34 : mj_ai (SGx x) M 34 = some 8 := rfl
theorem g_t34 : mj_ty (SGx x) .int 34 = some 8 := rfl
theorem g_a35 : mj_ai (SGx x) M 35 = some 1280 := rfl
theorem g_t35 : mj_ty (SGx x) .int 35 = some 1280 := rfl
theorem g_o36 : mj_isO (SGx x) 36 5 = true := rfl
theorem g_r36_0 : (SGx x).2.2.2 36 0 = 37 := rfl
theorem g_r36_1 : (SGx x).2.2.2 36 1 = 38 := rfl
theorem g_r36_2 : (SGx x).2.2.2 36 2 = 39 := rfl
theorem g_r36_3 : (SGx x).2.2.2 36 3 = 40 := rfl
theorem g_r36_4 : (SGx x).2.2.2 36 4 = 41 := rfl
theorem g_a37 : mj_ai (SGx x) M 37 = some 20 := rfl
theorem g_t37 : mj_ty (SGx x) .int 37 = some 20 := rfl
theorem g_a38 : mj_ai (SGx x) M 38 = some 20 := rfl
theorem g_t38 : mj_ty (SGx x) .int 38 = some 20 := rfl
theorem g_a39 : mj_ai (SGx x) M 39 = some 20 := rfl
theorem g_t39 : mj_ty (SGx x) .int 39 = some 20 := rfl
theorem g_a40 : mj_ai (SGx x) M 40 = some 20 := rfl
theorem g_t40 : mj_ty (SGx x) .int 40 = some 20 := rfl
theorem g_a41 : mj_ai (SGx x) M 41 = some 20 := rfl
theorem g_t41 : mj_ty (SGx x) .int 41 = some 20 := rfl
theorem g_a42 : mj_ai (SGx x) M 42 = some 400 := rfl
theorem g_t42 : mj_ty (SGx x) .int 42 = some 400 := rfl
theorem g_a43 : mj_ai (SGx x) M 43 = some 16 := rfl
theorem g_t43 : mj_ty (SGx x) .int 43 = some 16 := rfl
theorem g_o44 : mj_isO (SGx x) 44 1 = true := rfl
theorem g_r44_0 : (SGx x).2.2.2 44 0 = 45 := rfl
theorem g_r44_1 : (SGx x).2.2.2 44 1 = 56 := rfl
theorem g_r44_2 : (SGx x).2.2.2 44 2 = 65 := rfl
theorem g_r44_3 : (SGx x).2.2.2 44 3 = 79 := rfl
theorem g_r44_4 : (SGx x).2.2.2 44 4 = 85 := rfl
theorem g_r44_5 : (SGx x).2.2.2 44 5 = 86 := rfl
theorem g_o45 : mj_isO (SGx x) 45 2 = true := rfl
theorem g_r45_0 : (SGx x).2.2.2 45 0 = 46 := rfl
theorem g_r45_1 : (SGx x).2.2.2 45 1 = 47 := rfl
theorem g_r45_2 : (SGx x).2.2.2 45 2 = 48 := rfl
theorem g_r45_3 : (SGx x).2.2.2 45 3 = 49 := rfl
theorem g_r45_4 : (SGx x).2.2.2 45 4 = 50 := rfl
theorem g_r45_5 : (SGx x).2.2.2 45 5 = 51 := rfl
theorem g_r45_6 : (SGx x).2.2.2 45 6 = 52 := rfl
theorem g_r45_7 : (SGx x).2.2.2 45 7 = 53 := rfl
theorem g_r45_8 : (SGx x).2.2.2 45 8 = 54 := rfl
theorem g_r45_9 : (SGx x).2.2.2 45 9 = 55 := rfl
theorem g_a46 : mj_ai (SGx x) M 46 = some 120 := rfl
theorem g_t46 : mj_ty (SGx x) .int 46 = some 120 := rfl
theorem g_a47 : mj_ai (SGx x) M 47 = some 120 := rfl
theorem g_t47 : mj_ty (SGx x) .int 47 = some 120 := rfl
theorem g_a48 : mj_ai (SGx x) M 48 = some 120 := rfl
theorem g_t48 : mj_ty (SGx x) .int 48 = some 120 := rfl
theorem g_a49 : mj_ai (SGx x) M 49 = some 120 := rfl
theorem g_t49 : mj_ty (SGx x) .int 49 = some 120 := rfl
theorem g_a50 : mj_ai (SGx x) M 50 = some 120 := rfl
theorem g_t50 : mj_ty (SGx x) .int 50 = some 120 := rfl
theorem g_a51 : mj_ai (SGx x) M 51 = some 120 := rfl
theorem g_t51 : mj_ty (SGx x) .int 51 = some 120 := rfl
theorem g_a52 : mj_ai (SGx x) M 52 = some 120 := rfl
theorem g_t52 : mj_ty (SGx x) .int 52 = some 120 := rfl
theorem g_a53 : mj_ai (SGx x) M 53 = some 120 := rfl
theorem g_t53 : mj_ty (SGx x) .int 53 = some 120 := rfl
theorem g_a54 : mj_ai (SGx x) M 54 = some 120 := rfl
theorem g_t54 : mj_ty (SGx x) .int 54 = some 120 := rfl
theorem g_a55 : mj_ai (SGx x) M 55 = some 120 := rfl
theorem g_t55 : mj_ty (SGx x) .int 55 = some 120 := rfl
theorem g_o56 : mj_isO (SGx x) 56 3 = true := rfl
theorem g_r56_0 : (SGx x).2.2.2 56 0 = 57 := rfl
theorem g_r56_1 : (SGx x).2.2.2 56 1 = 58 := rfl
theorem g_r56_2 : (SGx x).2.2.2 56 2 = 59 := rfl
theorem g_r56_3 : (SGx x).2.2.2 56 3 = 60 := rfl
theorem g_r56_4 : (SGx x).2.2.2 56 4 = 61 := rfl
theorem g_r56_5 : (SGx x).2.2.2 56 5 = 62 := rfl
theorem g_r56_6 : (SGx x).2.2.2 56 6 = 63 := rfl
theorem g_r56_7 : (SGx x).2.2.2 56 7 = 64 := rfl
theorem g_a57 : mj_ai (SGx x) M 57 = some 40 := rfl
theorem g_t57 : mj_ty (SGx x) .int 57 = some 40 := rfl
theorem g_a58 : mj_ai (SGx x) M 58 = some 40 := rfl
theorem g_t58 : mj_ty (SGx x) .int 58 = some 40 := rfl
theorem g_a59 : mj_ai (SGx x) M 59 = some 40 := rfl
theorem g_t59 : mj_ty (SGx x) .int 59 = some 40 := rfl
theorem g_a60 : mj_ai (SGx x) M 60 = some 40 := rfl
theorem g_t60 : mj_ty (SGx x) .int 60 = some 40 := rfl
theorem g_a61 : mj_ai (SGx x) M 61 = some 40 := rfl
theorem g_t61 : mj_ty (SGx x) .int 61 = some 40 := rfl
theorem g_a62 : mj_ai (SGx x) M 62 = some 40 := rfl
theorem g_t62 : mj_ty (SGx x) .int 62 = some 40 := rfl
theorem g_a63 : mj_ai (SGx x) M 63 = some 1200 := rfl
theorem g_t63 : mj_ty (SGx x) .int 63 = some 1200 := rfl
theorem g_a64 : mj_ai (SGx x) M 64 = some 1200 := rfl
theorem g_t64 : mj_ty (SGx x) .int 64 = some 1200 := rfl
theorem g_o65 : mj_isO (SGx x) 65 4 = true := rfl
theorem g_r65_0 : (SGx x).2.2.2 65 0 = 66 := rfl
theorem g_r65_1 : (SGx x).2.2.2 65 1 = 67 := rfl
theorem g_r65_2 : (SGx x).2.2.2 65 2 = 68 := rfl
theorem g_r65_3 : (SGx x).2.2.2 65 3 = 69 := rfl
theorem g_r65_4 : (SGx x).2.2.2 65 4 = 70 := rfl
theorem g_r65_5 : (SGx x).2.2.2 65 5 = 71 := rfl
theorem g_r65_6 : (SGx x).2.2.2 65 6 = 72 := rfl
theorem g_r65_7 : (SGx x).2.2.2 65 7 = 73 := rfl
theorem g_r65_8 : (SGx x).2.2.2 65 8 = 74 := rfl
theorem g_r65_9 : (SGx x).2.2.2 65 9 = 75 := rfl
theorem g_r65_10 : (SGx x).2.2.2 65 10 = 76 := rfl
theorem g_r65_11 : (SGx x).2.2.2 65 11 = 77 := rfl
theorem g_r65_12 : (SGx x).2.2.2 65 12 = 78 := rfl
theorem g_a66 : mj_ai (SGx x) M 66 = some 8 := rfl
theorem g_t66 : mj_ty (SGx x) .int 66 = some 8 := rfl
theorem g_a67 : mj_ai (SGx x) M 67 = some 8 := rfl
theorem g_t67 : mj_ty (SGx x) .int 67 = some 8 := rfl
theorem g_a68 : mj_ai (SGx x) M 68 = some 8 := rfl
theorem g_t68 : mj_ty (SGx x) .int 68 = some 8 := rfl
theorem g_a69 : mj_ai (SGx x) M 69 = some 8 := rfl
theorem g_t69 : mj_ty (SGx x) .int 69 = some 8 := rfl
theorem g_a70 : mj_ai (SGx x) M 70 = some 8 := rfl
theorem g_t70 : mj_ty (SGx x) .int 70 = some 8 := rfl
theorem g_a71 : mj_ai (SGx x) M 71 = some 8 := rfl
theorem g_t71 : mj_ty (SGx x) .int 71 = some 8 := rfl
theorem g_a72 : mj_ai (SGx x) M 72 = some 8 := rfl
theorem g_t72 : mj_ty (SGx x) .int 72 = some 8 := rfl
theorem g_a73 : mj_ai (SGx x) M 73 = some 8 := rfl
theorem g_t73 : mj_ty (SGx x) .int 73 = some 8 := rfl
theorem g_a74 : mj_ai (SGx x) M 74 = some 8 := rfl
theorem g_t74 : mj_ty (SGx x) .int 74 = some 8 := rfl
theorem g_a75 : mj_ai (SGx x) M 75 = some 8 := rfl
theorem g_t75 : mj_ty (SGx x) .int 75 = some 8 := rfl
theorem g_a76 : mj_ai (SGx x) M 76 = some 8 := rfl
theorem g_t76 : mj_ty (SGx x) .int 76 = some 8 := rfl
theorem g_a77 : mj_ai (SGx x) M 77 = some 8 := rfl
theorem g_t77 : mj_ty (SGx x) .int 77 = some 8 := rfl
theorem g_a78 : mj_ai (SGx x) M 78 = some 1280 := rfl
theorem g_t78 : mj_ty (SGx x) .int 78 = some 1280 := rfl
theorem g_o79 : mj_isO (SGx x) 79 5 = true := rfl
theorem g_r79_0 : (SGx x).2.2.2 79 0 = 80 := rfl
theorem g_r79_1 : (SGx x).2.2.2 79 1 = 81 := rfl
theorem g_r79_2 : (SGx x).2.2.2 79 2 = 82 := rfl
theorem g_r79_3 : (SGx x).2.2.2 79 3 = 83 := rfl
theorem g_r79_4 : (SGx x).2.2.2 79 4 = 84 := rfl
theorem g_a80 : mj_ai (SGx x) M 80 = some 20 := rfl
theorem g_t80 : mj_ty (SGx x) .int 80 = some 20 := rfl
theorem g_a81 : mj_ai (SGx x) M 81 = some 20 := rfl
theorem g_t81 : mj_ty (SGx x) .int 81 = some 20 := rfl
theorem g_a82 : mj_ai (SGx x) M 82 = some 20 := rfl
theorem g_t82 : mj_ty (SGx x) .int 82 = some 20 := rfl
theorem g_a83 : mj_ai (SGx x) M 83 = some 20 := rfl
theorem g_t83 : mj_ty (SGx x) .int 83 = some 20 := rfl
theorem g_a84 : mj_ai (SGx x) M 84 = some 20 := rfl
theorem g_t84 : mj_ty (SGx x) .int 84 = some 20 := rfl
theorem g_a85 : mj_ai (SGx x) M 85 = some 400 := rfl
theorem g_t85 : mj_ty (SGx x) .int 85 = some 400 := rfl
theorem g_a86 : mj_ai (SGx x) M 86 = some 16 := rfl
theorem g_t86 : mj_ty (SGx x) .int 86 = some 16 := rfl
theorem g_o87 : mj_isO (SGx x) 87 1 = true := rfl
theorem g_r87_0 : (SGx x).2.2.2 87 0 = 88 := rfl
theorem g_r87_1 : (SGx x).2.2.2 87 1 = 99 := rfl
theorem g_r87_2 : (SGx x).2.2.2 87 2 = 108 := rfl
theorem g_r87_3 : (SGx x).2.2.2 87 3 = 122 := rfl
theorem g_r87_4 : (SGx x).2.2.2 87 4 = 128 := rfl
theorem g_r87_5 : (SGx x).2.2.2 87 5 = 129 := rfl
theorem g_o88 : mj_isO (SGx x) 88 2 = true := rfl
theorem g_r88_0 : (SGx x).2.2.2 88 0 = 89 := rfl
theorem g_r88_1 : (SGx x).2.2.2 88 1 = 90 := rfl
theorem g_r88_2 : (SGx x).2.2.2 88 2 = 91 := rfl
theorem g_r88_3 : (SGx x).2.2.2 88 3 = 92 := rfl
theorem g_r88_4 : (SGx x).2.2.2 88 4 = 93 := rfl
theorem g_r88_5 : (SGx x).2.2.2 88 5 = 94 := rfl
theorem g_r88_6 : (SGx x).2.2.2 88 6 = 95 := rfl
theorem g_r88_7 : (SGx x).2.2.2 88 7 = 96 := rfl
theorem g_r88_8 : (SGx x).2.2.2 88 8 = 97 := rfl
theorem g_r88_9 : (SGx x).2.2.2 88 9 = 98 := rfl
theorem g_a89 : mj_ai (SGx x) M 89 = some 120 := rfl
theorem g_t89 : mj_ty (SGx x) .int 89 = some 120 := rfl
theorem g_a90 : mj_ai (SGx x) M 90 = some 120 := rfl
theorem g_t90 : mj_ty (SGx x) .int 90 = some 120 := rfl
theorem g_a91 : mj_ai (SGx x) M 91 = some 120 := rfl
theorem g_t91 : mj_ty (SGx x) .int 91 = some 120 := rfl
theorem g_a92 : mj_ai (SGx x) M 92 = some 120 := rfl
theorem g_t92 : mj_ty (SGx x) .int 92 = some 120 := rfl
theorem g_a93 : mj_ai (SGx x) M 93 = some 120 := rfl
theorem g_t93 : mj_ty (SGx x) .int 93 = some 120 := rfl
theorem g_a94 : mj_ai (SGx x) M 94 = some 120 := rfl
theorem g_t94 : mj_ty (SGx x) .int 94 = some 120 := rfl
theorem g_a95 : mj_ai (SGx x) M 95 = some 120 := rfl
theorem g_t95 : mj_ty (SGx x) .int 95 = some 120 := rfl
theorem g_a96 : mj_ai (SGx x) M 96 = some 120 := rfl
theorem g_t96 : mj_ty (SGx x) .int 96 = some 120 := rfl
theorem g_a97 : mj_ai (SGx x) M 97 = some 120 := rfl
theorem g_t97 : mj_ty (SGx x) .int 97 = some 120 := rfl
theorem g_a98 : mj_ai (SGx x) M 98 = some 120 := rfl
theorem g_t98 : mj_ty (SGx x) .int 98 = some 120 := rfl
theorem g_o99 : mj_isO (SGx x) 99 3 = true := rfl
theorem g_r99_0 : (SGx x).2.2.2 99 0 = 100 := rfl
theorem g_r99_1 : (SGx x).2.2.2 99 1 = 101 := rfl
theorem g_r99_2 : (SGx x).2.2.2 99 2 = 102 := rfl
theorem g_r99_3 : (SGx x).2.2.2 99 3 = 103 := rfl
theorem g_r99_4 : (SGx x).2.2.2 99 4 = 104 := rfl
theorem g_r99_5 : (SGx x).2.2.2 99 5 = 105 := rfl
theorem g_r99_6 : (SGx x).2.2.2 99 6 = 106 := rfl
theorem g_r99_7 : (SGx x).2.2.2 99 7 = 107 := rfl
theorem g_a100 : mj_ai (SGx x) M 100 = some 40 := rfl
theorem g_t100 : mj_ty (SGx x) .int 100 = some 40 := rfl
theorem g_a101 : mj_ai (SGx x) M 101 = some 40 := rfl
theorem g_t101 : mj_ty (SGx x) .int 101 = some 40 := rfl
theorem g_a102 : mj_ai (SGx x) M 102 = some 40 := rfl
theorem g_t102 : mj_ty (SGx x) .int 102 = some 40 := rfl
theorem g_a103 : mj_ai (SGx x) M 103 = some 40 := rfl
theorem g_t103 : mj_ty (SGx x) .int 103 = some 40 := rfl
theorem g_a104 : mj_ai (SGx x) M 104 = some 40 := rfl
theorem g_t104 : mj_ty (SGx x) .int 104 = some 40 := rfl
theorem g_a105 : mj_ai (SGx x) M 105 = some 40 := rfl
theorem g_t105 : mj_ty (SGx x) .int 105 = some 40 := rfl
theorem g_a106 : mj_ai (SGx x) M 106 = some 1200 := rfl
theorem g_t106 : mj_ty (SGx x) .int 106 = some 1200 := rfl
theorem g_a107 : mj_ai (SGx x) M 107 = some 1200 := rfl
theorem g_t107 : mj_ty (SGx x) .int 107 = some 1200 := rfl
theorem g_o108 : mj_isO (SGx x) 108 4 = true := rfl
theorem g_r108_0 : (SGx x).2.2.2 108 0 = 109 := rfl
theorem g_r108_1 : (SGx x).2.2.2 108 1 = 110 := rfl
theorem g_r108_2 : (SGx x).2.2.2 108 2 = 111 := rfl
theorem g_r108_3 : (SGx x).2.2.2 108 3 = 112 := rfl
theorem g_r108_4 : (SGx x).2.2.2 108 4 = 113 := rfl
theorem g_r108_5 : (SGx x).2.2.2 108 5 = 114 := rfl
theorem g_r108_6 : (SGx x).2.2.2 108 6 = 115 := rfl
theorem g_r108_7 : (SGx x).2.2.2 108 7 = 116 := rfl
theorem g_r108_8 : (SGx x).2.2.2 108 8 = 117 := rfl
theorem g_r108_9 : (SGx x).2.2.2 108 9 = 118 := rfl
theorem g_r108_10 : (SGx x).2.2.2 108 10 = 119 := rfl
theorem g_r108_11 : (SGx x).2.2.2 108 11 = 120 := rfl
theorem g_r108_12 : (SGx x).2.2.2 108 12 = 121 := rfl
theorem g_a109 : mj_ai (SGx x) M 109 = some 8 := rfl
theorem g_t109 : mj_ty (SGx x) .int 109 = some 8 := rfl
theorem g_a110 : mj_ai (SGx x) M 110 = some 8 := rfl
theorem g_t110 : mj_ty (SGx x) .int 110 = some 8 := rfl
theorem g_a111 : mj_ai (SGx x) M 111 = some 8 := rfl
theorem g_t111 : mj_ty (SGx x) .int 111 = some 8 := rfl
theorem g_a112 : mj_ai (SGx x) M 112 = some 8 := rfl
theorem g_t112 : mj_ty (SGx x) .int 112 = some 8 := rfl
theorem g_a113 : mj_ai (SGx x) M 113 = some 8 := rfl
theorem g_t113 : mj_ty (SGx x) .int 113 = some 8 := rfl
theorem g_a114 : mj_ai (SGx x) M 114 = some 8 := rfl
theorem g_t114 : mj_ty (SGx x) .int 114 = some 8 := rfl
theorem g_a115 : mj_ai (SGx x) M 115 = some 8 := rfl
theorem g_t115 : mj_ty (SGx x) .int 115 = some 8 := rfl
theorem g_a116 : mj_ai (SGx x) M 116 = some 8 := rfl
theorem g_t116 : mj_ty (SGx x) .int 116 = some 8 := rfl
theorem g_a117 : mj_ai (SGx x) M 117 = some 8 := rfl
theorem g_t117 : mj_ty (SGx x) .int 117 = some 8 := rfl
theorem g_a118 : mj_ai (SGx x) M 118 = some 8 := rfl
theorem g_t118 : mj_ty (SGx x) .int 118 = some 8 := rfl
theorem g_a119 : mj_ai (SGx x) M 119 = some 8 := rfl
theorem g_t119 : mj_ty (SGx x) .int 119 = some 8 := rfl
theorem g_a120 : mj_ai (SGx x) M 120 = some 8 := rfl
theorem g_t120 : mj_ty (SGx x) .int 120 = some 8 := rfl
theorem g_a121 : mj_ai (SGx x) M 121 = some 1280 := rfl
theorem g_t121 : mj_ty (SGx x) .int 121 = some 1280 := rfl
theorem g_o122 : mj_isO (SGx x) 122 5 = true := rfl
theorem g_r122_0 : (SGx x).2.2.2 122 0 = 123 := rfl
theorem g_r122_1 : (SGx x).2.2.2 122 1 = 124 := rfl
theorem g_r122_2 : (SGx x).2.2.2 122 2 = 125 := rfl
theorem g_r122_3 : (SGx x).2.2.2 122 3 = 126 := rfl
theorem g_r122_4 : (SGx x).2.2.2 122 4 = 127 := rfl
theorem g_a123 : mj_ai (SGx x) M 123 = some 20 := rfl
theorem g_t123 : mj_ty (SGx x) .int 123 = some 20 := rfl
theorem g_a124 : mj_ai (SGx x) M 124 = some 20 := rfl
theorem g_t124 : mj_ty (SGx x) .int 124 = some 20 := rfl
theorem g_a125 : mj_ai (SGx x) M 125 = some 20 := rfl
theorem g_t125 : mj_ty (SGx x) .int 125 = some 20 := rfl
theorem g_a126 : mj_ai (SGx x) M 126 = some 20 := rfl
theorem g_t126 : mj_ty (SGx x) .int 126 = some 20 := rfl
theorem g_a127 : mj_ai (SGx x) M 127 = some 20 := rfl
theorem g_t127 : mj_ty (SGx x) .int 127 = some 20 := rfl
theorem g_a128 : mj_ai (SGx x) M 128 = some 400 := rfl
theorem g_t128 : mj_ty (SGx x) .int 128 = some 400 := rfl
theorem g_a129 : mj_ai (SGx x) M 129 = some 16 := rfl
theorem g_t129 : mj_ty (SGx x) .int 129 = some 16 := rfl
theorem g_o130 : mj_isO (SGx x) 130 6 = true := rfl
theorem g_r130_0 : (SGx x).2.2.2 130 0 = 1 := rfl
theorem g_r130_1 : (SGx x).2.2.2 130 1 = 131 := rfl
theorem g_a131 : mj_ai (SGx x) M 131 = some 120 := rfl
theorem g_t131 : mj_ty (SGx x) .int 131 = some 120 := rfl
theorem g_o132 : mj_isO (SGx x) 132 7 = true := rfl
theorem g_r132_0 : (SGx x).2.2.2 132 0 = 1 := rfl
theorem g_r132_1 : (SGx x).2.2.2 132 1 = 130 := rfl
theorem g_o133 : mj_isO (SGx x) 133 8 = true := rfl
theorem g_r133_0 : (SGx x).2.2.2 133 0 = 1 := rfl
theorem g_r133_1 : (SGx x).2.2.2 133 1 = 22 := rfl
theorem g_r133_2 : (SGx x).2.2.2 133 2 = 130 := rfl
theorem g_r133_3 : (SGx x).2.2.2 133 3 = 132 := rfl
theorem g_o134 : mj_isO (SGx x) 134 9 = true := rfl
theorem g_r134_0 : (SGx x).2.2.2 134 0 = 1 := rfl
theorem g_r134_1 : (SGx x).2.2.2 134 1 = 87 := rfl
theorem g_r134_2 : (SGx x).2.2.2 134 2 = 133 := rfl
theorem g_r134_3 : (SGx x).2.2.2 134 3 = 135 := rfl
theorem g_t135 : mj_ty (SGx x) (.array .int) 135 = some 16 := rfl
theorem g_a136 : mj_ai (SGx x) M 136 = some 180 := rfl
theorem g_t136 : mj_ty (SGx x) .int 136 = some 180 := rfl
theorem g_a137 : mj_ai (SGx x) M 137 = some 180 := rfl
theorem g_t137 : mj_ty (SGx x) .int 137 = some 180 := rfl
theorem g_a138 : mj_ai (SGx x) M 138 = some 180 := rfl
theorem g_t138 : mj_ty (SGx x) .int 138 = some 180 := rfl
theorem g_a139 : mj_ai (SGx x) M 139 = some 180 := rfl
theorem g_t139 : mj_ty (SGx x) .int 139 = some 180 := rfl
theorem g_a140 : mj_ai (SGx x) M 140 = some 180 := rfl
theorem g_t140 : mj_ty (SGx x) .int 140 = some 180 := rfl
theorem g_a141 : mj_ai (SGx x) M 141 = some 180 := rfl
theorem g_t141 : mj_ty (SGx x) .int 141 = some 180 := rfl
theorem g_a142 : mj_ai (SGx x) M 142 = some 180 := rfl
theorem g_t142 : mj_ty (SGx x) .int 142 = some 180 := rfl
theorem g_a143 : mj_ai (SGx x) M 143 = some 180 := rfl
theorem g_t143 : mj_ty (SGx x) .int 143 = some 180 := rfl
theorem g_a144 : mj_ai (SGx x) M 144 = some 180 := rfl
theorem g_t144 : mj_ty (SGx x) .int 144 = some 180 := rfl
theorem g_a145 : mj_ai (SGx x) M 145 = some 180 := rfl
theorem g_t145 : mj_ty (SGx x) .int 145 = some 180 := rfl
theorem g_a146 : mj_ai (SGx x) M 146 = some 180 := rfl
theorem g_t146 : mj_ty (SGx x) .int 146 = some 180 := rfl
theorem g_a147 : mj_ai (SGx x) M 147 = some 180 := rfl
theorem g_t147 : mj_ty (SGx x) .int 147 = some 180 := rfl
theorem g_a148 : mj_ai (SGx x) M 148 = some 180 := rfl
theorem g_t148 : mj_ty (SGx x) .int 148 = some 180 := rfl
theorem g_a149 : mj_ai (SGx x) M 149 = some 180 := rfl
theorem g_t149 : mj_ty (SGx x) .int 149 = some 180 := rfl
theorem g_a150 : mj_ai (SGx x) M 150 = some 180 := rfl
theorem g_t150 : mj_ty (SGx x) .int 150 = some 180 := rfl
theorem g_a151 : mj_ai (SGx x) M 151 = some 180 := rfl
theorem g_t151 : mj_ty (SGx x) .int 151 = some 180 := rfl
theorem g_o152 : mj_isO (SGx x) 152 10 = true := rfl
theorem g_r152_0 : (SGx x).2.2.2 152 0 = 1 := rfl
theorem g_r152_1 : (SGx x).2.2.2 152 1 = 153 := rfl
theorem g_r152_2 : (SGx x).2.2.2 152 2 = 154 := rfl
theorem g_r152_3 : (SGx x).2.2.2 152 3 = 155 := rfl
theorem g_r152_4 : (SGx x).2.2.2 152 4 = 156 := rfl
theorem g_a153 : mj_ai (SGx x) M 153 = some 1600 := rfl
theorem g_t153 : mj_ty (SGx x) .int 153 = some 1600 := rfl
theorem g_a154 : mj_ai (SGx x) M 154 = some 1600 := rfl
theorem g_t154 : mj_ty (SGx x) .int 154 = some 1600 := rfl
theorem g_t155 : mj_ty (SGx x) (.long) 155 = some 40 := rfl
theorem g_t156 : mj_ty (SGx x) (.long) 156 = some 40 := rfl
theorem g_o157 : mj_isO (SGx x) 157 11 = true := rfl
theorem g_r157_0 : (SGx x).2.2.2 157 0 = 1 := rfl
theorem g_r157_1 : (SGx x).2.2.2 157 1 = 158 := rfl
theorem g_r157_2 : (SGx x).2.2.2 157 2 = 159 := rfl
theorem g_r157_3 : (SGx x).2.2.2 157 3 = 160 := rfl
theorem g_r157_4 : (SGx x).2.2.2 157 4 = 161 := rfl
theorem g_r157_5 : (SGx x).2.2.2 157 5 = x := rfl
theorem g_a158 : mj_ai (SGx x) M 158 = some 160 := rfl
theorem g_t158 : mj_ty (SGx x) .int 158 = some 160 := rfl
theorem g_a159 : mj_ai (SGx x) M 159 = some 160 := rfl
theorem g_t159 : mj_ty (SGx x) .int 159 = some 160 := rfl
theorem g_a160 : mj_ai (SGx x) M 160 = some 160 := rfl
theorem g_t160 : mj_ty (SGx x) .int 160 = some 160 := rfl
theorem g_a161 : mj_ai (SGx x) M 161 = some 160 := rfl
theorem g_t161 : mj_ty (SGx x) .int 161 = some 160 := rfl
theorem g_a162 : mj_ai (SGx x) M 162 = some 0 := rfl
theorem g_t162 : mj_ty (SGx x) .int 162 = some 0 := rfl
theorem g_t163 : mj_ty (SGx x) (.array .int) 163 = some 4 := rfl
theorem g_a164 : mj_ai (SGx x) M 164 = some 160 := rfl
theorem g_t164 : mj_ty (SGx x) .int 164 = some 160 := rfl
theorem g_a165 : mj_ai (SGx x) M 165 = some 160 := rfl
theorem g_t165 : mj_ty (SGx x) .int 165 = some 160 := rfl
theorem g_a166 : mj_ai (SGx x) M 166 = some 160 := rfl
theorem g_t166 : mj_ty (SGx x) .int 166 = some 160 := rfl
theorem g_a167 : mj_ai (SGx x) M 167 = some 160 := rfl
theorem g_t167 : mj_ty (SGx x) .int 167 = some 160 := rfl
theorem g_a168 : mj_ai (SGx x) M 168 = some 4 := rfl
theorem g_t168 : mj_ty (SGx x) .int 168 = some 4 := rfl
theorem g_a169 : mj_ai (SGx x) M 169 = some 60 := rfl
theorem g_t169 : mj_ty (SGx x) .int 169 = some 60 := rfl
theorem g_a170 : mj_ai (SGx x) M 170 = some 160 := rfl
theorem g_t170 : mj_ty (SGx x) .int 170 = some 160 := rfl
theorem g_a171 : mj_ai (SGx x) M 171 = some 9 := rfl
theorem g_t171 : mj_ty (SGx x) .int 171 = some 9 := rfl
theorem g_o172 : mj_isO (SGx x) 172 12 = true := rfl
theorem g_r172_1 : (SGx x).2.2.2 172 1 = 173 := rfl
theorem g_r172_2 : (SGx x).2.2.2 172 2 = 174 := rfl
theorem g_r172_4 : (SGx x).2.2.2 172 4 = 175 := rfl
theorem g_r172_5 : (SGx x).2.2.2 172 5 = 176 := rfl
theorem g_r172_6 : (SGx x).2.2.2 172 6 = 177 := rfl
theorem g_r172_7 : (SGx x).2.2.2 172 7 = 178 := rfl
theorem g_r172_8 : (SGx x).2.2.2 172 8 = 179 := rfl
theorem g_r172_16 : (SGx x).2.2.2 172 16 = 180 := rfl
theorem g_r172_18 : (SGx x).2.2.2 172 18 = 181 := rfl
theorem g_r172_19 : (SGx x).2.2.2 172 19 = 182 := rfl
theorem g_r172_20 : (SGx x).2.2.2 172 20 = 183 := rfl
theorem g_r172_21 : (SGx x).2.2.2 172 21 = 184 := rfl
theorem g_a173 : mj_ai (SGx x) M 173 = some 6172 := rfl
theorem g_t173 : mj_ty (SGx x) .int 173 = some 6172 := rfl
theorem g_a174 : mj_ai (SGx x) M 174 = some 9 := rfl
theorem g_t174 : mj_ty (SGx x) .int 174 = some 9 := rfl
theorem g_a175 : mj_ai (SGx x) M 175 = some 6172 := rfl
theorem g_t175 : mj_ty (SGx x) .int 175 = some 6172 := rfl
theorem g_a176 : mj_ai (SGx x) M 176 = some 3840 := rfl
theorem g_t176 : mj_ty (SGx x) .int 176 = some 3840 := rfl
theorem g_a177 : mj_ai (SGx x) M 177 = some 1600 := rfl
theorem g_t177 : mj_ty (SGx x) .int 177 = some 1600 := rfl
theorem g_a178 : mj_ai (SGx x) M 178 = some 1600 := rfl
theorem g_t178 : mj_ty (SGx x) .int 178 = some 1600 := rfl
theorem g_a179 : mj_ai (SGx x) M 179 = some 160 := rfl
theorem g_t179 : mj_ty (SGx x) .int 179 = some 160 := rfl
theorem g_a180 : mj_ai (SGx x) M 180 = some 6172 := rfl
theorem g_t180 : mj_ty (SGx x) .int 180 = some 6172 := rfl
theorem g_t181 : mj_ty (SGx x) (.boolean) 181 = some 4 := rfl
theorem g_a182 : mj_ai (SGx x) M 182 = some 4 := rfl
theorem g_t182 : mj_ty (SGx x) .int 182 = some 4 := rfl
theorem g_a183 : mj_ai (SGx x) M 183 = some 640 := rfl
theorem g_t183 : mj_ty (SGx x) .int 183 = some 640 := rfl
theorem g_a184 : mj_ai (SGx x) M 184 = some 60 := rfl
theorem g_t184 : mj_ty (SGx x) .int 184 = some 60 := rfl
theorem g_p : mj_ai (SGx x) M 9001 = some 6 := rfl
end sg
