/-- kinds of calls, texts -/
def mj_sem2 (k : Nat) : Instr → Bool
  | .invokevirtual idx => decide (((mj_pool (mj_oc k) idx).2 = 0 ∨ (mj_pool (mj_oc k) idx).2 = 5 ∨ (mj_pool (mj_oc k) idx).2 = 6) ∧ (mj_pool (mj_oc k) idx).1 < 287)
  | .invokestatic idx => decide (((mj_pool (mj_oc k) idx).2 = 1 ∨ (mj_pool (mj_oc k) idx).2 = 4) ∧ (mj_pool (mj_oc k) idx).1 < 287)
  | .invokespecial idx => decide (((mj_pool (mj_oc k) idx).2 = 2 ∨ (mj_pool (mj_oc k) idx).2 = 3 ∨ (mj_pool (mj_oc k) idx).2 = 9) ∧ (mj_pool (mj_oc k) idx).1 < 287)
  | .ldc idx => decide (mj_oc k = 11 ∧ (idx, (mj_pool (mj_oc k) idx).1) ∈ [(52, 0), (58, 1), (60, 2), (88, 3)])
  | _ => true
def mj_mck (k : Nat) (b : ByteArray) : Nat → List (Instr × Nat) → Bool
  | _, [] => true
  | pc, (i, n) :: t => decide (decode b pc = .ok (i, n)) && (mj_sem k pc i n && mj_sem2 k i) && mj_mck k b (pc + n) t
def mj_lens : List (Instr × Nat) → Nat
  | [] => 0
  | (_, n) :: t => n + mj_lens t
theorem mj_mck_app {k : Nat} {b : ByteArray} : ∀ (l1 l2 : List (Instr × Nat)) (pc : Nat), mj_mck k b pc l1 = true → mj_mck k b (pc + mj_lens l1) l2 = true → mj_mck k b pc (l1 ++ l2) = true := by
  intro l1
  induction l1 with
  | nil => intro l2 pc _ h; exact h
  | cons q t ih =>
    obtain ⟨i, n⟩ := q
    intro l2 pc h1 h2
    unfold mj_mck at h1
    rw [Bool.and_eq_true] at h1
    show (decide (decode b pc = .ok (i, n)) && (mj_sem k pc i n && mj_sem2 k i) && mj_mck k b (pc + n) (t ++ l2)) = true
    rw [Bool.and_eq_true]
    refine ⟨h1.1, ih l2 (pc + n) h1.2 ?_⟩
    have : pc + mj_lens ((i, n) :: t) = pc + n + mj_lens t := by show pc + (n + mj_lens t) = _; omega
    rw [← this]; exact h2
theorem mj_mck_cut {k : Nat} {b : ByteArray} {l : List (Instr × Nat)} {pc pc' : Nat} (m : Nat) (h1 : mj_mck k b pc (l.take m) = true) (hp : pc + mj_lens (l.take m) = pc') (h2 : mj_mck k b pc' (l.drop m) = true) : mj_mck k b pc l = true := by
  have := mj_mck_app (l.take m) (l.drop m) pc h1 (by rw [hp]; exact h2)
  rwa [List.take_append_drop] at this
theorem mj_mck_cut2 {k : Nat} {b : ByteArray} {l : List (Instr × Nat)} {pc pc' j : Nat} (m : Nat) (h1 : mj_mck k b pc ((l.drop j).take m) = true) (hp : pc + mj_lens ((l.drop j).take m) = pc') (h2 : mj_mck k b pc' (l.drop (j + m)) = true) : mj_mck k b pc (l.drop j) = true := by
  refine mj_mck_cut m h1 hp ?_
  rw [List.drop_drop]
  exact h2
theorem mk_0 : mj_mck 0 prog_1_method_1_code 0 mc_0 = true := by decide +kernel
theorem mk_1 : mj_mck 1 prog_7_method_1_code 0 mc_1 = true := by decide +kernel
theorem mk_2 : mj_mck 2 prog_9_method_1_code 0 mc_2 = true := by decide +kernel
theorem mk_3 : mj_mck 3 prog_20_method_103_code 0 mc_3 = true := by decide +kernel
theorem mk_4 : mj_mck 4 prog_8_method_1_code 0 mc_4 = true := by decide +kernel
theorem mk_5 : mj_mck 5 prog_5_method_1_code 0 mc_5 = true := by decide +kernel
theorem mk_6 : mj_mck 6 prog_12_method_1_code 0 mc_6 = true := by decide +kernel
theorem mk_7 : mj_mck 7 prog_3_method_1_code 0 mc_7 = true := by decide +kernel
theorem mk_8 : mj_mck 8 prog_2_method_1_code 0 mc_8 = true := by decide +kernel
theorem mk_9 : mj_mck 9 prog_11_method_1_code 0 mc_9 = true := by decide +kernel
theorem mk_10 : mj_mck 10 prog_10_method_1_code 0 mc_10 = true := by decide +kernel
theorem mk_11 : mj_mck 11 prog_4_method_1_code 0 mc_11 = true := by decide +kernel
theorem mk_12 : mj_mck 12 prog_6_method_1_code 0 mc_12 = true := by decide +kernel
theorem mk_13 : mj_mck 13 prog_7_method_3_code 0 mc_13 = true := by decide +kernel
theorem mk_14 : mj_mck 14 prog_8_method_8_code 0 mc_14 = true := by decide +kernel
theorem mk_15 : mj_mck 15 prog_7_method_11_code 0 mc_15 = true := by decide +kernel
theorem mk_16 : mj_mck 16 prog_9_method_4_code 0 mc_16 = true := by decide +kernel
theorem mk_17 : mj_mck 17 prog_7_method_5_code 0 mc_17 = true := by decide +kernel
theorem mk_18 : mj_mck 18 prog_1_method_2_code 0 mc_18 = true := by decide +kernel
theorem mk_19 : mj_mck 19 prog_7_method_4_code 0 mc_19 = true := by decide +kernel
theorem mk_20 : mj_mck 20 prog_8_method_4_code 0 mc_20 = true := by decide +kernel
theorem mk_21 : mj_mck 21 prog_1_method_41_code 0 mc_21 = true := by decide +kernel
theorem mk_22 : mj_mck 22 prog_2_method_2_code 0 mc_22 = true := by decide +kernel
theorem mk_23_0 : mj_mck 23 prog_2_method_3_code 0 ((mc_23.drop 0).take 60) = true := by decide +kernel
theorem mk_23_1 : mj_mck 23 prog_2_method_3_code 180 ((mc_23.drop 60).take 60) = true := by decide +kernel
theorem mk_23_2 : mj_mck 23 prog_2_method_3_code 301 ((mc_23.drop 120).take 60) = true := by decide +kernel
theorem mk_23 : mj_mck 23 prog_2_method_3_code 0 mc_23 = true := (mj_mck_cut2 (j := 0) (pc' := 180) 60 mk_23_0 (by decide +kernel) (mj_mck_cut2 (j := 60) (pc' := 301) 60 mk_23_1 (by decide +kernel) (mj_mck_cut2 (j := 120) (pc' := 341) 60 mk_23_2 (by decide +kernel) (by decide +kernel))))
theorem mk_24 : mj_mck 24 prog_7_method_6_code 0 mc_24 = true := by decide +kernel
theorem mk_25 : mj_mck 25 prog_7_method_12_code 0 mc_25 = true := by decide +kernel
theorem mk_26 : mj_mck 26 prog_7_method_8_code 0 mc_26 = true := by decide +kernel
theorem mk_27 : mj_mck 27 prog_7_method_7_code 0 mc_27 = true := by decide +kernel
theorem mk_28 : mj_mck 28 prog_2_method_8_code 0 mc_28 = true := by decide +kernel
theorem mk_29 : mj_mck 29 prog_2_method_7_code 0 mc_29 = true := by decide +kernel
theorem mk_30 : mj_mck 30 prog_2_method_9_code 0 mc_30 = true := by decide +kernel
theorem mk_31 : mj_mck 31 prog_8_method_6_code 0 mc_31 = true := by decide +kernel
theorem mk_32 : mj_mck 32 prog_2_method_10_code 0 mc_32 = true := by decide +kernel
theorem mk_33 : mj_mck 33 prog_3_method_3_code 0 mc_33 = true := by decide +kernel
theorem mk_34 : mj_mck 34 prog_3_method_2_code 0 mc_34 = true := by decide +kernel
theorem mk_35 : mj_mck 35 prog_2_method_11_code 0 mc_35 = true := by decide +kernel
theorem mk_36 : mj_mck 36 prog_2_method_12_code 0 mc_36 = true := by decide +kernel
theorem mk_37 : mj_mck 37 prog_9_method_10_code 0 mc_37 = true := by decide +kernel
theorem mk_38 : mj_mck 38 prog_9_method_5_code 0 mc_38 = true := by decide +kernel
theorem mk_39 : mj_mck 39 prog_2_method_13_code 0 mc_39 = true := by decide +kernel
theorem mk_40 : mj_mck 40 prog_7_method_9_code 0 mc_40 = true := by decide +kernel
theorem mk_41 : mj_mck 41 prog_2_method_14_code 0 mc_41 = true := by decide +kernel
theorem mk_42 : mj_mck 42 prog_3_method_6_code 0 mc_42 = true := by decide +kernel
theorem mk_43 : mj_mck 43 prog_3_method_7_code 0 mc_43 = true := by decide +kernel
theorem mk_44 : mj_mck 44 prog_3_method_8_code 0 mc_44 = true := by decide +kernel
theorem mk_45 : mj_mck 45 prog_3_method_10_code 0 mc_45 = true := by decide +kernel
theorem mk_46 : mj_mck 46 prog_3_method_9_code 0 mc_46 = true := by decide +kernel
theorem mk_47 : mj_mck 47 prog_3_method_11_code 0 mc_47 = true := by decide +kernel
theorem mk_48 : mj_mck 48 prog_3_method_12_code 0 mc_48 = true := by decide +kernel
theorem mk_49 : mj_mck 49 prog_8_method_9_code 0 mc_49 = true := by decide +kernel
theorem mk_50 : mj_mck 50 prog_9_method_8_code 0 mc_50 = true := by decide +kernel
theorem mk_51 : mj_mck 51 prog_3_method_13_code 0 mc_51 = true := by decide +kernel
theorem mk_52 : mj_mck 52 prog_9_method_11_code 0 mc_52 = true := by decide +kernel
theorem mk_53 : mj_mck 53 prog_12_method_4_code 0 mc_53 = true := by decide +kernel
theorem mk_54 : mj_mck 54 prog_5_method_9_code 0 mc_54 = true := by decide +kernel
theorem mk_55 : mj_mck 55 prog_5_method_8_code 0 mc_55 = true := by decide +kernel
theorem mk_56 : mj_mck 56 prog_5_method_7_code 0 mc_56 = true := by decide +kernel
theorem mk_57 : mj_mck 57 prog_3_method_14_code 0 mc_57 = true := by decide +kernel
theorem mk_58 : mj_mck 58 prog_5_method_10_code 0 mc_58 = true := by decide +kernel
theorem mk_59 : mj_mck 59 prog_1_method_3_code 0 mc_59 = true := by decide +kernel
theorem mk_60 : mj_mck 60 prog_1_method_42_code 0 mc_60 = true := by decide +kernel
theorem mk_61 : mj_mck 61 prog_2_method_4_code 0 mc_61 = true := by decide +kernel
theorem mk_62 : mj_mck 62 prog_8_method_10_code 0 mc_62 = true := by decide +kernel
theorem mk_63 : mj_mck 63 prog_1_method_4_code 0 mc_63 = true := by decide +kernel
theorem mk_64 : mj_mck 64 prog_2_method_5_code 0 mc_64 = true := by decide +kernel
theorem mk_65 : mj_mck 65 prog_8_method_11_code 0 mc_65 = true := by decide +kernel
theorem mk_66 : mj_mck 66 prog_1_method_5_code 0 mc_66 = true := by decide +kernel
theorem mk_67 : mj_mck 67 prog_8_method_3_code 0 mc_67 = true := by decide +kernel
theorem mk_68 : mj_mck 68 prog_1_method_6_code 0 mc_68 = true := by decide +kernel
theorem mk_69 : mj_mck 69 prog_15_method_69_code 0 mc_69 = true := by decide +kernel
theorem mk_70 : mj_mck 70 prog_1_method_7_code 0 mc_70 = true := by decide +kernel
theorem mk_71 : mj_mck 71 prog_9_method_3_code 0 mc_71 = true := by decide +kernel
theorem mk_72 : mj_mck 72 prog_1_method_8_code 0 mc_72 = true := by decide +kernel
theorem mk_73 : mj_mck 73 prog_1_method_9_code 0 mc_73 = true := by decide +kernel
theorem mk_74 : mj_mck 74 prog_9_method_9_code 0 mc_74 = true := by decide +kernel
theorem mk_75 : mj_mck 75 prog_1_method_10_code 0 mc_75 = true := by decide +kernel
theorem mk_76 : mj_mck 76 prog_1_method_11_code 0 mc_76 = true := by decide +kernel
theorem mk_77 : mj_mck 77 prog_1_method_43_code 0 mc_77 = true := by decide +kernel
theorem mk_78 : mj_mck 78 prog_5_method_5_code 0 mc_78 = true := by decide +kernel
theorem mk_79 : mj_mck 79 prog_1_method_12_code 0 mc_79 = true := by decide +kernel
theorem mk_80 : mj_mck 80 prog_5_method_3_code 0 mc_80 = true := by decide +kernel
theorem mk_81 : mj_mck 81 prog_2_method_6_code 0 mc_81 = true := by decide +kernel
theorem mk_82 : mj_mck 82 prog_7_method_10_code 0 mc_82 = true := by decide +kernel
theorem mk_83 : mj_mck 83 prog_8_method_5_code 0 mc_83 = true := by decide +kernel
theorem mk_84 : mj_mck 84 prog_1_method_13_code 0 mc_84 = true := by decide +kernel
theorem mk_85 : mj_mck 85 prog_1_method_14_code 0 mc_85 = true := by decide +kernel
theorem mk_86 : mj_mck 86 prog_1_method_15_code 0 mc_86 = true := by decide +kernel
theorem mk_87 : mj_mck 87 prog_1_method_16_code 0 mc_87 = true := by decide +kernel
theorem mk_88 : mj_mck 88 prog_1_method_17_code 0 mc_88 = true := by decide +kernel
theorem mk_89 : mj_mck 89 prog_1_method_44_code 0 mc_89 = true := by decide +kernel
theorem mk_90 : mj_mck 90 prog_1_method_18_code 0 mc_90 = true := by decide +kernel
theorem mk_91 : mj_mck 91 prog_1_method_19_code 0 mc_91 = true := by decide +kernel
theorem mk_92 : mj_mck 92 prog_1_method_20_code 0 mc_92 = true := by decide +kernel
theorem mk_93 : mj_mck 93 prog_11_method_2_code 0 mc_93 = true := by decide +kernel
theorem mk_94 : mj_mck 94 prog_3_method_5_code 0 mc_94 = true := by decide +kernel
theorem mk_95 : mj_mck 95 prog_11_method_3_code 0 mc_95 = true := by decide +kernel
theorem mk_96 : mj_mck 96 prog_5_method_4_code 0 mc_96 = true := by decide +kernel
theorem mk_97 : mj_mck 97 prog_11_method_4_code 0 mc_97 = true := by decide +kernel
theorem mk_98 : mj_mck 98 prog_11_method_5_code 0 mc_98 = true := by decide +kernel
theorem mk_99 : mj_mck 99 prog_11_method_7_code 0 mc_99 = true := by decide +kernel
theorem mk_100 : mj_mck 100 prog_11_method_6_code 0 mc_100 = true := by decide +kernel
theorem mk_101 : mj_mck 101 prog_11_method_9_code 0 mc_101 = true := by decide +kernel
theorem mk_102 : mj_mck 102 prog_11_method_10_code 0 mc_102 = true := by decide +kernel
theorem mk_103 : mj_mck 103 prog_11_method_11_code 0 mc_103 = true := by decide +kernel
theorem mk_104 : mj_mck 104 prog_5_method_11_code 0 mc_104 = true := by decide +kernel
theorem mk_105 : mj_mck 105 prog_11_method_14_code 0 mc_105 = true := by decide +kernel
theorem mk_106 : mj_mck 106 prog_5_method_6_code 0 mc_106 = true := by decide +kernel
theorem mk_107_0 : mj_mck 107 prog_11_method_12_code 0 ((mc_107.drop 0).take 60) = true := by decide +kernel
theorem mk_107_1 : mj_mck 107 prog_11_method_12_code 119 ((mc_107.drop 60).take 60) = true := by decide +kernel
theorem mk_107 : mj_mck 107 prog_11_method_12_code 0 mc_107 = true := (mj_mck_cut2 (j := 0) (pc' := 119) 60 mk_107_0 (by decide +kernel) (mj_mck_cut2 (j := 60) (pc' := 229) 60 mk_107_1 (by decide +kernel) (by decide +kernel)))
theorem mk_108 : mj_mck 108 prog_5_method_12_code 0 mc_108 = true := by decide +kernel
theorem mk_109 : mj_mck 109 prog_11_method_15_code 0 mc_109 = true := by decide +kernel
theorem mk_110 : mj_mck 110 prog_11_method_13_code 0 mc_110 = true := by decide +kernel
theorem mk_111 : mj_mck 111 prog_3_method_4_code 0 mc_111 = true := by decide +kernel
theorem mk_112_0 : mj_mck 112 prog_11_method_8_code 0 ((mc_112.drop 0).take 60) = true := by decide +kernel
theorem mk_112_1 : mj_mck 112 prog_11_method_8_code 140 ((mc_112.drop 60).take 60) = true := by decide +kernel
theorem mk_112_2 : mj_mck 112 prog_11_method_8_code 260 ((mc_112.drop 120).take 60) = true := by decide +kernel
theorem mk_112 : mj_mck 112 prog_11_method_8_code 0 mc_112 = true := (mj_mck_cut2 (j := 0) (pc' := 140) 60 mk_112_0 (by decide +kernel) (mj_mck_cut2 (j := 60) (pc' := 260) 60 mk_112_1 (by decide +kernel) (mj_mck_cut2 (j := 120) (pc' := 288) 60 mk_112_2 (by decide +kernel) (by decide +kernel))))
theorem mk_113 : mj_mck 113 prog_1_method_21_code 0 mc_113 = true := by decide +kernel
theorem mk_114 : mj_mck 114 prog_10_method_2_code 0 mc_114 = true := by decide +kernel
theorem mk_115 : mj_mck 115 prog_7_method_2_code 0 mc_115 = true := by decide +kernel
theorem mk_116 : mj_mck 116 prog_9_method_2_code 0 mc_116 = true := by decide +kernel
theorem mk_117 : mj_mck 117 prog_8_method_2_code 0 mc_117 = true := by decide +kernel
theorem mk_118 : mj_mck 118 prog_5_method_2_code 0 mc_118 = true := by decide +kernel
theorem mk_119 : mj_mck 119 prog_12_method_2_code 0 mc_119 = true := by decide +kernel
theorem mk_120 : mj_mck 120 prog_10_method_3_code 0 mc_120 = true := by decide +kernel
theorem mk_121 : mj_mck 121 prog_10_method_4_code 0 mc_121 = true := by decide +kernel
theorem mk_122 : mj_mck 122 prog_10_method_5_code 0 mc_122 = true := by decide +kernel
theorem mk_123 : mj_mck 123 prog_1_method_22_code 0 mc_123 = true := by decide +kernel
theorem mk_124 : mj_mck 124 prog_10_method_6_code 0 mc_124 = true := by decide +kernel
theorem mk_125 : mj_mck 125 prog_1_method_23_code 0 mc_125 = true := by decide +kernel
theorem mk_126 : mj_mck 126 prog_10_method_7_code 0 mc_126 = true := by decide +kernel
theorem mk_127 : mj_mck 127 prog_1_method_24_code 0 mc_127 = true := by decide +kernel
theorem mk_128 : mj_mck 128 prog_4_method_2_code 0 mc_128 = true := by decide +kernel
theorem mk_129 : mj_mck 129 prog_4_method_6_code 0 mc_129 = true := by decide +kernel
theorem mk_130 : mj_mck 130 prog_4_method_7_code 0 mc_130 = true := by decide +kernel
theorem mk_131 : mj_mck 131 prog_4_method_8_code 0 mc_131 = true := by decide +kernel
theorem mk_132 : mj_mck 132 prog_4_method_9_code 0 mc_132 = true := by decide +kernel
theorem mk_133 : mj_mck 133 prog_4_method_10_code 0 mc_133 = true := by decide +kernel
theorem mk_134 : mj_mck 134 prog_4_method_11_code 0 mc_134 = true := by decide +kernel
theorem mk_135 : mj_mck 135 prog_4_method_12_code 0 mc_135 = true := by decide +kernel
theorem mk_136 : mj_mck 136 prog_1_method_25_code 0 mc_136 = true := by decide +kernel
theorem mk_137 : mj_mck 137 prog_4_method_3_code 0 mc_137 = true := by decide +kernel
theorem mk_138 : mj_mck 138 prog_1_method_26_code 0 mc_138 = true := by decide +kernel
theorem mk_139 : mj_mck 139 prog_4_method_4_code 0 mc_139 = true := by decide +kernel
theorem mk_140 : mj_mck 140 prog_4_method_5_code 0 mc_140 = true := by decide +kernel
theorem mk_141 : mj_mck 141 prog_1_method_27_code 0 mc_141 = true := by decide +kernel
theorem mk_142 : mj_mck 142 prog_1_method_28_code 0 mc_142 = true := by decide +kernel
theorem mk_143 : mj_mck 143 prog_1_method_29_code 0 mc_143 = true := by decide +kernel
theorem mk_144 : mj_mck 144 prog_6_method_2_code 0 mc_144 = true := by decide +kernel
theorem mk_145 : mj_mck 145 prog_6_method_3_code 0 mc_145 = true := by decide +kernel
theorem mk_146 : mj_mck 146 prog_6_method_5_code 0 mc_146 = true := by decide +kernel
theorem mk_147 : mj_mck 147 prog_6_method_4_code 0 mc_147 = true := by decide +kernel
theorem mk_148 : mj_mck 148 prog_6_method_6_code 0 mc_148 = true := by decide +kernel
theorem mk_149 : mj_mck 149 prog_6_method_8_code 0 mc_149 = true := by decide +kernel
theorem mk_150 : mj_mck 150 prog_6_method_7_code 0 mc_150 = true := by decide +kernel
theorem mk_151 : mj_mck 151 prog_6_method_9_code 0 mc_151 = true := by decide +kernel
theorem mk_152 : mj_mck 152 prog_6_method_10_code 0 mc_152 = true := by decide +kernel
theorem mk_153 : mj_mck 153 prog_6_method_11_code 0 mc_153 = true := by decide +kernel
theorem mk_154 : mj_mck 154 prog_6_method_12_code 0 mc_154 = true := by decide +kernel
theorem mk_155 : mj_mck 155 prog_12_method_3_code 0 mc_155 = true := by decide +kernel
theorem mk_156 : mj_mck 156 prog_1_method_30_code 0 mc_156 = true := by decide +kernel
theorem mk_157 : mj_mck 157 prog_8_method_7_code 0 mc_157 = true := by decide +kernel
theorem mk_158 : mj_mck 158 prog_9_method_6_code 0 mc_158 = true := by decide +kernel
theorem mk_159 : mj_mck 159 prog_9_method_7_code 0 mc_159 = true := by decide +kernel
theorem mk_160 : mj_mck 160 prog_1_method_31_code 0 mc_160 = true := by decide +kernel
theorem mk_161 : mj_mck 161 prog_1_method_32_code 0 mc_161 = true := by decide +kernel
theorem mk_162 : mj_mck 162 prog_1_method_33_code 0 mc_162 = true := by decide +kernel
theorem mk_163 : mj_mck 163 prog_1_method_34_code 0 mc_163 = true := by decide +kernel
theorem mk_164 : mj_mck 164 prog_1_method_35_code 0 mc_164 = true := by decide +kernel
theorem mk_165 : mj_mck 165 prog_1_method_36_code 0 mc_165 = true := by decide +kernel
theorem mk_166 : mj_mck 166 prog_1_method_37_code 0 mc_166 = true := by decide +kernel
theorem mk_167 : mj_mck 167 prog_1_method_38_code 0 mc_167 = true := by decide +kernel
theorem mk_168 : mj_mck 168 prog_1_method_39_code 0 mc_168 = true := by decide +kernel
theorem mk_169 : mj_mck 169 prog_1_method_40_code 0 mc_169 = true := by decide +kernel
theorem mk_170 : mj_mck 170 prog_14_method_3_code 0 mc_170 = true := by decide +kernel
theorem mk_171 : mj_mck 171 prog_14_method_18_code 0 mc_171 = true := by decide +kernel
theorem mk_172 : mj_mck 172 prog_14_method_16_code 0 mc_172 = true := by decide +kernel
theorem mk_173 : mj_mck 173 prog_14_method_7_code 0 mc_173 = true := by decide +kernel
theorem mk_174 : mj_mck 174 prog_14_method_19_code 0 mc_174 = true := by decide +kernel
theorem mk_175 : mj_mck 175 prog_14_method_17_code 0 mc_175 = true := by decide +kernel
theorem mk_176 : mj_mck 176 prog_14_method_8_code 0 mc_176 = true := by decide +kernel
theorem mk_177 : mj_mck 177 prog_14_method_6_code 0 mc_177 = true := by decide +kernel
theorem mk_178 : mj_mck 178 prog_14_method_2_code 0 mc_178 = true := by decide +kernel
theorem mk_179 : mj_mck 179 prog_14_method_4_code 0 mc_179 = true := by decide +kernel
theorem mk_180 : mj_mck 180 prog_14_method_51_code 0 mc_180 = true := by decide +kernel
theorem mk_181 : mj_mck 181 prog_14_method_11_code 0 mc_181 = true := by decide +kernel
theorem mk_182 : mj_mck 182 prog_14_method_10_code 0 mc_182 = true := by decide +kernel
theorem mk_183 : mj_mck 183 prog_14_method_50_code 0 mc_183 = true := by decide +kernel
theorem mk_184 : mj_mck 184 prog_14_method_37_code 0 mc_184 = true := by decide +kernel
theorem mk_185 : mj_mck 185 prog_14_method_23_code 0 mc_185 = true := by decide +kernel
theorem mk_186 : mj_mck 186 prog_14_method_22_code 0 mc_186 = true := by decide +kernel
theorem mk_187 : mj_mck 187 prog_14_method_14_code 0 mc_187 = true := by decide +kernel
theorem mk_188 : mj_mck 188 prog_14_method_20_code 0 mc_188 = true := by decide +kernel
theorem mk_189 : mj_mck 189 prog_14_method_21_code 0 mc_189 = true := by decide +kernel
theorem mk_190 : mj_mck 190 prog_14_method_38_code 0 mc_190 = true := by decide +kernel
theorem mk_191 : mj_mck 191 prog_14_method_39_code 0 mc_191 = true := by decide +kernel
theorem mk_192 : mj_mck 192 prog_14_method_15_code 0 mc_192 = true := by decide +kernel
theorem mk_193 : mj_mck 193 prog_14_method_40_code 0 mc_193 = true := by decide +kernel
theorem mk_194 : mj_mck 194 prog_14_method_32_code 0 mc_194 = true := by decide +kernel
theorem mk_195 : mj_mck 195 prog_14_method_31_code 0 mc_195 = true := by decide +kernel
theorem mk_196 : mj_mck 196 prog_14_method_29_code 0 mc_196 = true := by decide +kernel
theorem mk_197 : mj_mck 197 prog_14_method_30_code 0 mc_197 = true := by decide +kernel
theorem mk_198_0 : mj_mck 198 prog_14_method_26_code 0 ((mc_198.drop 0).take 60) = true := by decide +kernel
theorem mk_198_1 : mj_mck 198 prog_14_method_26_code 99 ((mc_198.drop 60).take 60) = true := by decide +kernel
theorem mk_198 : mj_mck 198 prog_14_method_26_code 0 mc_198 = true := (mj_mck_cut2 (j := 0) (pc' := 99) 60 mk_198_0 (by decide +kernel) (mj_mck_cut2 (j := 60) (pc' := 187) 60 mk_198_1 (by decide +kernel) (by decide +kernel)))
theorem mk_199 : mj_mck 199 prog_14_method_27_code 0 mc_199 = true := by decide +kernel
theorem mk_200_0 : mj_mck 200 prog_14_method_28_code 0 ((mc_200.drop 0).take 60) = true := by decide +kernel
theorem mk_200_1 : mj_mck 200 prog_14_method_28_code 93 ((mc_200.drop 60).take 60) = true := by decide +kernel
theorem mk_200_2 : mj_mck 200 prog_14_method_28_code 201 ((mc_200.drop 120).take 60) = true := by decide +kernel
theorem mk_200 : mj_mck 200 prog_14_method_28_code 0 mc_200 = true := (mj_mck_cut2 (j := 0) (pc' := 93) 60 mk_200_0 (by decide +kernel) (mj_mck_cut2 (j := 60) (pc' := 201) 60 mk_200_1 (by decide +kernel) (mj_mck_cut2 (j := 120) (pc' := 301) 60 mk_200_2 (by decide +kernel) (by decide +kernel))))
theorem mk_201 : mj_mck 201 prog_14_method_9_code 0 mc_201 = true := by decide +kernel
theorem mk_202 : mj_mck 202 prog_14_method_33_code 0 mc_202 = true := by decide +kernel
theorem mk_203 : mj_mck 203 prog_14_method_34_code 0 mc_203 = true := by decide +kernel
theorem mk_204 : mj_mck 204 prog_14_method_41_code 0 mc_204 = true := by decide +kernel
theorem mk_205 : mj_mck 205 prog_14_method_43_code 0 mc_205 = true := by decide +kernel
theorem mk_206 : mj_mck 206 prog_14_method_42_code 0 mc_206 = true := by decide +kernel
theorem mk_207 : mj_mck 207 prog_14_method_44_code 0 mc_207 = true := by decide +kernel
theorem mk_208 : mj_mck 208 prog_14_method_46_code 0 mc_208 = true := by decide +kernel
theorem mk_209 : mj_mck 209 prog_14_method_24_code 0 mc_209 = true := by decide +kernel
theorem mk_210 : mj_mck 210 prog_14_method_47_code 0 mc_210 = true := by decide +kernel
theorem mk_211 : mj_mck 211 prog_14_method_45_code 0 mc_211 = true := by decide +kernel
theorem mk_212 : mj_mck 212 prog_14_method_52_code 0 mc_212 = true := by decide +kernel
theorem mk_213 : mj_mck 213 prog_14_method_5_code 0 mc_213 = true := by decide +kernel
theorem mk_214 : mj_mck 214 prog_14_method_48_code 0 mc_214 = true := by decide +kernel
theorem mk_215 : mj_mck 215 prog_14_method_53_code 0 mc_215 = true := by decide +kernel
theorem mk_216 : mj_mck 216 prog_14_method_49_code 0 mc_216 = true := by decide +kernel
theorem mk_217 : mj_mck 217 prog_14_method_64_code 0 mc_217 = true := by decide +kernel
theorem mk_218 : mj_mck 218 prog_14_method_63_code 0 mc_218 = true := by decide +kernel
theorem mk_219 : mj_mck 219 prog_14_method_62_code 0 mc_219 = true := by decide +kernel
theorem mk_220 : mj_mck 220 prog_14_method_61_code 0 mc_220 = true := by decide +kernel
theorem mk_221 : mj_mck 221 prog_14_method_13_code 0 mc_221 = true := by decide +kernel
theorem mk_222_0 : mj_mck 222 prog_14_method_60_code 0 ((mc_222.drop 0).take 60) = true := by decide +kernel
theorem mk_222_1 : mj_mck 222 prog_14_method_60_code 90 ((mc_222.drop 60).take 60) = true := by decide +kernel
theorem mk_222_2 : mj_mck 222 prog_14_method_60_code 275 ((mc_222.drop 120).take 60) = true := by decide +kernel
theorem mk_222_3 : mj_mck 222 prog_14_method_60_code 377 ((mc_222.drop 180).take 60) = true := by decide +kernel
theorem mk_222 : mj_mck 222 prog_14_method_60_code 0 mc_222 = true := (mj_mck_cut2 (j := 0) (pc' := 90) 60 mk_222_0 (by decide +kernel) (mj_mck_cut2 (j := 60) (pc' := 275) 60 mk_222_1 (by decide +kernel) (mj_mck_cut2 (j := 120) (pc' := 377) 60 mk_222_2 (by decide +kernel) (mj_mck_cut2 (j := 180) (pc' := 401) 60 mk_222_3 (by decide +kernel) (by decide +kernel)))))
theorem mk_223_0 : mj_mck 223 prog_14_method_56_code 0 ((mc_223.drop 0).take 60) = true := by decide +kernel
theorem mk_223_1 : mj_mck 223 prog_14_method_56_code 106 ((mc_223.drop 60).take 60) = true := by decide +kernel
theorem mk_223_2 : mj_mck 223 prog_14_method_56_code 205 ((mc_223.drop 120).take 60) = true := by decide +kernel
theorem mk_223 : mj_mck 223 prog_14_method_56_code 0 mc_223 = true := (mj_mck_cut2 (j := 0) (pc' := 106) 60 mk_223_0 (by decide +kernel) (mj_mck_cut2 (j := 60) (pc' := 205) 60 mk_223_1 (by decide +kernel) (mj_mck_cut2 (j := 120) (pc' := 251) 60 mk_223_2 (by decide +kernel) (by decide +kernel))))
theorem mk_224 : mj_mck 224 prog_14_method_25_code 0 mc_224 = true := by decide +kernel
theorem mk_225 : mj_mck 225 prog_14_method_54_code 0 mc_225 = true := by decide +kernel
theorem mk_226 : mj_mck 226 prog_14_method_35_code 0 mc_226 = true := by decide +kernel
theorem mk_227 : mj_mck 227 prog_14_method_55_code 0 mc_227 = true := by decide +kernel
theorem mk_228 : mj_mck 228 prog_14_method_58_code 0 mc_228 = true := by decide +kernel
theorem mk_229 : mj_mck 229 prog_14_method_57_code 0 mc_229 = true := by decide +kernel
theorem mk_230 : mj_mck 230 prog_14_method_36_code 0 mc_230 = true := by decide +kernel
theorem mk_231 : mj_mck 231 prog_14_method_59_code 0 mc_231 = true := by decide +kernel
theorem mk_232 : mj_mck 232 prog_14_method_65_code 0 mc_232 = true := by decide +kernel
theorem mk_233 : mj_mck 233 prog_14_method_66_code 0 mc_233 = true := by decide +kernel
theorem mk_234 : mj_mck 234 prog_14_method_67_code 0 mc_234 = true := by decide +kernel
theorem mk_235 : mj_mck 235 prog_14_method_12_code 0 mc_235 = true := by decide +kernel
theorem mk_236 : mj_mck 236 prog_14_method_68_code 0 mc_236 = true := by decide +kernel
theorem mk_237 : mj_mck 237 prog_14_method_70_code 0 mc_237 = true := by decide +kernel
theorem mk_238 : mj_mck 238 prog_14_method_69_code 0 mc_238 = true := by decide +kernel
theorem mk_239 : mj_mck 239 prog_14_method_71_code 0 mc_239 = true := by decide +kernel
theorem mk_240_0 : mj_mck 240 prog_14_method_72_code 0 ((mc_240.drop 0).take 60) = true := by decide +kernel
theorem mk_240_1 : mj_mck 240 prog_14_method_72_code 110 ((mc_240.drop 60).take 60) = true := by decide +kernel
theorem mk_240_2 : mj_mck 240 prog_14_method_72_code 203 ((mc_240.drop 120).take 60) = true := by decide +kernel
theorem mk_240 : mj_mck 240 prog_14_method_72_code 0 mc_240 = true := (mj_mck_cut2 (j := 0) (pc' := 110) 60 mk_240_0 (by decide +kernel) (mj_mck_cut2 (j := 60) (pc' := 203) 60 mk_240_1 (by decide +kernel) (mj_mck_cut2 (j := 120) (pc' := 236) 60 mk_240_2 (by decide +kernel) (by decide +kernel))))
theorem mk_241 : mj_mck 241 prog_14_method_111_code 0 mc_241 = true := by decide +kernel
theorem mk_242 : mj_mck 242 prog_14_method_73_code 0 mc_242 = true := by decide +kernel
theorem mk_243 : mj_mck 243 prog_14_method_74_code 0 mc_243 = true := by decide +kernel
theorem mk_244 : mj_mck 244 prog_14_method_75_code 0 mc_244 = true := by decide +kernel
theorem mk_245 : mj_mck 245 prog_14_method_76_code 0 mc_245 = true := by decide +kernel
theorem mk_246 : mj_mck 246 prog_14_method_77_code 0 mc_246 = true := by decide +kernel
theorem mk_247 : mj_mck 247 prog_14_method_78_code 0 mc_247 = true := by decide +kernel
theorem mk_248 : mj_mck 248 prog_14_method_79_code 0 mc_248 = true := by decide +kernel
theorem mk_249 : mj_mck 249 prog_14_method_80_code 0 mc_249 = true := by decide +kernel
theorem mk_250_0 : mj_mck 250 prog_14_method_85_code 0 ((mc_250.drop 0).take 60) = true := by decide +kernel
theorem mk_250_1 : mj_mck 250 prog_14_method_85_code 113 ((mc_250.drop 60).take 60) = true := by decide +kernel
theorem mk_250_2 : mj_mck 250 prog_14_method_85_code 221 ((mc_250.drop 120).take 60) = true := by decide +kernel
theorem mk_250_3 : mj_mck 250 prog_14_method_85_code 336 ((mc_250.drop 180).take 60) = true := by decide +kernel
theorem mk_250 : mj_mck 250 prog_14_method_85_code 0 mc_250 = true := (mj_mck_cut2 (j := 0) (pc' := 113) 60 mk_250_0 (by decide +kernel) (mj_mck_cut2 (j := 60) (pc' := 221) 60 mk_250_1 (by decide +kernel) (mj_mck_cut2 (j := 120) (pc' := 336) 60 mk_250_2 (by decide +kernel) (mj_mck_cut2 (j := 180) (pc' := 339) 60 mk_250_3 (by decide +kernel) (by decide +kernel)))))
theorem mk_251 : mj_mck 251 prog_14_method_81_code 0 mc_251 = true := by decide +kernel
theorem mk_252 : mj_mck 252 prog_14_method_84_code 0 mc_252 = true := by decide +kernel
theorem mk_253 : mj_mck 253 prog_14_method_83_code 0 mc_253 = true := by decide +kernel
theorem mk_254 : mj_mck 254 prog_14_method_82_code 0 mc_254 = true := by decide +kernel
theorem mk_255 : mj_mck 255 prog_14_method_86_code 0 mc_255 = true := by decide +kernel
theorem mk_256 : mj_mck 256 prog_14_method_87_code 0 mc_256 = true := by decide +kernel
theorem mk_257 : mj_mck 257 prog_14_method_91_code 0 mc_257 = true := by decide +kernel
theorem mk_258 : mj_mck 258 prog_14_method_88_code 0 mc_258 = true := by decide +kernel
theorem mk_259_0 : mj_mck 259 prog_14_method_90_code 0 ((mc_259.drop 0).take 60) = true := by decide +kernel
theorem mk_259_1 : mj_mck 259 prog_14_method_90_code 106 ((mc_259.drop 60).take 60) = true := by decide +kernel
theorem mk_259_2 : mj_mck 259 prog_14_method_90_code 203 ((mc_259.drop 120).take 60) = true := by decide +kernel
theorem mk_259_3 : mj_mck 259 prog_14_method_90_code 305 ((mc_259.drop 180).take 60) = true := by decide +kernel
theorem mk_259 : mj_mck 259 prog_14_method_90_code 0 mc_259 = true := (mj_mck_cut2 (j := 0) (pc' := 106) 60 mk_259_0 (by decide +kernel) (mj_mck_cut2 (j := 60) (pc' := 203) 60 mk_259_1 (by decide +kernel) (mj_mck_cut2 (j := 120) (pc' := 305) 60 mk_259_2 (by decide +kernel) (mj_mck_cut2 (j := 180) (pc' := 396) 60 mk_259_3 (by decide +kernel) (by decide +kernel)))))
theorem mk_260 : mj_mck 260 prog_14_method_89_code 0 mc_260 = true := by decide +kernel
theorem mk_261 : mj_mck 261 prog_14_method_92_code 0 mc_261 = true := by decide +kernel
theorem mk_262 : mj_mck 262 prog_14_method_95_code 0 mc_262 = true := by decide +kernel
theorem mk_263 : mj_mck 263 prog_14_method_93_code 0 mc_263 = true := by decide +kernel
theorem mk_264 : mj_mck 264 prog_14_method_94_code 0 mc_264 = true := by decide +kernel
theorem mk_265 : mj_mck 265 prog_14_method_96_code 0 mc_265 = true := by decide +kernel
theorem mk_266 : mj_mck 266 prog_14_method_97_code 0 mc_266 = true := by decide +kernel
theorem mk_267 : mj_mck 267 prog_14_method_107_code 0 mc_267 = true := by decide +kernel
theorem mk_268 : mj_mck 268 prog_14_method_106_code 0 mc_268 = true := by decide +kernel
theorem mk_269_0 : mj_mck 269 prog_14_method_104_code 0 ((mc_269.drop 0).take 60) = true := by decide +kernel
theorem mk_269_1 : mj_mck 269 prog_14_method_104_code 125 ((mc_269.drop 60).take 60) = true := by decide +kernel
theorem mk_269_2 : mj_mck 269 prog_14_method_104_code 252 ((mc_269.drop 120).take 60) = true := by decide +kernel
theorem mk_269 : mj_mck 269 prog_14_method_104_code 0 mc_269 = true := (mj_mck_cut2 (j := 0) (pc' := 125) 60 mk_269_0 (by decide +kernel) (mj_mck_cut2 (j := 60) (pc' := 252) 60 mk_269_1 (by decide +kernel) (mj_mck_cut2 (j := 120) (pc' := 264) 60 mk_269_2 (by decide +kernel) (by decide +kernel))))
theorem mk_270 : mj_mck 270 prog_14_method_98_code 0 mc_270 = true := by decide +kernel
theorem mk_271 : mj_mck 271 prog_14_method_99_code 0 mc_271 = true := by decide +kernel
theorem mk_272 : mj_mck 272 prog_14_method_100_code 0 mc_272 = true := by decide +kernel
theorem mk_273 : mj_mck 273 prog_14_method_101_code 0 mc_273 = true := by decide +kernel
theorem mk_274 : mj_mck 274 prog_14_method_103_code 0 mc_274 = true := by decide +kernel
theorem mk_275 : mj_mck 275 prog_14_method_102_code 0 mc_275 = true := by decide +kernel
theorem mk_276_0 : mj_mck 276 prog_14_method_105_code 0 ((mc_276.drop 0).take 60) = true := by decide +kernel
theorem mk_276_1 : mj_mck 276 prog_14_method_105_code 115 ((mc_276.drop 60).take 60) = true := by decide +kernel
theorem mk_276_2 : mj_mck 276 prog_14_method_105_code 209 ((mc_276.drop 120).take 60) = true := by decide +kernel
theorem mk_276 : mj_mck 276 prog_14_method_105_code 0 mc_276 = true := (mj_mck_cut2 (j := 0) (pc' := 115) 60 mk_276_0 (by decide +kernel) (mj_mck_cut2 (j := 60) (pc' := 209) 60 mk_276_1 (by decide +kernel) (mj_mck_cut2 (j := 120) (pc' := 251) 60 mk_276_2 (by decide +kernel) (by decide +kernel))))
theorem mk_277 : mj_mck 277 prog_14_method_108_code 0 mc_277 = true := by decide +kernel
theorem mk_278 : mj_mck 278 prog_14_method_109_code 0 mc_278 = true := by decide +kernel
theorem mk_279 : mj_mck 279 prog_14_method_110_code 0 mc_279 = true := by decide +kernel
theorem mk_280 : mj_mck 280 prog_14_method_112_code 0 mc_280 = true := by decide +kernel
theorem mk_281 : mj_mck 281 prog_14_method_113_code 0 mc_281 = true := by decide +kernel
theorem mk_282 : mj_mck 282 prog_14_method_114_code 0 mc_282 = true := by decide +kernel
theorem mk_283 : mj_mck 283 prog_14_method_115_code 0 mc_283 = true := by decide +kernel
theorem mk_284 : mj_mck 284 prog_14_method_116_code 0 mc_284 = true := by decide +kernel
theorem mk_285 : mj_mck 285 prog_14_method_117_code 0 mc_285 = true := by decide +kernel
theorem mk_286 : mj_mck 286 prog_14_method_118_code 0 mc_286 = true := by decide +kernel
theorem mk_287_0 : mj_mck 287 code 0 ((mc_287.drop 0).take 60) = true := by decide +kernel
theorem mk_287_1 : mj_mck 287 code 244 ((mc_287.drop 60).take 60) = true := by decide +kernel
theorem mk_287_2 : mj_mck 287 code 316 ((mc_287.drop 120).take 60) = true := by decide +kernel
theorem mk_287_3 : mj_mck 287 code 388 ((mc_287.drop 180).take 60) = true := by decide +kernel
theorem mk_287_4 : mj_mck 287 code 464 ((mc_287.drop 240).take 60) = true := by decide +kernel
theorem mk_287_5 : mj_mck 287 code 538 ((mc_287.drop 300).take 60) = true := by decide +kernel
theorem mk_287_6 : mj_mck 287 code 610 ((mc_287.drop 360).take 60) = true := by decide +kernel
theorem mk_287_7 : mj_mck 287 code 682 ((mc_287.drop 420).take 60) = true := by decide +kernel
theorem mk_287_8 : mj_mck 287 code 758 ((mc_287.drop 480).take 60) = true := by decide +kernel
theorem mk_287_9 : mj_mck 287 code 836 ((mc_287.drop 540).take 60) = true := by decide +kernel
theorem mk_287_10 : mj_mck 287 code 914 ((mc_287.drop 600).take 60) = true := by decide +kernel
theorem mk_287_11 : mj_mck 287 code 986 ((mc_287.drop 660).take 60) = true := by decide +kernel
theorem mk_287_12 : mj_mck 287 code 1070 ((mc_287.drop 720).take 60) = true := by decide +kernel
theorem mk_287_13 : mj_mck 287 code 1154 ((mc_287.drop 780).take 60) = true := by decide +kernel
theorem mk_287_14 : mj_mck 287 code 1226 ((mc_287.drop 840).take 60) = true := by decide +kernel
theorem mk_287_15 : mj_mck 287 code 1304 ((mc_287.drop 900).take 60) = true := by decide +kernel
theorem mk_287 : mj_mck 287 code 0 mc_287 = true := (mj_mck_cut2 (j := 0) (pc' := 244) 60 mk_287_0 (by decide +kernel) (mj_mck_cut2 (j := 60) (pc' := 316) 60 mk_287_1 (by decide +kernel) (mj_mck_cut2 (j := 120) (pc' := 388) 60 mk_287_2 (by decide +kernel) (mj_mck_cut2 (j := 180) (pc' := 464) 60 mk_287_3 (by decide +kernel) (mj_mck_cut2 (j := 240) (pc' := 538) 60 mk_287_4 (by decide +kernel) (mj_mck_cut2 (j := 300) (pc' := 610) 60 mk_287_5 (by decide +kernel) (mj_mck_cut2 (j := 360) (pc' := 682) 60 mk_287_6 (by decide +kernel) (mj_mck_cut2 (j := 420) (pc' := 758) 60 mk_287_7 (by decide +kernel) (mj_mck_cut2 (j := 480) (pc' := 836) 60 mk_287_8 (by decide +kernel) (mj_mck_cut2 (j := 540) (pc' := 914) 60 mk_287_9 (by decide +kernel) (mj_mck_cut2 (j := 600) (pc' := 986) 60 mk_287_10 (by decide +kernel) (mj_mck_cut2 (j := 660) (pc' := 1070) 60 mk_287_11 (by decide +kernel) (mj_mck_cut2 (j := 720) (pc' := 1154) 60 mk_287_12 (by decide +kernel) (mj_mck_cut2 (j := 780) (pc' := 1226) 60 mk_287_13 (by decide +kernel) (mj_mck_cut2 (j := 840) (pc' := 1304) 60 mk_287_14 (by decide +kernel) (mj_mck_cut2 (j := 900) (pc' := 1369) 60 mk_287_15 (by decide +kernel) (by decide +kernel)))))))))))))))))
theorem mka_0 : mj_all (fun k => mj_mck k (mj_by k) 0 (mj_cs.getD k [])) 0 24 = true := by
  simp only [mj_all, Bool.and_eq_true, and_true]
  exact ⟨mk_0, mk_1, mk_2, mk_3, mk_4, mk_5, mk_6, mk_7, mk_8, mk_9, mk_10, mk_11, mk_12, mk_13, mk_14, mk_15, mk_16, mk_17, mk_18, mk_19, mk_20, mk_21, mk_22, mk_23⟩
theorem mka_1 : mj_all (fun k => mj_mck k (mj_by k) 0 (mj_cs.getD k [])) 24 24 = true := by
  simp only [mj_all, Bool.and_eq_true, and_true]
  exact ⟨mk_24, mk_25, mk_26, mk_27, mk_28, mk_29, mk_30, mk_31, mk_32, mk_33, mk_34, mk_35, mk_36, mk_37, mk_38, mk_39, mk_40, mk_41, mk_42, mk_43, mk_44, mk_45, mk_46, mk_47⟩
theorem mka_2 : mj_all (fun k => mj_mck k (mj_by k) 0 (mj_cs.getD k [])) 48 24 = true := by
  simp only [mj_all, Bool.and_eq_true, and_true]
  exact ⟨mk_48, mk_49, mk_50, mk_51, mk_52, mk_53, mk_54, mk_55, mk_56, mk_57, mk_58, mk_59, mk_60, mk_61, mk_62, mk_63, mk_64, mk_65, mk_66, mk_67, mk_68, mk_69, mk_70, mk_71⟩
theorem mka_3 : mj_all (fun k => mj_mck k (mj_by k) 0 (mj_cs.getD k [])) 72 24 = true := by
  simp only [mj_all, Bool.and_eq_true, and_true]
  exact ⟨mk_72, mk_73, mk_74, mk_75, mk_76, mk_77, mk_78, mk_79, mk_80, mk_81, mk_82, mk_83, mk_84, mk_85, mk_86, mk_87, mk_88, mk_89, mk_90, mk_91, mk_92, mk_93, mk_94, mk_95⟩
theorem mka_4 : mj_all (fun k => mj_mck k (mj_by k) 0 (mj_cs.getD k [])) 96 24 = true := by
  simp only [mj_all, Bool.and_eq_true, and_true]
  exact ⟨mk_96, mk_97, mk_98, mk_99, mk_100, mk_101, mk_102, mk_103, mk_104, mk_105, mk_106, mk_107, mk_108, mk_109, mk_110, mk_111, mk_112, mk_113, mk_114, mk_115, mk_116, mk_117, mk_118, mk_119⟩
theorem mka_5 : mj_all (fun k => mj_mck k (mj_by k) 0 (mj_cs.getD k [])) 120 24 = true := by
  simp only [mj_all, Bool.and_eq_true, and_true]
  exact ⟨mk_120, mk_121, mk_122, mk_123, mk_124, mk_125, mk_126, mk_127, mk_128, mk_129, mk_130, mk_131, mk_132, mk_133, mk_134, mk_135, mk_136, mk_137, mk_138, mk_139, mk_140, mk_141, mk_142, mk_143⟩
theorem mka_6 : mj_all (fun k => mj_mck k (mj_by k) 0 (mj_cs.getD k [])) 144 24 = true := by
  simp only [mj_all, Bool.and_eq_true, and_true]
  exact ⟨mk_144, mk_145, mk_146, mk_147, mk_148, mk_149, mk_150, mk_151, mk_152, mk_153, mk_154, mk_155, mk_156, mk_157, mk_158, mk_159, mk_160, mk_161, mk_162, mk_163, mk_164, mk_165, mk_166, mk_167⟩
theorem mka_7 : mj_all (fun k => mj_mck k (mj_by k) 0 (mj_cs.getD k [])) 168 24 = true := by
  simp only [mj_all, Bool.and_eq_true, and_true]
  exact ⟨mk_168, mk_169, mk_170, mk_171, mk_172, mk_173, mk_174, mk_175, mk_176, mk_177, mk_178, mk_179, mk_180, mk_181, mk_182, mk_183, mk_184, mk_185, mk_186, mk_187, mk_188, mk_189, mk_190, mk_191⟩
theorem mka_8 : mj_all (fun k => mj_mck k (mj_by k) 0 (mj_cs.getD k [])) 192 24 = true := by
  simp only [mj_all, Bool.and_eq_true, and_true]
  exact ⟨mk_192, mk_193, mk_194, mk_195, mk_196, mk_197, mk_198, mk_199, mk_200, mk_201, mk_202, mk_203, mk_204, mk_205, mk_206, mk_207, mk_208, mk_209, mk_210, mk_211, mk_212, mk_213, mk_214, mk_215⟩
theorem mka_9 : mj_all (fun k => mj_mck k (mj_by k) 0 (mj_cs.getD k [])) 216 24 = true := by
  simp only [mj_all, Bool.and_eq_true, and_true]
  exact ⟨mk_216, mk_217, mk_218, mk_219, mk_220, mk_221, mk_222, mk_223, mk_224, mk_225, mk_226, mk_227, mk_228, mk_229, mk_230, mk_231, mk_232, mk_233, mk_234, mk_235, mk_236, mk_237, mk_238, mk_239⟩
theorem mka_10 : mj_all (fun k => mj_mck k (mj_by k) 0 (mj_cs.getD k [])) 240 24 = true := by
  simp only [mj_all, Bool.and_eq_true, and_true]
  exact ⟨mk_240, mk_241, mk_242, mk_243, mk_244, mk_245, mk_246, mk_247, mk_248, mk_249, mk_250, mk_251, mk_252, mk_253, mk_254, mk_255, mk_256, mk_257, mk_258, mk_259, mk_260, mk_261, mk_262, mk_263⟩
theorem mka_11 : mj_all (fun k => mj_mck k (mj_by k) 0 (mj_cs.getD k [])) 264 24 = true := by
  simp only [mj_all, Bool.and_eq_true, and_true]
  exact ⟨mk_264, mk_265, mk_266, mk_267, mk_268, mk_269, mk_270, mk_271, mk_272, mk_273, mk_274, mk_275, mk_276, mk_277, mk_278, mk_279, mk_280, mk_281, mk_282, mk_283, mk_284, mk_285, mk_286, mk_287⟩
theorem mj_mck_all (k : Nat) (hk : k < 288) : mj_mck k (mj_by k) 0 (mj_cs.getD k []) = true := by
  by_cases h0 : k < 24
  · exact mj_all_ok 24 0 mka_0 k (by omega) (by omega)
  by_cases h1 : k < 48
  · exact mj_all_ok 24 24 mka_1 k (by omega) (by omega)
  by_cases h2 : k < 72
  · exact mj_all_ok 24 48 mka_2 k (by omega) (by omega)
  by_cases h3 : k < 96
  · exact mj_all_ok 24 72 mka_3 k (by omega) (by omega)
  by_cases h4 : k < 120
  · exact mj_all_ok 24 96 mka_4 k (by omega) (by omega)
  by_cases h5 : k < 144
  · exact mj_all_ok 24 120 mka_5 k (by omega) (by omega)
  by_cases h6 : k < 168
  · exact mj_all_ok 24 144 mka_6 k (by omega) (by omega)
  by_cases h7 : k < 192
  · exact mj_all_ok 24 168 mka_7 k (by omega) (by omega)
  by_cases h8 : k < 216
  · exact mj_all_ok 24 192 mka_8 k (by omega) (by omega)
  by_cases h9 : k < 240
  · exact mj_all_ok 24 216 mka_9 k (by omega) (by omega)
  by_cases h10 : k < 264
  · exact mj_all_ok 24 240 mka_10 k (by omega) (by omega)
  by_cases h11 : k < 288
  · exact mj_all_ok 24 264 mka_11 k (by omega) (by omega)
  omega
theorem mj_at_ck {k : Nat} {b : ByteArray} : ∀ (l : List (Instr × Nat)) (p0 pc : Nat) (i : Instr) (n : Nat), mj_mck k b p0 l = true → mj_at l pc = some (i, n) → decode b (p0 + pc) = .ok (i, n) ∧ (mj_sem k (p0 + pc) i n && mj_sem2 k i) = true := by
  intro l
  induction l with
  | nil => intro p0 pc i n _ h; cases h
  | cons q t ih =>
    obtain ⟨i', n'⟩ := q
    intro p0 pc i n hc h
    unfold mj_mck at hc
    rw [Bool.and_eq_true, Bool.and_eq_true] at hc
    unfold mj_at at h
    by_cases h0 : pc = 0
    · rw [if_pos h0] at h
      cases h
      subst h0
      exact ⟨of_decide_eq_true hc.1.1, hc.1.2⟩
    · rw [if_neg h0] at h
      by_cases h1 : pc < n'
      · rw [if_pos h1] at h; cases h
      · rw [if_neg h1] at h
        have := ih (p0 + n') (pc - n') i n hc.2 h
        rw [show p0 + n' + (pc - n') = p0 + pc by omega] at this
        exact this
theorem mj_cs_len : mj_cs.length = 288 := by decide +kernel
theorem mj_code_ck {k pc n : Nat} {i : Instr} (h : mj_code k pc = some (i, n)) : k < 288 ∧ decode (mj_by k) pc = .ok (i, n) ∧ mj_sem k pc i n = true ∧ mj_sem2 k i = true := by
  have hk : k < 288 := by
    apply Classical.byContradiction
    intro hk
    unfold mj_code at h
    have hl := mj_cs_len
    rw [List.getD_eq_getElem?_getD, List.getElem?_eq_none (by omega)] at h
    cases h
  have := mj_at_ck _ 0 pc i n (mj_mck_all k hk) h
  rw [Nat.zero_add, Bool.and_eq_true] at this
  exact ⟨hk, this⟩
