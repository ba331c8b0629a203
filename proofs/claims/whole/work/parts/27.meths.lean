def mj_mp : List (Nat × Nat × Nat × Nat) := [(1025, 1001, 1024, 0), (1033, 1002, 1032, 0), (1039, 1003, 1038, 0), (1043, 1004, 1042, 0), (1119, 1005, 1118, 0), (1163, 1006, 1162, 0), (2001, 1007, 2000, 0), (2108, 1008, 2107, 0), (2124, 1009, 2123, 0), (2142, 1010, 2141, 0), (2161, 1011, 2160, 0), (2182, 1012, 2181, 0), (2205, 1013, 2204, 0), (3004, 1002, 3002, 3003), (3008, 1005, 3006, 3007), (3012, 1002, 3010, 3011), (3016, 1003, 3014, 3015), (3020, 1002, 3018, 3019), (3076, 1001, 3074, 3075), (3080, 1002, 3078, 3079), (3084, 1005, 3082, 3083), (3088, 1001, 3087, 0), (3091, 1009, 3090, 0), (3095, 1009, 3093, 3094), (3099, 1002, 3097, 3098), (3103, 1002, 3101, 3102), (3107, 1002, 3105, 3106), (3111, 1002, 3109, 3110), (3115, 1009, 3114, 1), (3119, 1009, 3118, 2), (3125, 1009, 3124, 3), (3131, 1005, 3129, 3130), (3136, 1009, 3135, 4), (3140, 1008, 3138, 3139), (3144, 1008, 3142, 3143), (3148, 1009, 3147, 5), (3152, 1009, 3151, 6), (3156, 1003, 3154, 3155), (3160, 1003, 3158, 3159), (3164, 1009, 3163, 7), (3169, 1002, 3167, 3168), (3174, 1009, 3173, 8), (3178, 1008, 3176, 3177), (3182, 1008, 3181, 9), (3186, 1008, 3185, 10), (3190, 1008, 3189, 11), (3194, 1008, 3193, 12), (3198, 1008, 3197, 13), (3202, 1008, 3201, 14), (3206, 1005, 3204, 3205), (3210, 1003, 3208, 3209), (3214, 1008, 3213, 15), (3219, 1003, 3217, 3218), (3223, 1007, 3221, 3222), (3227, 1006, 3225, 3226), (3231, 1006, 3229, 3230), (3235, 1006, 3233, 3234), (3239, 1008, 3238, 16), (4003, 1006, 4001, 4002), (4007, 1001, 4005, 4006), (4012, 1001, 4011, 17), (4016, 1009, 4014, 4015), (4021, 1005, 4019, 4020), (4025, 1001, 4023, 4024), (4029, 1009, 4027, 4028), (4033, 1005, 4031, 4032), (4037, 1001, 4035, 4036), (4041, 1005, 4039, 4040), (4046, 1001, 4044, 4045), (4049, 1015, 4048, 0), (4053, 1001, 4051, 4052), (4057, 1003, 4055, 4056), (4061, 1001, 4059, 4060), (4066, 1001, 4064, 4065), (4070, 1003, 4068, 4069), (4074, 1001, 4072, 4073), (4079, 1001, 4077, 4078), (4082, 1001, 4081, 0), (4086, 1006, 4084, 4085), (4094, 1001, 4092, 4093), (4098, 1006, 4096, 4097), (4102, 1009, 4100, 4101), (4106, 1002, 4104, 4105), (4110, 1005, 4108, 4109), (4115, 1001, 4113, 4114), (4119, 1001, 4117, 4118), (4123, 1001, 4121, 4122), (4127, 1001, 4125, 4126), (4131, 1001, 4129, 4130), (4134, 1001, 4133, 0), (4138, 1001, 4136, 4137), (4143, 1001, 4141, 4142), (4147, 1001, 4145, 4146), (4151, 1010, 4149, 4150), (4155, 1008, 4153, 4154), (4160, 1010, 4159, 18), (4164, 1006, 4162, 4163), (4169, 1010, 4168, 19), (4174, 1010, 4173, 20), (4178, 1010, 4177, 21), (4182, 1010, 4181, 22), (4186, 1010, 4185, 23), (4189, 1010, 4188, 0), (4193, 1010, 4192, 24), (4200, 1006, 4198, 4199), (4205, 1010, 4204, 25), (4210, 1006, 4208, 4209), (4215, 1010, 4214, 26), (4219, 1006, 4217, 4218), (4223, 1010, 4222, 27), (4228, 1010, 4227, 28), (4233, 1008, 4231, 4232), (4237, 1010, 4236, 29), (5005, 1001, 5003, 5004), (5009, 1011, 5007, 5008), (5013, 1002, 5011, 5012), (5017, 1003, 5015, 5016), (5022, 1005, 5020, 5021), (5027, 1006, 5025, 5026), (5031, 1007, 5029, 5030), (5038, 1011, 5037, 30), (5042, 1011, 5041, 31), (5047, 1011, 5046, 32), (5051, 1001, 5049, 5050), (5055, 1011, 5053, 5054), (5060, 1001, 5058, 5059), (5064, 1011, 5062, 5063), (5068, 1001, 5066, 5067), (5072, 1012, 5070, 5071), (5076, 1012, 5075, 33), (5081, 1012, 5080, 34), (5085, 1012, 5084, 35), (5090, 1012, 5089, 36), (5094, 1012, 5093, 37), (5100, 1012, 5099, 38), (5104, 1012, 5103, 39), (5108, 1001, 5106, 5107), (5112, 1012, 5110, 5111), (5116, 1001, 5114, 5115), (5120, 1012, 5118, 5119), (5124, 1012, 5123, 40), (5128, 1001, 5126, 5127), (5132, 1001, 5130, 5131), (5136, 1001, 5134, 5135), (5140, 1013, 5138, 5139), (5144, 1013, 5143, 41), (5148, 1013, 5147, 42), (5153, 1013, 5152, 43), (5157, 1013, 5156, 44), (5209, 1013, 5208, 45), (5213, 1013, 5212, 46), (5217, 1013, 5216, 47), (5221, 1013, 5220, 48), (5229, 1013, 5227, 5228), (5233, 1013, 5232, 49), (5239, 1007, 5237, 5238), (6006, 1001, 6004, 6005), (6010, 1005, 6008, 6009), (6014, 1003, 6012, 6013), (6018, 1003, 6016, 6017), (6022, 1001, 6020, 6021), (6026, 1001, 6024, 6025), (6030, 1001, 6028, 6029), (6034, 1001, 6032, 6033), (6038, 1001, 6036, 6037), (6042, 1001, 6040, 6041), (6046, 1001, 6044, 6045), (6050, 1001, 6048, 6049), (6054, 1001, 6052, 6053), (6058, 1001, 6056, 6057), (6063, 1014, 6062, 0), (6068, 1014, 6067, 50), (6072, 1014, 6071, 51), (6076, 1014, 6075, 52), (6080, 1014, 6079, 53), (6084, 1014, 6083, 54), (6088, 1014, 6087, 55), (6165, 1014, 6163, 6164), (6168, 1014, 6167, 0), (6172, 1014, 6171, 56), (6176, 1014, 6174, 6175), (6180, 1014, 6179, 57), (6184, 1014, 6183, 58), (6188, 1014, 6187, 59), (6192, 1014, 6191, 60), (6196, 1014, 6195, 61), (6200, 1014, 6199, 62), (6203, 1014, 6202, 0), (6207, 1014, 6206, 63), (6211, 1014, 6210, 64), (6215, 1014, 6214, 65), (6219, 1014, 6218, 66), (6222, 1014, 6221, 0), (6226, 1014, 6225, 67), (6230, 1014, 6229, 68), (6234, 1014, 6233, 69), (6238, 1014, 6237, 70), (7002, 1014, 7001, 71), (7006, 1014, 7005, 72), (7010, 1014, 7009, 73), (7014, 1014, 7013, 74), (7018, 1014, 7017, 75), (7022, 1014, 7021, 76), (7026, 1014, 7025, 77), (7030, 1014, 7029, 78), (7034, 1014, 7033, 79), (7038, 1014, 7037, 80), (7042, 1014, 7041, 81), (7046, 1014, 7045, 82), (7050, 1014, 7049, 83), (7054, 1014, 7053, 84), (7058, 1014, 7057, 85), (7062, 1014, 7060, 7061), (7066, 1014, 7065, 86), (7070, 1014, 7069, 87), (7074, 1014, 7072, 7073), (7078, 1014, 7077, 88), (7082, 1014, 7080, 7081), (7086, 1014, 7085, 89), (7090, 1014, 7089, 90), (7094, 1014, 7093, 91), (7098, 1014, 7097, 92), (7102, 1014, 7101, 93), (7106, 1014, 7105, 94), (7110, 1014, 7109, 95), (7114, 1014, 7113, 96), (7118, 1014, 7117, 97), (7122, 1014, 7121, 98), (7126, 1014, 7125, 99), (7130, 1014, 7129, 100), (7134, 1014, 7133, 101), (7138, 1014, 7137, 102), (7142, 1014, 7140, 7141), (7146, 1014, 7144, 7145), (7150, 1014, 7148, 7149), (7154, 1014, 7153, 103), (7158, 1014, 7156, 7157), (7162, 1014, 7160, 7161), (7166, 1014, 7165, 104), (7170, 1014, 7168, 7169), (7174, 1014, 7172, 7173), (7177, 1014, 7176, 0), (7181, 1014, 7179, 7180), (7185, 1014, 7183, 7184), (7189, 1014, 7187, 7188), (7193, 1014, 7191, 7192), (7197, 1014, 7195, 7196), (7201, 1014, 7199, 7200), (7205, 1014, 7203, 7204), (7209, 1014, 7207, 7208), (7213, 1014, 7211, 7212), (7217, 1014, 7216, 105), (7221, 1014, 7220, 106), (7225, 1014, 7224, 107), (7229, 1014, 7228, 108), (7233, 1014, 7231, 7232), (7237, 1014, 7235, 7236), (8001, 1014, 7239, 8000), (8005, 1014, 8004, 109), (8009, 1014, 8008, 110), (8013, 1014, 8012, 111), (8017, 1014, 8015, 8016), (8021, 1014, 8019, 8020), (8025, 1014, 8024, 112), (8029, 1014, 8028, 113), (8033, 1014, 8031, 8032), (8037, 1014, 8035, 8036), (8041, 1014, 8039, 8040), (8045, 1014, 8044, 114), (8049, 1014, 8048, 115), (8053, 1014, 8052, 116), (8057, 1014, 8056, 117), (8061, 1014, 8060, 118), (8065, 1014, 8064, 119), (8069, 1014, 8068, 120), (8072, 1014, 8071, 0), (8076, 1014, 8075, 121), (8080, 1014, 8078, 8079), (8084, 1014, 8082, 8083), (8088, 1014, 8086, 8087), (8092, 1014, 8090, 8091), (8096, 1014, 8094, 8095), (8100, 1014, 8098, 8099), (8104, 1014, 8102, 8103), (8108, 1014, 8106, 8107), (8112, 1014, 8110, 8111), (8116, 1014, 8114, 8115), (0, 0, 0, 0)]
/-- a method's own words -/
def mj_mwd (k : Nat) : List (Jvm.Cond × Nat) := [(.code (mj_y k) (mj_by k) (mj_ml k) (mj_ret k), (mj_mp.getD k (0, 0, 0, 0)).1), (.initialized (mj_own k), (mj_mp.getD k (0, 0, 0, 0)).2.1), (if mj_kd k = 1 then .static (mj_y k) else .instanceMethod (mj_y k), (mj_mp.getD k (0, 0, 0, 0)).2.2.1)] ++ (if mj_kd k = 0 then [(.selects (mj_own k) (mj_y k) (mj_y k), (mj_mp.getD k (0, 0, 0, 0)).2.2.2)] else [])
def mj_msem (k : Nat) : Bool := (mj_mwd k).all (fun q => mj_hit q.2 q.1) && decide ((parseMethodDescriptor (mj_y k).desc).map (fun d => d.parameters.length) = some (mj_na k - (if mj_kd k = 1 then 0 else 1))) && decide (mj_own k ≠ "java/lang/invoke/MethodHandle" ∧ mj_own k ≠ "java/lang/invoke/VarHandle") && (decide (k = 69) || plainName (mj_own k)) && (decide (mj_kd k = 1) || (decide (mj_oc k < 13) && decide (mj_cn (mj_oc k) = mj_own k) && decide (1 ≤ mj_na k))) && (decide (mj_kd k ≠ 2) || decide ((mj_y k).name = "<init>" ∧ mj_rt k = 0)) && decide (mj_na k ≤ mj_ml k ∧ mj_ml k ≤ 30 ∧ mj_kd k < 3 ∧ mj_rt k < 3) && decide (mj_owns.getD (mj_oc k) "" = mj_own k)
theorem mm_0 : mj_msem 0 = true := by decide +kernel
theorem mm_1 : mj_msem 1 = true := by decide +kernel
theorem mm_2 : mj_msem 2 = true := by decide +kernel
theorem mm_3 : mj_msem 3 = true := by decide +kernel
theorem mm_4 : mj_msem 4 = true := by decide +kernel
theorem mm_5 : mj_msem 5 = true := by decide +kernel
theorem mm_6 : mj_msem 6 = true := by decide +kernel
theorem mm_7 : mj_msem 7 = true := by decide +kernel
theorem mm_8 : mj_msem 8 = true := by decide +kernel
theorem mm_9 : mj_msem 9 = true := by decide +kernel
theorem mm_10 : mj_msem 10 = true := by decide +kernel
theorem mm_11 : mj_msem 11 = true := by decide +kernel
theorem mm_12 : mj_msem 12 = true := by decide +kernel
theorem mm_13 : mj_msem 13 = true := by decide +kernel
theorem mm_14 : mj_msem 14 = true := by decide +kernel
theorem mm_15 : mj_msem 15 = true := by decide +kernel
theorem mm_16 : mj_msem 16 = true := by decide +kernel
theorem mm_17 : mj_msem 17 = true := by decide +kernel
theorem mm_18 : mj_msem 18 = true := by decide +kernel
theorem mm_19 : mj_msem 19 = true := by decide +kernel
theorem mm_20 : mj_msem 20 = true := by decide +kernel
theorem mm_21 : mj_msem 21 = true := by decide +kernel
theorem mm_22 : mj_msem 22 = true := by decide +kernel
theorem mm_23 : mj_msem 23 = true := by decide +kernel
theorem mm_24 : mj_msem 24 = true := by decide +kernel
theorem mm_25 : mj_msem 25 = true := by decide +kernel
theorem mm_26 : mj_msem 26 = true := by decide +kernel
theorem mm_27 : mj_msem 27 = true := by decide +kernel
theorem mm_28 : mj_msem 28 = true := by decide +kernel
theorem mm_29 : mj_msem 29 = true := by decide +kernel
theorem mm_30 : mj_msem 30 = true := by decide +kernel
theorem mm_31 : mj_msem 31 = true := by decide +kernel
theorem mm_32 : mj_msem 32 = true := by decide +kernel
theorem mm_33 : mj_msem 33 = true := by decide +kernel
theorem mm_34 : mj_msem 34 = true := by decide +kernel
theorem mm_35 : mj_msem 35 = true := by decide +kernel
theorem mm_36 : mj_msem 36 = true := by decide +kernel
theorem mm_37 : mj_msem 37 = true := by decide +kernel
theorem mm_38 : mj_msem 38 = true := by decide +kernel
theorem mm_39 : mj_msem 39 = true := by decide +kernel
theorem mm_40 : mj_msem 40 = true := by decide +kernel
theorem mm_41 : mj_msem 41 = true := by decide +kernel
theorem mm_42 : mj_msem 42 = true := by decide +kernel
theorem mm_43 : mj_msem 43 = true := by decide +kernel
theorem mm_44 : mj_msem 44 = true := by decide +kernel
theorem mm_45 : mj_msem 45 = true := by decide +kernel
theorem mm_46 : mj_msem 46 = true := by decide +kernel
theorem mm_47 : mj_msem 47 = true := by decide +kernel
theorem mm_48 : mj_msem 48 = true := by decide +kernel
theorem mm_49 : mj_msem 49 = true := by decide +kernel
theorem mm_50 : mj_msem 50 = true := by decide +kernel
theorem mm_51 : mj_msem 51 = true := by decide +kernel
theorem mm_52 : mj_msem 52 = true := by decide +kernel
theorem mm_53 : mj_msem 53 = true := by decide +kernel
theorem mm_54 : mj_msem 54 = true := by decide +kernel
theorem mm_55 : mj_msem 55 = true := by decide +kernel
theorem mm_56 : mj_msem 56 = true := by decide +kernel
theorem mm_57 : mj_msem 57 = true := by decide +kernel
theorem mm_58 : mj_msem 58 = true := by decide +kernel
theorem mm_59 : mj_msem 59 = true := by decide +kernel
theorem mm_60 : mj_msem 60 = true := by decide +kernel
theorem mm_61 : mj_msem 61 = true := by decide +kernel
theorem mm_62 : mj_msem 62 = true := by decide +kernel
theorem mm_63 : mj_msem 63 = true := by decide +kernel
theorem mm_64 : mj_msem 64 = true := by decide +kernel
theorem mm_65 : mj_msem 65 = true := by decide +kernel
theorem mm_66 : mj_msem 66 = true := by decide +kernel
theorem mm_67 : mj_msem 67 = true := by decide +kernel
theorem mm_68 : mj_msem 68 = true := by decide +kernel
theorem mm_69 : mj_msem 69 = true := by decide +kernel
theorem mm_70 : mj_msem 70 = true := by decide +kernel
theorem mm_71 : mj_msem 71 = true := by decide +kernel
theorem mm_72 : mj_msem 72 = true := by decide +kernel
theorem mm_73 : mj_msem 73 = true := by decide +kernel
theorem mm_74 : mj_msem 74 = true := by decide +kernel
theorem mm_75 : mj_msem 75 = true := by decide +kernel
theorem mm_76 : mj_msem 76 = true := by decide +kernel
theorem mm_77 : mj_msem 77 = true := by decide +kernel
theorem mm_78 : mj_msem 78 = true := by decide +kernel
theorem mm_79 : mj_msem 79 = true := by decide +kernel
theorem mm_80 : mj_msem 80 = true := by decide +kernel
theorem mm_81 : mj_msem 81 = true := by decide +kernel
theorem mm_82 : mj_msem 82 = true := by decide +kernel
theorem mm_83 : mj_msem 83 = true := by decide +kernel
theorem mm_84 : mj_msem 84 = true := by decide +kernel
theorem mm_85 : mj_msem 85 = true := by decide +kernel
theorem mm_86 : mj_msem 86 = true := by decide +kernel
theorem mm_87 : mj_msem 87 = true := by decide +kernel
theorem mm_88 : mj_msem 88 = true := by decide +kernel
theorem mm_89 : mj_msem 89 = true := by decide +kernel
theorem mm_90 : mj_msem 90 = true := by decide +kernel
theorem mm_91 : mj_msem 91 = true := by decide +kernel
theorem mm_92 : mj_msem 92 = true := by decide +kernel
theorem mm_93 : mj_msem 93 = true := by decide +kernel
theorem mm_94 : mj_msem 94 = true := by decide +kernel
theorem mm_95 : mj_msem 95 = true := by decide +kernel
theorem mm_96 : mj_msem 96 = true := by decide +kernel
theorem mm_97 : mj_msem 97 = true := by decide +kernel
theorem mm_98 : mj_msem 98 = true := by decide +kernel
theorem mm_99 : mj_msem 99 = true := by decide +kernel
theorem mm_100 : mj_msem 100 = true := by decide +kernel
theorem mm_101 : mj_msem 101 = true := by decide +kernel
theorem mm_102 : mj_msem 102 = true := by decide +kernel
theorem mm_103 : mj_msem 103 = true := by decide +kernel
theorem mm_104 : mj_msem 104 = true := by decide +kernel
theorem mm_105 : mj_msem 105 = true := by decide +kernel
theorem mm_106 : mj_msem 106 = true := by decide +kernel
theorem mm_107 : mj_msem 107 = true := by decide +kernel
theorem mm_108 : mj_msem 108 = true := by decide +kernel
theorem mm_109 : mj_msem 109 = true := by decide +kernel
theorem mm_110 : mj_msem 110 = true := by decide +kernel
theorem mm_111 : mj_msem 111 = true := by decide +kernel
theorem mm_112 : mj_msem 112 = true := by decide +kernel
theorem mm_113 : mj_msem 113 = true := by decide +kernel
theorem mm_114 : mj_msem 114 = true := by decide +kernel
theorem mm_115 : mj_msem 115 = true := by decide +kernel
theorem mm_116 : mj_msem 116 = true := by decide +kernel
theorem mm_117 : mj_msem 117 = true := by decide +kernel
theorem mm_118 : mj_msem 118 = true := by decide +kernel
theorem mm_119 : mj_msem 119 = true := by decide +kernel
theorem mm_120 : mj_msem 120 = true := by decide +kernel
theorem mm_121 : mj_msem 121 = true := by decide +kernel
theorem mm_122 : mj_msem 122 = true := by decide +kernel
theorem mm_123 : mj_msem 123 = true := by decide +kernel
theorem mm_124 : mj_msem 124 = true := by decide +kernel
theorem mm_125 : mj_msem 125 = true := by decide +kernel
theorem mm_126 : mj_msem 126 = true := by decide +kernel
theorem mm_127 : mj_msem 127 = true := by decide +kernel
theorem mm_128 : mj_msem 128 = true := by decide +kernel
theorem mm_129 : mj_msem 129 = true := by decide +kernel
theorem mm_130 : mj_msem 130 = true := by decide +kernel
theorem mm_131 : mj_msem 131 = true := by decide +kernel
theorem mm_132 : mj_msem 132 = true := by decide +kernel
theorem mm_133 : mj_msem 133 = true := by decide +kernel
theorem mm_134 : mj_msem 134 = true := by decide +kernel
theorem mm_135 : mj_msem 135 = true := by decide +kernel
theorem mm_136 : mj_msem 136 = true := by decide +kernel
theorem mm_137 : mj_msem 137 = true := by decide +kernel
theorem mm_138 : mj_msem 138 = true := by decide +kernel
theorem mm_139 : mj_msem 139 = true := by decide +kernel
theorem mm_140 : mj_msem 140 = true := by decide +kernel
theorem mm_141 : mj_msem 141 = true := by decide +kernel
theorem mm_142 : mj_msem 142 = true := by decide +kernel
theorem mm_143 : mj_msem 143 = true := by decide +kernel
theorem mm_144 : mj_msem 144 = true := by decide +kernel
theorem mm_145 : mj_msem 145 = true := by decide +kernel
theorem mm_146 : mj_msem 146 = true := by decide +kernel
theorem mm_147 : mj_msem 147 = true := by decide +kernel
theorem mm_148 : mj_msem 148 = true := by decide +kernel
theorem mm_149 : mj_msem 149 = true := by decide +kernel
theorem mm_150 : mj_msem 150 = true := by decide +kernel
theorem mm_151 : mj_msem 151 = true := by decide +kernel
theorem mm_152 : mj_msem 152 = true := by decide +kernel
theorem mm_153 : mj_msem 153 = true := by decide +kernel
theorem mm_154 : mj_msem 154 = true := by decide +kernel
theorem mm_155 : mj_msem 155 = true := by decide +kernel
theorem mm_156 : mj_msem 156 = true := by decide +kernel
theorem mm_157 : mj_msem 157 = true := by decide +kernel
theorem mm_158 : mj_msem 158 = true := by decide +kernel
theorem mm_159 : mj_msem 159 = true := by decide +kernel
theorem mm_160 : mj_msem 160 = true := by decide +kernel
theorem mm_161 : mj_msem 161 = true := by decide +kernel
theorem mm_162 : mj_msem 162 = true := by decide +kernel
theorem mm_163 : mj_msem 163 = true := by decide +kernel
theorem mm_164 : mj_msem 164 = true := by decide +kernel
theorem mm_165 : mj_msem 165 = true := by decide +kernel
theorem mm_166 : mj_msem 166 = true := by decide +kernel
theorem mm_167 : mj_msem 167 = true := by decide +kernel
theorem mm_168 : mj_msem 168 = true := by decide +kernel
theorem mm_169 : mj_msem 169 = true := by decide +kernel
theorem mm_170 : mj_msem 170 = true := by decide +kernel
theorem mm_171 : mj_msem 171 = true := by decide +kernel
theorem mm_172 : mj_msem 172 = true := by decide +kernel
theorem mm_173 : mj_msem 173 = true := by decide +kernel
theorem mm_174 : mj_msem 174 = true := by decide +kernel
theorem mm_175 : mj_msem 175 = true := by decide +kernel
theorem mm_176 : mj_msem 176 = true := by decide +kernel
theorem mm_177 : mj_msem 177 = true := by decide +kernel
theorem mm_178 : mj_msem 178 = true := by decide +kernel
theorem mm_179 : mj_msem 179 = true := by decide +kernel
theorem mm_180 : mj_msem 180 = true := by decide +kernel
theorem mm_181 : mj_msem 181 = true := by decide +kernel
theorem mm_182 : mj_msem 182 = true := by decide +kernel
theorem mm_183 : mj_msem 183 = true := by decide +kernel
theorem mm_184 : mj_msem 184 = true := by decide +kernel
theorem mm_185 : mj_msem 185 = true := by decide +kernel
theorem mm_186 : mj_msem 186 = true := by decide +kernel
theorem mm_187 : mj_msem 187 = true := by decide +kernel
theorem mm_188 : mj_msem 188 = true := by decide +kernel
theorem mm_189 : mj_msem 189 = true := by decide +kernel
theorem mm_190 : mj_msem 190 = true := by decide +kernel
theorem mm_191 : mj_msem 191 = true := by decide +kernel
theorem mm_192 : mj_msem 192 = true := by decide +kernel
theorem mm_193 : mj_msem 193 = true := by decide +kernel
theorem mm_194 : mj_msem 194 = true := by decide +kernel
theorem mm_195 : mj_msem 195 = true := by decide +kernel
theorem mm_196 : mj_msem 196 = true := by decide +kernel
theorem mm_197 : mj_msem 197 = true := by decide +kernel
theorem mm_198 : mj_msem 198 = true := by decide +kernel
theorem mm_199 : mj_msem 199 = true := by decide +kernel
theorem mm_200 : mj_msem 200 = true := by decide +kernel
theorem mm_201 : mj_msem 201 = true := by decide +kernel
theorem mm_202 : mj_msem 202 = true := by decide +kernel
theorem mm_203 : mj_msem 203 = true := by decide +kernel
theorem mm_204 : mj_msem 204 = true := by decide +kernel
theorem mm_205 : mj_msem 205 = true := by decide +kernel
theorem mm_206 : mj_msem 206 = true := by decide +kernel
theorem mm_207 : mj_msem 207 = true := by decide +kernel
theorem mm_208 : mj_msem 208 = true := by decide +kernel
theorem mm_209 : mj_msem 209 = true := by decide +kernel
theorem mm_210 : mj_msem 210 = true := by decide +kernel
theorem mm_211 : mj_msem 211 = true := by decide +kernel
theorem mm_212 : mj_msem 212 = true := by decide +kernel
theorem mm_213 : mj_msem 213 = true := by decide +kernel
theorem mm_214 : mj_msem 214 = true := by decide +kernel
theorem mm_215 : mj_msem 215 = true := by decide +kernel
theorem mm_216 : mj_msem 216 = true := by decide +kernel
theorem mm_217 : mj_msem 217 = true := by decide +kernel
theorem mm_218 : mj_msem 218 = true := by decide +kernel
theorem mm_219 : mj_msem 219 = true := by decide +kernel
theorem mm_220 : mj_msem 220 = true := by decide +kernel
theorem mm_221 : mj_msem 221 = true := by decide +kernel
theorem mm_222 : mj_msem 222 = true := by decide +kernel
theorem mm_223 : mj_msem 223 = true := by decide +kernel
theorem mm_224 : mj_msem 224 = true := by decide +kernel
theorem mm_225 : mj_msem 225 = true := by decide +kernel
theorem mm_226 : mj_msem 226 = true := by decide +kernel
theorem mm_227 : mj_msem 227 = true := by decide +kernel
theorem mm_228 : mj_msem 228 = true := by decide +kernel
theorem mm_229 : mj_msem 229 = true := by decide +kernel
theorem mm_230 : mj_msem 230 = true := by decide +kernel
theorem mm_231 : mj_msem 231 = true := by decide +kernel
theorem mm_232 : mj_msem 232 = true := by decide +kernel
theorem mm_233 : mj_msem 233 = true := by decide +kernel
theorem mm_234 : mj_msem 234 = true := by decide +kernel
theorem mm_235 : mj_msem 235 = true := by decide +kernel
theorem mm_236 : mj_msem 236 = true := by decide +kernel
theorem mm_237 : mj_msem 237 = true := by decide +kernel
theorem mm_238 : mj_msem 238 = true := by decide +kernel
theorem mm_239 : mj_msem 239 = true := by decide +kernel
theorem mm_240 : mj_msem 240 = true := by decide +kernel
theorem mm_241 : mj_msem 241 = true := by decide +kernel
theorem mm_242 : mj_msem 242 = true := by decide +kernel
theorem mm_243 : mj_msem 243 = true := by decide +kernel
theorem mm_244 : mj_msem 244 = true := by decide +kernel
theorem mm_245 : mj_msem 245 = true := by decide +kernel
theorem mm_246 : mj_msem 246 = true := by decide +kernel
theorem mm_247 : mj_msem 247 = true := by decide +kernel
theorem mm_248 : mj_msem 248 = true := by decide +kernel
theorem mm_249 : mj_msem 249 = true := by decide +kernel
theorem mm_250 : mj_msem 250 = true := by decide +kernel
theorem mm_251 : mj_msem 251 = true := by decide +kernel
theorem mm_252 : mj_msem 252 = true := by decide +kernel
theorem mm_253 : mj_msem 253 = true := by decide +kernel
theorem mm_254 : mj_msem 254 = true := by decide +kernel
theorem mm_255 : mj_msem 255 = true := by decide +kernel
theorem mm_256 : mj_msem 256 = true := by decide +kernel
theorem mm_257 : mj_msem 257 = true := by decide +kernel
theorem mm_258 : mj_msem 258 = true := by decide +kernel
theorem mm_259 : mj_msem 259 = true := by decide +kernel
theorem mm_260 : mj_msem 260 = true := by decide +kernel
theorem mm_261 : mj_msem 261 = true := by decide +kernel
theorem mm_262 : mj_msem 262 = true := by decide +kernel
theorem mm_263 : mj_msem 263 = true := by decide +kernel
theorem mm_264 : mj_msem 264 = true := by decide +kernel
theorem mm_265 : mj_msem 265 = true := by decide +kernel
theorem mm_266 : mj_msem 266 = true := by decide +kernel
theorem mm_267 : mj_msem 267 = true := by decide +kernel
theorem mm_268 : mj_msem 268 = true := by decide +kernel
theorem mm_269 : mj_msem 269 = true := by decide +kernel
theorem mm_270 : mj_msem 270 = true := by decide +kernel
theorem mm_271 : mj_msem 271 = true := by decide +kernel
theorem mm_272 : mj_msem 272 = true := by decide +kernel
theorem mm_273 : mj_msem 273 = true := by decide +kernel
theorem mm_274 : mj_msem 274 = true := by decide +kernel
theorem mm_275 : mj_msem 275 = true := by decide +kernel
theorem mm_276 : mj_msem 276 = true := by decide +kernel
theorem mm_277 : mj_msem 277 = true := by decide +kernel
theorem mm_278 : mj_msem 278 = true := by decide +kernel
theorem mm_279 : mj_msem 279 = true := by decide +kernel
theorem mm_280 : mj_msem 280 = true := by decide +kernel
theorem mm_281 : mj_msem 281 = true := by decide +kernel
theorem mm_282 : mj_msem 282 = true := by decide +kernel
theorem mm_283 : mj_msem 283 = true := by decide +kernel
theorem mm_284 : mj_msem 284 = true := by decide +kernel
theorem mm_285 : mj_msem 285 = true := by decide +kernel
theorem mm_286 : mj_msem 286 = true := by decide +kernel
theorem mma_0 : mj_all mj_msem 0 24 = true := by
  simp only [mj_all, Bool.and_eq_true, and_true]
  exact ⟨mm_0, mm_1, mm_2, mm_3, mm_4, mm_5, mm_6, mm_7, mm_8, mm_9, mm_10, mm_11, mm_12, mm_13, mm_14, mm_15, mm_16, mm_17, mm_18, mm_19, mm_20, mm_21, mm_22, mm_23⟩
theorem mma_1 : mj_all mj_msem 24 24 = true := by
  simp only [mj_all, Bool.and_eq_true, and_true]
  exact ⟨mm_24, mm_25, mm_26, mm_27, mm_28, mm_29, mm_30, mm_31, mm_32, mm_33, mm_34, mm_35, mm_36, mm_37, mm_38, mm_39, mm_40, mm_41, mm_42, mm_43, mm_44, mm_45, mm_46, mm_47⟩
theorem mma_2 : mj_all mj_msem 48 24 = true := by
  simp only [mj_all, Bool.and_eq_true, and_true]
  exact ⟨mm_48, mm_49, mm_50, mm_51, mm_52, mm_53, mm_54, mm_55, mm_56, mm_57, mm_58, mm_59, mm_60, mm_61, mm_62, mm_63, mm_64, mm_65, mm_66, mm_67, mm_68, mm_69, mm_70, mm_71⟩
theorem mma_3 : mj_all mj_msem 72 24 = true := by
  simp only [mj_all, Bool.and_eq_true, and_true]
  exact ⟨mm_72, mm_73, mm_74, mm_75, mm_76, mm_77, mm_78, mm_79, mm_80, mm_81, mm_82, mm_83, mm_84, mm_85, mm_86, mm_87, mm_88, mm_89, mm_90, mm_91, mm_92, mm_93, mm_94, mm_95⟩
theorem mma_4 : mj_all mj_msem 96 24 = true := by
  simp only [mj_all, Bool.and_eq_true, and_true]
  exact ⟨mm_96, mm_97, mm_98, mm_99, mm_100, mm_101, mm_102, mm_103, mm_104, mm_105, mm_106, mm_107, mm_108, mm_109, mm_110, mm_111, mm_112, mm_113, mm_114, mm_115, mm_116, mm_117, mm_118, mm_119⟩
theorem mma_5 : mj_all mj_msem 120 24 = true := by
  simp only [mj_all, Bool.and_eq_true, and_true]
  exact ⟨mm_120, mm_121, mm_122, mm_123, mm_124, mm_125, mm_126, mm_127, mm_128, mm_129, mm_130, mm_131, mm_132, mm_133, mm_134, mm_135, mm_136, mm_137, mm_138, mm_139, mm_140, mm_141, mm_142, mm_143⟩
theorem mma_6 : mj_all mj_msem 144 24 = true := by
  simp only [mj_all, Bool.and_eq_true, and_true]
  exact ⟨mm_144, mm_145, mm_146, mm_147, mm_148, mm_149, mm_150, mm_151, mm_152, mm_153, mm_154, mm_155, mm_156, mm_157, mm_158, mm_159, mm_160, mm_161, mm_162, mm_163, mm_164, mm_165, mm_166, mm_167⟩
theorem mma_7 : mj_all mj_msem 168 24 = true := by
  simp only [mj_all, Bool.and_eq_true, and_true]
  exact ⟨mm_168, mm_169, mm_170, mm_171, mm_172, mm_173, mm_174, mm_175, mm_176, mm_177, mm_178, mm_179, mm_180, mm_181, mm_182, mm_183, mm_184, mm_185, mm_186, mm_187, mm_188, mm_189, mm_190, mm_191⟩
theorem mma_8 : mj_all mj_msem 192 24 = true := by
  simp only [mj_all, Bool.and_eq_true, and_true]
  exact ⟨mm_192, mm_193, mm_194, mm_195, mm_196, mm_197, mm_198, mm_199, mm_200, mm_201, mm_202, mm_203, mm_204, mm_205, mm_206, mm_207, mm_208, mm_209, mm_210, mm_211, mm_212, mm_213, mm_214, mm_215⟩
theorem mma_9 : mj_all mj_msem 216 24 = true := by
  simp only [mj_all, Bool.and_eq_true, and_true]
  exact ⟨mm_216, mm_217, mm_218, mm_219, mm_220, mm_221, mm_222, mm_223, mm_224, mm_225, mm_226, mm_227, mm_228, mm_229, mm_230, mm_231, mm_232, mm_233, mm_234, mm_235, mm_236, mm_237, mm_238, mm_239⟩
theorem mma_10 : mj_all mj_msem 240 24 = true := by
  simp only [mj_all, Bool.and_eq_true, and_true]
  exact ⟨mm_240, mm_241, mm_242, mm_243, mm_244, mm_245, mm_246, mm_247, mm_248, mm_249, mm_250, mm_251, mm_252, mm_253, mm_254, mm_255, mm_256, mm_257, mm_258, mm_259, mm_260, mm_261, mm_262, mm_263⟩
theorem mma_11 : mj_all mj_msem 264 23 = true := by
  simp only [mj_all, Bool.and_eq_true, and_true]
  exact ⟨mm_264, mm_265, mm_266, mm_267, mm_268, mm_269, mm_270, mm_271, mm_272, mm_273, mm_274, mm_275, mm_276, mm_277, mm_278, mm_279, mm_280, mm_281, mm_282, mm_283, mm_284, mm_285, mm_286⟩
theorem mj_msem_all (k : Nat) (hk : k < 287) : mj_msem k = true := by
  by_cases h0 : k < 24
  · exact mj_all_ok 24 0 mma_0 k (by omega) (by omega)
  by_cases h1 : k < 48
  · exact mj_all_ok 24 24 mma_1 k (by omega) (by omega)
  by_cases h2 : k < 72
  · exact mj_all_ok 24 48 mma_2 k (by omega) (by omega)
  by_cases h3 : k < 96
  · exact mj_all_ok 24 72 mma_3 k (by omega) (by omega)
  by_cases h4 : k < 120
  · exact mj_all_ok 24 96 mma_4 k (by omega) (by omega)
  by_cases h5 : k < 144
  · exact mj_all_ok 24 120 mma_5 k (by omega) (by omega)
  by_cases h6 : k < 168
  · exact mj_all_ok 24 144 mma_6 k (by omega) (by omega)
  by_cases h7 : k < 192
  · exact mj_all_ok 24 168 mma_7 k (by omega) (by omega)
  by_cases h8 : k < 216
  · exact mj_all_ok 24 192 mma_8 k (by omega) (by omega)
  by_cases h9 : k < 240
  · exact mj_all_ok 24 216 mma_9 k (by omega) (by omega)
  by_cases h10 : k < 264
  · exact mj_all_ok 24 240 mma_10 k (by omega) (by omega)
  by_cases h11 : k < 287
  · exact mj_all_ok 23 264 mma_11 k (by omega) (by omega)
  omega
theorem mj_m_ok {k : Nat} (hk : k < 287) : (∀ q ∈ mj_mwd k, q.1 ∈ mj_tb) ∧ (parseMethodDescriptor (mj_y k).desc).map (fun d => d.parameters.length) = some (mj_na k - (if mj_kd k = 1 then 0 else 1)) ∧ (mj_own k ≠ "java/lang/invoke/MethodHandle" ∧ mj_own k ≠ "java/lang/invoke/VarHandle") ∧ (k = 69 ∨ plainName (mj_own k) = true) ∧ (mj_kd k = 1 ∨ (mj_oc k < 13 ∧ mj_cn (mj_oc k) = mj_own k ∧ 1 ≤ mj_na k)) ∧ (mj_kd k ≠ 2 ∨ ((mj_y k).name = "<init>" ∧ mj_rt k = 0)) ∧ (mj_na k ≤ mj_ml k ∧ mj_ml k ≤ 30 ∧ mj_kd k < 3 ∧ mj_rt k < 3) ∧ mj_owns.getD (mj_oc k) "" = mj_own k := by
  have h1 := mj_msem_all k hk
  unfold mj_msem at h1
  simp only [Bool.and_eq_true, List.all_eq_true, Bool.or_eq_true, decide_eq_true_eq] at h1
  obtain ⟨⟨⟨⟨⟨⟨⟨a1, a2⟩, a3⟩, a4⟩, a5⟩, a6⟩, a7⟩, a8⟩ := h1
  refine ⟨fun q hq => mj_hit_ok (a1 q hq), a2, a3, a4, ?_, a6, a7, a8⟩
  rcases a5 with q | ⟨⟨q1, q2⟩, q3⟩
  · exact Or.inl q
  · exact Or.inr ⟨q1, q2, q3⟩
