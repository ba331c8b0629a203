section ins3
variable {d : Nat} {L st : List mj_V} {G : mj_G} {M : mj_M} {Q : Option mj_V → mj_G → mj_M → Prop} {l0 l1 l2 l3 l4 l5 l6 l7 l8 l9 l10 l11 : mj_V} {x y z x0 x1 x2 x3 x4 x5 x6 x7 : Int} {a b a0 a1 a2 a3 : Nat}
theorem i_287_0 : mj_Rn d 287 0 L st G M Q = mj_Rn d 287 3 L (.inr (.inl G.1) :: st) (mj_new G 0) (mj_upr M G.1 fun _ => 0) Q := op_new (by decide +kernel) (by decide +kernel) (by decide)
theorem i_287_3 : mj_Rn d 287 3 L (.inr (.inl a) :: st) G M Q = mj_Rn d 287 4 L (.inr (.inl a) :: .inr (.inl a) :: st) G M Q := op_dupA (by decide +kernel)
theorem i_287_4 : mj_Rn (d + 1) 287 4 L (.inr (.inl a) :: st) G M Q = (st.length ≤ 4 ∧ mj_isO G a 0 = true ∧ mj_Rn d 0 0 [.inr (.inl a)] [] G M fun r G' M' => mj_Rn (d + 1) 287 7 L (r.toList ++ st) G' M' Q) := op_callV (as := []) (m := 1) (ci := 0) (kd := 2) (Or.inr (Or.inr rfl)) (by decide +kernel) (by decide +kernel) (by decide) (by decide +kernel) rfl rfl
theorem i_287_7 : mj_Rn d 287 7 (l0 :: l1 :: L) (.inr (.inl a) :: st) G M Q = mj_Rn d 287 8 (l0 :: .inr (.inl a) :: L) st G M Q := op_astore_n (by decide +kernel) (by simp)
theorem i_287_8 : mj_Rn d 287 8 L st G M Q = mj_Rn d 287 11 L (.inr (.inl G.1) :: st) (mj_new G 12) (mj_upr M G.1 fun _ => 0) Q := op_new (by decide +kernel) (by decide +kernel) (by decide)
theorem i_287_11 : mj_Rn d 287 11 L (.inr (.inl a) :: st) G M Q = mj_Rn d 287 12 L (.inr (.inl a) :: .inr (.inl a) :: st) G M Q := op_dupA (by decide +kernel)
theorem i_287_12 : mj_Rn (d + 1) 287 12 L (.inr (.inl a) :: st) G M Q = (st.length ≤ 4 ∧ mj_isO G a 12 = true ∧ mj_Rn d 170 0 [.inr (.inl a), .inr (.inr 0), .inr (.inr 0)] [] G M fun r G' M' => mj_Rn (d + 1) 287 15 L (r.toList ++ st) G' M' Q) := op_callV (as := []) (m := 3) (ci := 12) (kd := 2) (Or.inr (Or.inr rfl)) (by decide +kernel) (by decide +kernel) (by decide) (by decide +kernel) rfl rfl
theorem i_287_15 : mj_Rn d 287 15 (l0 :: l1 :: l2 :: L) (.inr (.inl a) :: st) G M Q = mj_Rn d 287 16 (l0 :: l1 :: .inr (.inl a) :: L) st G M Q := op_astore_n (by decide +kernel) (by simp)
theorem i_287_16 : mj_Rn d 287 16 L st G M Q = mj_Rn d 287 17 L (.inl 0 :: st) G M Q := op_iconst (by decide +kernel)
theorem i_287_17 : mj_Rn d 287 17 (l0 :: l1 :: l2 :: l3 :: L) (.inl x :: st) G M Q = mj_Rn d 287 18 (l0 :: l1 :: l2 :: .inl x :: L) st G M Q := op_istore_n (by decide +kernel) (by simp)
theorem i_287_18 : mj_Rn d 287 18 (l0 :: l1 :: l2 :: .inl x :: L) st G M Q = mj_Rn d 287 19 (l0 :: l1 :: l2 :: .inl x :: L) (.inl x :: st) G M Q := op_iload_n (by decide +kernel) rfl
theorem i_287_19 : mj_Rn d 287 19 (.inr (.inl a) :: L) st G M Q = mj_Rn d 287 20 (.inr (.inl a) :: L) (.inr (.inl a) :: st) G M Q := op_aload_n (by decide +kernel) rfl
theorem i_287_20 : mj_Rn d 287 20 L (.inr (.inl a) :: st) G M Q = (∃ len, mj_ai G M a = some len ∧ mj_Rn d 287 21 L (.inl len :: st) G M Q) := op_alen (by decide +kernel)
theorem i_287_21 : mj_Rn d 287 21 L st G M Q = mj_Rn d 287 22 L (.inl 5 :: st) G M Q := op_iconst (by decide +kernel)
theorem i_287_22 : mj_Rn d 287 22 L (.inl y :: .inl x :: st) G M Q = mj_Rn d 287 23 L (.inl (mj_w (x - y)) :: st) G M Q := op_isub (by decide +kernel)
theorem i_287_23 : mj_Rn d 287 23 L (.inl y :: .inl x :: st) G M Q = ((y < x → mj_Rn d 287 1367 L st G M Q) ∧ (¬ y < x → mj_Rn d 287 26 L st G M Q)) := op_gt (by decide +kernel) (by decide)
theorem i_287_26 : mj_Rn d 287 26 (.inr (.inl a) :: L) st G M Q = mj_Rn d 287 27 (.inr (.inl a) :: L) (.inr (.inl a) :: st) G M Q := op_aload_n (by decide +kernel) rfl
theorem i_287_27 : mj_Rn d 287 27 (l0 :: l1 :: l2 :: .inl x :: L) st G M Q = mj_Rn d 287 28 (l0 :: l1 :: l2 :: .inl x :: L) (.inl x :: st) G M Q := op_iload_n (by decide +kernel) rfl
theorem i_287_28 : mj_Rn d 287 28 L (.inl x :: .inr (.inl a) :: st) G M Q = (∃ len, mj_ai G M a = some len ∧ (0 ≤ x ∧ x < len) ∧ mj_Rn d 287 29 L (.inl (M a x.toNat) :: st) G M Q) := op_iaload (by decide +kernel)
theorem i_287_29 : mj_Rn d 287 29 L st G M Q = mj_Rn d 287 31 L (.inl 63 :: st) G M Q := op_bipush (by decide +kernel)
theorem i_287_31 : mj_Rn d 287 31 L (.inl y :: .inl x :: st) G M Q = mj_Rn d 287 32 L (.inl (mj_and x y) :: st) G M Q := op_iand (by decide +kernel)
theorem i_287_32 : mj_Rn d 287 32 L (.inl x :: st) G M Q = ((x = 0 → mj_Rn d 287 204 L st G M Q) ∧ (¬ x = 0 → ((x = 1 → mj_Rn d 287 257 L st G M Q) ∧ (¬ x = 1 → ((x = 2 → mj_Rn d 287 290 L st G M Q) ∧ (¬ x = 2 → ((x = 3 → mj_Rn d 287 333 L st G M Q) ∧ (¬ x = 3 → ((x = 4 → mj_Rn d 287 366 L st G M Q) ∧ (¬ x = 4 → ((x = 5 → mj_Rn d 287 399 L st G M Q) ∧ (¬ x = 5 → ((x = 6 → mj_Rn d 287 432 L st G M Q) ∧ (¬ x = 6 → ((x = 7 → mj_Rn d 287 465 L st G M Q) ∧ (¬ x = 7 → ((x = 8 → mj_Rn d 287 488 L st G M Q) ∧ (¬ x = 8 → ((x = 9 → mj_Rn d 287 521 L st G M Q) ∧ (¬ x = 9 → ((x = 10 → mj_Rn d 287 554 L st G M Q) ∧ (¬ x = 10 → ((x = 11 → mj_Rn d 287 587 L st G M Q) ∧ (¬ x = 11 → ((x = 12 → mj_Rn d 287 620 L st G M Q) ∧ (¬ x = 12 → ((x = 13 → mj_Rn d 287 663 L st G M Q) ∧ (¬ x = 13 → ((x = 14 → mj_Rn d 287 696 L st G M Q) ∧ (¬ x = 14 → ((x = 15 → mj_Rn d 287 729 L st G M Q) ∧ (¬ x = 15 → ((x = 16 → mj_Rn d 287 752 L st G M Q) ∧ (¬ x = 16 → ((x = 17 → mj_Rn d 287 775 L st G M Q) ∧ (¬ x = 17 → ((x = 18 → mj_Rn d 287 808 L st G M Q) ∧ (¬ x = 18 → ((x = 19 → mj_Rn d 287 831 L st G M Q) ∧ (¬ x = 19 → ((x = 20 → mj_Rn d 287 874 L st G M Q) ∧ (¬ x = 20 → ((x = 21 → mj_Rn d 287 897 L st G M Q) ∧ (¬ x = 21 → ((x = 22 → mj_Rn d 287 910 L st G M Q) ∧ (¬ x = 22 → ((x = 23 → mj_Rn d 287 943 L st G M Q) ∧ (¬ x = 23 → ((x = 24 → mj_Rn d 287 986 L st G M Q) ∧ (¬ x = 24 → ((x = 25 → mj_Rn d 287 1009 L st G M Q) ∧ (¬ x = 25 → ((x = 26 → mj_Rn d 287 1042 L st G M Q) ∧ (¬ x = 26 → ((x = 27 → mj_Rn d 287 1055 L st G M Q) ∧ (¬ x = 27 → ((x = 28 → mj_Rn d 287 1068 L st G M Q) ∧ (¬ x = 28 → ((x = 29 → mj_Rn d 287 1091 L st G M Q) ∧ (¬ x = 29 → ((x = 30 → mj_Rn d 287 1104 L st G M Q) ∧ (¬ x = 30 → ((x = 31 → mj_Rn d 287 1117 L st G M Q) ∧ (¬ x = 31 → ((x = 32 → mj_Rn d 287 1150 L st G M Q) ∧ (¬ x = 32 → ((x = 33 → mj_Rn d 287 1193 L st G M Q) ∧ (¬ x = 33 → ((x = 34 → mj_Rn d 287 1216 L st G M Q) ∧ (¬ x = 34 → ((x = 35 → mj_Rn d 287 1249 L st G M Q) ∧ (¬ x = 35 → ((x = 36 → mj_Rn d 287 1262 L st G M Q) ∧ (¬ x = 36 → ((x = 37 → mj_Rn d 287 1285 L st G M Q) ∧ (¬ x = 37 → ((x = 38 → mj_Rn d 287 1338 L st G M Q) ∧ (¬ x = 38 → mj_Rn d 287 1361 L st G M Q)))))))))))))))))))))))))))))))))))))))))))))))))))))))))))))))))))))))))))))) := op_tsw (by decide +kernel)
theorem i_287_204 : mj_Rn d 287 204 (l0 :: .inr (.inl a) :: L) st G M Q = mj_Rn d 287 205 (l0 :: .inr (.inl a) :: L) (.inr (.inl a) :: st) G M Q := op_aload_n (by decide +kernel) rfl
theorem i_287_205 : mj_Rn d 287 205 (.inr (.inl a) :: L) st G M Q = mj_Rn d 287 206 (.inr (.inl a) :: L) (.inr (.inl a) :: st) G M Q := op_aload_n (by decide +kernel) rfl
theorem i_287_206 : mj_Rn d 287 206 (l0 :: l1 :: l2 :: .inl x :: L) st G M Q = mj_Rn d 287 207 (l0 :: l1 :: l2 :: .inl x :: L) (.inl x :: st) G M Q := op_iload_n (by decide +kernel) rfl
theorem i_287_207 : mj_Rn d 287 207 L st G M Q = mj_Rn d 287 208 L (.inl 1 :: st) G M Q := op_iconst (by decide +kernel)
theorem i_287_208 : mj_Rn d 287 208 L (.inl y :: .inl x :: st) G M Q = mj_Rn d 287 209 L (.inl (mj_w (x + y)) :: st) G M Q := op_iadd (by decide +kernel)
theorem i_287_209 : mj_Rn d 287 209 L (.inl x :: .inr (.inl a) :: st) G M Q = (∃ len, mj_ai G M a = some len ∧ (0 ≤ x ∧ x < len) ∧ mj_Rn d 287 210 L (.inl (M a x.toNat) :: st) G M Q) := op_iaload (by decide +kernel)
theorem i_287_210 : mj_Rn d 287 210 (.inr (.inl a) :: L) st G M Q = mj_Rn d 287 211 (.inr (.inl a) :: L) (.inr (.inl a) :: st) G M Q := op_aload_n (by decide +kernel) rfl
theorem i_287_211 : mj_Rn d 287 211 (l0 :: l1 :: l2 :: .inl x :: L) st G M Q = mj_Rn d 287 212 (l0 :: l1 :: l2 :: .inl x :: L) (.inl x :: st) G M Q := op_iload_n (by decide +kernel) rfl
theorem i_287_212 : mj_Rn d 287 212 L st G M Q = mj_Rn d 287 213 L (.inl 2 :: st) G M Q := op_iconst (by decide +kernel)
theorem i_287_213 : mj_Rn d 287 213 L (.inl y :: .inl x :: st) G M Q = mj_Rn d 287 214 L (.inl (mj_w (x + y)) :: st) G M Q := op_iadd (by decide +kernel)
theorem i_287_214 : mj_Rn d 287 214 L (.inl x :: .inr (.inl a) :: st) G M Q = (∃ len, mj_ai G M a = some len ∧ (0 ≤ x ∧ x < len) ∧ mj_Rn d 287 215 L (.inl (M a x.toNat) :: st) G M Q) := op_iaload (by decide +kernel)
theorem i_287_215 : mj_Rn d 287 215 (.inr (.inl a) :: L) st G M Q = mj_Rn d 287 216 (.inr (.inl a) :: L) (.inr (.inl a) :: st) G M Q := op_aload_n (by decide +kernel) rfl
theorem i_287_216 : mj_Rn d 287 216 (l0 :: l1 :: l2 :: .inl x :: L) st G M Q = mj_Rn d 287 217 (l0 :: l1 :: l2 :: .inl x :: L) (.inl x :: st) G M Q := op_iload_n (by decide +kernel) rfl
theorem i_287_217 : mj_Rn d 287 217 L st G M Q = mj_Rn d 287 218 L (.inl 3 :: st) G M Q := op_iconst (by decide +kernel)
theorem i_287_218 : mj_Rn d 287 218 L (.inl y :: .inl x :: st) G M Q = mj_Rn d 287 219 L (.inl (mj_w (x + y)) :: st) G M Q := op_iadd (by decide +kernel)
theorem i_287_219 : mj_Rn d 287 219 L (.inl x :: .inr (.inl a) :: st) G M Q = (∃ len, mj_ai G M a = some len ∧ (0 ≤ x ∧ x < len) ∧ mj_Rn d 287 220 L (.inl (M a x.toNat) :: st) G M Q) := op_iaload (by decide +kernel)
theorem i_287_220 : mj_Rn d 287 220 (.inr (.inl a) :: L) st G M Q = mj_Rn d 287 221 (.inr (.inl a) :: L) (.inr (.inl a) :: st) G M Q := op_aload_n (by decide +kernel) rfl
theorem i_287_221 : mj_Rn d 287 221 (l0 :: l1 :: l2 :: .inl x :: L) st G M Q = mj_Rn d 287 222 (l0 :: l1 :: l2 :: .inl x :: L) (.inl x :: st) G M Q := op_iload_n (by decide +kernel) rfl
theorem i_287_222 : mj_Rn d 287 222 L st G M Q = mj_Rn d 287 223 L (.inl 4 :: st) G M Q := op_iconst (by decide +kernel)
theorem i_287_223 : mj_Rn d 287 223 L (.inl y :: .inl x :: st) G M Q = mj_Rn d 287 224 L (.inl (mj_w (x + y)) :: st) G M Q := op_iadd (by decide +kernel)
theorem i_287_224 : mj_Rn d 287 224 L (.inl x :: .inr (.inl a) :: st) G M Q = (∃ len, mj_ai G M a = some len ∧ (0 ≤ x ∧ x < len) ∧ mj_Rn d 287 225 L (.inl (M a x.toNat) :: st) G M Q) := op_iaload (by decide +kernel)
theorem i_287_225 : mj_Rn (d + 1) 287 225 L (.inl x3 :: .inl x2 :: .inl x1 :: .inl x0 :: .inr (.inl a) :: st) G M Q = (st.length ≤ 4 ∧ mj_isO G a 0 = true ∧ mj_Rn d 18 0 [.inr (.inl a), .inl x0, .inl x1, .inl x2, .inl x3] [] G M fun r G' M' => mj_Rn (d + 1) 287 228 L (r.toList ++ st) G' M' Q) := op_callV (as := [.inl x0, .inl x1, .inl x2, .inl x3]) (m := 5) (ci := 0) (kd := 0) (Or.inr (Or.inl rfl)) (by decide +kernel) (by decide +kernel) (by decide) (by decide +kernel) rfl rfl
theorem i_287_228 : mj_Rn d 287 228 (l0 :: l1 :: .inr (.inl a) :: L) st G M Q = mj_Rn d 287 229 (l0 :: l1 :: .inr (.inl a) :: L) (.inr (.inl a) :: st) G M Q := op_aload_n (by decide +kernel) rfl
theorem i_287_229 : mj_Rn d 287 229 (.inr (.inl a) :: L) st G M Q = mj_Rn d 287 230 (.inr (.inl a) :: L) (.inr (.inl a) :: st) G M Q := op_aload_n (by decide +kernel) rfl
theorem i_287_230 : mj_Rn d 287 230 (l0 :: l1 :: l2 :: .inl x :: L) st G M Q = mj_Rn d 287 231 (l0 :: l1 :: l2 :: .inl x :: L) (.inl x :: st) G M Q := op_iload_n (by decide +kernel) rfl
theorem i_287_231 : mj_Rn d 287 231 L st G M Q = mj_Rn d 287 232 L (.inl 1 :: st) G M Q := op_iconst (by decide +kernel)
theorem i_287_232 : mj_Rn d 287 232 L (.inl y :: .inl x :: st) G M Q = mj_Rn d 287 233 L (.inl (mj_w (x + y)) :: st) G M Q := op_iadd (by decide +kernel)
theorem i_287_233 : mj_Rn d 287 233 L (.inl x :: .inr (.inl a) :: st) G M Q = (∃ len, mj_ai G M a = some len ∧ (0 ≤ x ∧ x < len) ∧ mj_Rn d 287 234 L (.inl (M a x.toNat) :: st) G M Q) := op_iaload (by decide +kernel)
theorem i_287_234 : mj_Rn d 287 234 (.inr (.inl a) :: L) st G M Q = mj_Rn d 287 235 (.inr (.inl a) :: L) (.inr (.inl a) :: st) G M Q := op_aload_n (by decide +kernel) rfl
theorem i_287_235 : mj_Rn d 287 235 (l0 :: l1 :: l2 :: .inl x :: L) st G M Q = mj_Rn d 287 236 (l0 :: l1 :: l2 :: .inl x :: L) (.inl x :: st) G M Q := op_iload_n (by decide +kernel) rfl
theorem i_287_236 : mj_Rn d 287 236 L st G M Q = mj_Rn d 287 237 L (.inl 2 :: st) G M Q := op_iconst (by decide +kernel)
theorem i_287_237 : mj_Rn d 287 237 L (.inl y :: .inl x :: st) G M Q = mj_Rn d 287 238 L (.inl (mj_w (x + y)) :: st) G M Q := op_iadd (by decide +kernel)
theorem i_287_238 : mj_Rn d 287 238 L (.inl x :: .inr (.inl a) :: st) G M Q = (∃ len, mj_ai G M a = some len ∧ (0 ≤ x ∧ x < len) ∧ mj_Rn d 287 239 L (.inl (M a x.toNat) :: st) G M Q) := op_iaload (by decide +kernel)
theorem i_287_239 : mj_Rn d 287 239 (.inr (.inl a) :: L) st G M Q = mj_Rn d 287 240 (.inr (.inl a) :: L) (.inr (.inl a) :: st) G M Q := op_aload_n (by decide +kernel) rfl
theorem i_287_240 : mj_Rn d 287 240 (l0 :: l1 :: l2 :: .inl x :: L) st G M Q = mj_Rn d 287 241 (l0 :: l1 :: l2 :: .inl x :: L) (.inl x :: st) G M Q := op_iload_n (by decide +kernel) rfl
theorem i_287_241 : mj_Rn d 287 241 L st G M Q = mj_Rn d 287 242 L (.inl 3 :: st) G M Q := op_iconst (by decide +kernel)
theorem i_287_242 : mj_Rn d 287 242 L (.inl y :: .inl x :: st) G M Q = mj_Rn d 287 243 L (.inl (mj_w (x + y)) :: st) G M Q := op_iadd (by decide +kernel)
theorem i_287_243 : mj_Rn d 287 243 L (.inl x :: .inr (.inl a) :: st) G M Q = (∃ len, mj_ai G M a = some len ∧ (0 ≤ x ∧ x < len) ∧ mj_Rn d 287 244 L (.inl (M a x.toNat) :: st) G M Q) := op_iaload (by decide +kernel)
theorem i_287_244 : mj_Rn d 287 244 (.inr (.inl a) :: L) st G M Q = mj_Rn d 287 245 (.inr (.inl a) :: L) (.inr (.inl a) :: st) G M Q := op_aload_n (by decide +kernel) rfl
theorem i_287_245 : mj_Rn d 287 245 (l0 :: l1 :: l2 :: .inl x :: L) st G M Q = mj_Rn d 287 246 (l0 :: l1 :: l2 :: .inl x :: L) (.inl x :: st) G M Q := op_iload_n (by decide +kernel) rfl
theorem i_287_246 : mj_Rn d 287 246 L st G M Q = mj_Rn d 287 247 L (.inl 4 :: st) G M Q := op_iconst (by decide +kernel)
theorem i_287_247 : mj_Rn d 287 247 L (.inl y :: .inl x :: st) G M Q = mj_Rn d 287 248 L (.inl (mj_w (x + y)) :: st) G M Q := op_iadd (by decide +kernel)
theorem i_287_248 : mj_Rn d 287 248 L (.inl x :: .inr (.inl a) :: st) G M Q = (∃ len, mj_ai G M a = some len ∧ (0 ≤ x ∧ x < len) ∧ mj_Rn d 287 249 L (.inl (M a x.toNat) :: st) G M Q) := op_iaload (by decide +kernel)
theorem i_287_249 : mj_Rn (d + 1) 287 249 L (.inl x3 :: .inl x2 :: .inl x1 :: .inl x0 :: .inr (.inl a) :: st) G M Q = (st.length ≤ 4 ∧ mj_isO G a 12 = true ∧ mj_Rn d 180 0 [.inr (.inl a), .inl x0, .inl x1, .inl x2, .inl x3] [] G M fun r G' M' => mj_Rn (d + 1) 287 252 L (r.toList ++ st) G' M' Q) := op_callV (as := [.inl x0, .inl x1, .inl x2, .inl x3]) (m := 5) (ci := 12) (kd := 0) (Or.inr (Or.inl rfl)) (by decide +kernel) (by decide +kernel) (by decide) (by decide +kernel) rfl rfl
theorem i_287_252 : mj_Rn d 287 252 L (.inl y :: .inl x :: st) G M Q = ((x = y → mj_Rn d 287 1361 L st G M Q) ∧ (¬ x = y → mj_Rn d 287 255 L st G M Q)) := op_eq (by decide +kernel) (by decide)
theorem i_287_255 : mj_Rn d 287 255 L st G M Q = mj_Rn d 287 256 L (.inl 0 :: st) G M Q := op_iconst (by decide +kernel)
theorem i_287_256 : mj_Rn d 287 256 L [.inl x] G M Q = ((0 ≤ x ∧ x ≤ 1) ∧ Q (some (.inl x)) G M) := op_zret (by decide +kernel) (by decide +kernel)
theorem i_287_257 : mj_Rn d 287 257 (l0 :: .inr (.inl a) :: L) st G M Q = mj_Rn d 287 258 (l0 :: .inr (.inl a) :: L) (.inr (.inl a) :: st) G M Q := op_aload_n (by decide +kernel) rfl
theorem i_287_258 : mj_Rn d 287 258 (.inr (.inl a) :: L) st G M Q = mj_Rn d 287 259 (.inr (.inl a) :: L) (.inr (.inl a) :: st) G M Q := op_aload_n (by decide +kernel) rfl
theorem i_287_259 : mj_Rn d 287 259 (l0 :: l1 :: l2 :: .inl x :: L) st G M Q = mj_Rn d 287 260 (l0 :: l1 :: l2 :: .inl x :: L) (.inl x :: st) G M Q := op_iload_n (by decide +kernel) rfl
theorem i_287_260 : mj_Rn d 287 260 L st G M Q = mj_Rn d 287 261 L (.inl 1 :: st) G M Q := op_iconst (by decide +kernel)
theorem i_287_261 : mj_Rn d 287 261 L (.inl y :: .inl x :: st) G M Q = mj_Rn d 287 262 L (.inl (mj_w (x + y)) :: st) G M Q := op_iadd (by decide +kernel)
theorem i_287_262 : mj_Rn d 287 262 L (.inl x :: .inr (.inl a) :: st) G M Q = (∃ len, mj_ai G M a = some len ∧ (0 ≤ x ∧ x < len) ∧ mj_Rn d 287 263 L (.inl (M a x.toNat) :: st) G M Q) := op_iaload (by decide +kernel)
theorem i_287_263 : mj_Rn d 287 263 (.inr (.inl a) :: L) st G M Q = mj_Rn d 287 264 (.inr (.inl a) :: L) (.inr (.inl a) :: st) G M Q := op_aload_n (by decide +kernel) rfl
theorem i_287_264 : mj_Rn d 287 264 (l0 :: l1 :: l2 :: .inl x :: L) st G M Q = mj_Rn d 287 265 (l0 :: l1 :: l2 :: .inl x :: L) (.inl x :: st) G M Q := op_iload_n (by decide +kernel) rfl
theorem i_287_265 : mj_Rn d 287 265 L st G M Q = mj_Rn d 287 266 L (.inl 2 :: st) G M Q := op_iconst (by decide +kernel)
theorem i_287_266 : mj_Rn d 287 266 L (.inl y :: .inl x :: st) G M Q = mj_Rn d 287 267 L (.inl (mj_w (x + y)) :: st) G M Q := op_iadd (by decide +kernel)
theorem i_287_267 : mj_Rn d 287 267 L (.inl x :: .inr (.inl a) :: st) G M Q = (∃ len, mj_ai G M a = some len ∧ (0 ≤ x ∧ x < len) ∧ mj_Rn d 287 268 L (.inl (M a x.toNat) :: st) G M Q) := op_iaload (by decide +kernel)
theorem i_287_268 : mj_Rn (d + 1) 287 268 L (.inl x1 :: .inl x0 :: .inr (.inl a) :: st) G M Q = (st.length ≤ 4 ∧ mj_isO G a 0 = true ∧ mj_Rn d 59 0 [.inr (.inl a), .inl x0, .inl x1] [] G M fun r G' M' => mj_Rn (d + 1) 287 271 L (r.toList ++ st) G' M' Q) := op_callV (as := [.inl x0, .inl x1]) (m := 3) (ci := 0) (kd := 0) (Or.inr (Or.inl rfl)) (by decide +kernel) (by decide +kernel) (by decide) (by decide +kernel) rfl rfl
theorem i_287_271 : mj_Rn d 287 271 (l0 :: l1 :: .inr (.inl a) :: L) st G M Q = mj_Rn d 287 272 (l0 :: l1 :: .inr (.inl a) :: L) (.inr (.inl a) :: st) G M Q := op_aload_n (by decide +kernel) rfl
theorem i_287_272 : mj_Rn d 287 272 (.inr (.inl a) :: L) st G M Q = mj_Rn d 287 273 (.inr (.inl a) :: L) (.inr (.inl a) :: st) G M Q := op_aload_n (by decide +kernel) rfl
theorem i_287_273 : mj_Rn d 287 273 (l0 :: l1 :: l2 :: .inl x :: L) st G M Q = mj_Rn d 287 274 (l0 :: l1 :: l2 :: .inl x :: L) (.inl x :: st) G M Q := op_iload_n (by decide +kernel) rfl
theorem i_287_274 : mj_Rn d 287 274 L st G M Q = mj_Rn d 287 275 L (.inl 1 :: st) G M Q := op_iconst (by decide +kernel)
theorem i_287_275 : mj_Rn d 287 275 L (.inl y :: .inl x :: st) G M Q = mj_Rn d 287 276 L (.inl (mj_w (x + y)) :: st) G M Q := op_iadd (by decide +kernel)
theorem i_287_276 : mj_Rn d 287 276 L (.inl x :: .inr (.inl a) :: st) G M Q = (∃ len, mj_ai G M a = some len ∧ (0 ≤ x ∧ x < len) ∧ mj_Rn d 287 277 L (.inl (M a x.toNat) :: st) G M Q) := op_iaload (by decide +kernel)
theorem i_287_277 : mj_Rn d 287 277 (.inr (.inl a) :: L) st G M Q = mj_Rn d 287 278 (.inr (.inl a) :: L) (.inr (.inl a) :: st) G M Q := op_aload_n (by decide +kernel) rfl
theorem i_287_278 : mj_Rn d 287 278 (l0 :: l1 :: l2 :: .inl x :: L) st G M Q = mj_Rn d 287 279 (l0 :: l1 :: l2 :: .inl x :: L) (.inl x :: st) G M Q := op_iload_n (by decide +kernel) rfl
theorem i_287_279 : mj_Rn d 287 279 L st G M Q = mj_Rn d 287 280 L (.inl 2 :: st) G M Q := op_iconst (by decide +kernel)
theorem i_287_280 : mj_Rn d 287 280 L (.inl y :: .inl x :: st) G M Q = mj_Rn d 287 281 L (.inl (mj_w (x + y)) :: st) G M Q := op_iadd (by decide +kernel)
theorem i_287_281 : mj_Rn d 287 281 L (.inl x :: .inr (.inl a) :: st) G M Q = (∃ len, mj_ai G M a = some len ∧ (0 ≤ x ∧ x < len) ∧ mj_Rn d 287 282 L (.inl (M a x.toNat) :: st) G M Q) := op_iaload (by decide +kernel)
theorem i_287_282 : mj_Rn (d + 1) 287 282 L (.inl x1 :: .inl x0 :: .inr (.inl a) :: st) G M Q = (st.length ≤ 4 ∧ mj_isO G a 12 = true ∧ mj_Rn d 212 0 [.inr (.inl a), .inl x0, .inl x1] [] G M fun r G' M' => mj_Rn (d + 1) 287 285 L (r.toList ++ st) G' M' Q) := op_callV (as := [.inl x0, .inl x1]) (m := 3) (ci := 12) (kd := 0) (Or.inr (Or.inl rfl)) (by decide +kernel) (by decide +kernel) (by decide) (by decide +kernel) rfl rfl
theorem i_287_285 : mj_Rn d 287 285 L (.inl y :: .inl x :: st) G M Q = ((x = y → mj_Rn d 287 1361 L st G M Q) ∧ (¬ x = y → mj_Rn d 287 288 L st G M Q)) := op_eq (by decide +kernel) (by decide)
theorem i_287_288 : mj_Rn d 287 288 L st G M Q = mj_Rn d 287 289 L (.inl 0 :: st) G M Q := op_iconst (by decide +kernel)
theorem i_287_289 : mj_Rn d 287 289 L [.inl x] G M Q = ((0 ≤ x ∧ x ≤ 1) ∧ Q (some (.inl x)) G M) := op_zret (by decide +kernel) (by decide +kernel)
theorem i_287_290 : mj_Rn d 287 290 (l0 :: .inr (.inl a) :: L) st G M Q = mj_Rn d 287 291 (l0 :: .inr (.inl a) :: L) (.inr (.inl a) :: st) G M Q := op_aload_n (by decide +kernel) rfl
theorem i_287_291 : mj_Rn d 287 291 (.inr (.inl a) :: L) st G M Q = mj_Rn d 287 292 (.inr (.inl a) :: L) (.inr (.inl a) :: st) G M Q := op_aload_n (by decide +kernel) rfl
theorem i_287_292 : mj_Rn d 287 292 (l0 :: l1 :: l2 :: .inl x :: L) st G M Q = mj_Rn d 287 293 (l0 :: l1 :: l2 :: .inl x :: L) (.inl x :: st) G M Q := op_iload_n (by decide +kernel) rfl
theorem i_287_293 : mj_Rn d 287 293 L st G M Q = mj_Rn d 287 294 L (.inl 1 :: st) G M Q := op_iconst (by decide +kernel)
theorem i_287_294 : mj_Rn d 287 294 L (.inl y :: .inl x :: st) G M Q = mj_Rn d 287 295 L (.inl (mj_w (x + y)) :: st) G M Q := op_iadd (by decide +kernel)
theorem i_287_295 : mj_Rn d 287 295 L (.inl x :: .inr (.inl a) :: st) G M Q = (∃ len, mj_ai G M a = some len ∧ (0 ≤ x ∧ x < len) ∧ mj_Rn d 287 296 L (.inl (M a x.toNat) :: st) G M Q) := op_iaload (by decide +kernel)
theorem i_287_296 : mj_Rn d 287 296 (.inr (.inl a) :: L) st G M Q = mj_Rn d 287 297 (.inr (.inl a) :: L) (.inr (.inl a) :: st) G M Q := op_aload_n (by decide +kernel) rfl
theorem i_287_297 : mj_Rn d 287 297 (l0 :: l1 :: l2 :: .inl x :: L) st G M Q = mj_Rn d 287 298 (l0 :: l1 :: l2 :: .inl x :: L) (.inl x :: st) G M Q := op_iload_n (by decide +kernel) rfl
theorem i_287_298 : mj_Rn d 287 298 L st G M Q = mj_Rn d 287 299 L (.inl 2 :: st) G M Q := op_iconst (by decide +kernel)
theorem i_287_299 : mj_Rn d 287 299 L (.inl y :: .inl x :: st) G M Q = mj_Rn d 287 300 L (.inl (mj_w (x + y)) :: st) G M Q := op_iadd (by decide +kernel)
theorem i_287_300 : mj_Rn d 287 300 L (.inl x :: .inr (.inl a) :: st) G M Q = (∃ len, mj_ai G M a = some len ∧ (0 ≤ x ∧ x < len) ∧ mj_Rn d 287 301 L (.inl (M a x.toNat) :: st) G M Q) := op_iaload (by decide +kernel)
theorem i_287_301 : mj_Rn d 287 301 (.inr (.inl a) :: L) st G M Q = mj_Rn d 287 302 (.inr (.inl a) :: L) (.inr (.inl a) :: st) G M Q := op_aload_n (by decide +kernel) rfl
theorem i_287_302 : mj_Rn d 287 302 (l0 :: l1 :: l2 :: .inl x :: L) st G M Q = mj_Rn d 287 303 (l0 :: l1 :: l2 :: .inl x :: L) (.inl x :: st) G M Q := op_iload_n (by decide +kernel) rfl
theorem i_287_303 : mj_Rn d 287 303 L st G M Q = mj_Rn d 287 304 L (.inl 3 :: st) G M Q := op_iconst (by decide +kernel)
theorem i_287_304 : mj_Rn d 287 304 L (.inl y :: .inl x :: st) G M Q = mj_Rn d 287 305 L (.inl (mj_w (x + y)) :: st) G M Q := op_iadd (by decide +kernel)
theorem i_287_305 : mj_Rn d 287 305 L (.inl x :: .inr (.inl a) :: st) G M Q = (∃ len, mj_ai G M a = some len ∧ (0 ≤ x ∧ x < len) ∧ mj_Rn d 287 306 L (.inl (M a x.toNat) :: st) G M Q) := op_iaload (by decide +kernel)
theorem i_287_306 : mj_Rn (d + 1) 287 306 L (.inl x2 :: .inl x1 :: .inl x0 :: .inr (.inl a) :: st) G M Q = (st.length ≤ 4 ∧ mj_isO G a 0 = true ∧ mj_Rn d 63 0 [.inr (.inl a), .inl x0, .inl x1, .inl x2] [] G M fun r G' M' => mj_Rn (d + 1) 287 309 L (r.toList ++ st) G' M' Q) := op_callV (as := [.inl x0, .inl x1, .inl x2]) (m := 4) (ci := 0) (kd := 0) (Or.inr (Or.inl rfl)) (by decide +kernel) (by decide +kernel) (by decide) (by decide +kernel) rfl rfl
theorem i_287_309 : mj_Rn d 287 309 (l0 :: l1 :: .inr (.inl a) :: L) st G M Q = mj_Rn d 287 310 (l0 :: l1 :: .inr (.inl a) :: L) (.inr (.inl a) :: st) G M Q := op_aload_n (by decide +kernel) rfl
theorem i_287_310 : mj_Rn d 287 310 (.inr (.inl a) :: L) st G M Q = mj_Rn d 287 311 (.inr (.inl a) :: L) (.inr (.inl a) :: st) G M Q := op_aload_n (by decide +kernel) rfl
theorem i_287_311 : mj_Rn d 287 311 (l0 :: l1 :: l2 :: .inl x :: L) st G M Q = mj_Rn d 287 312 (l0 :: l1 :: l2 :: .inl x :: L) (.inl x :: st) G M Q := op_iload_n (by decide +kernel) rfl
theorem i_287_312 : mj_Rn d 287 312 L st G M Q = mj_Rn d 287 313 L (.inl 1 :: st) G M Q := op_iconst (by decide +kernel)
theorem i_287_313 : mj_Rn d 287 313 L (.inl y :: .inl x :: st) G M Q = mj_Rn d 287 314 L (.inl (mj_w (x + y)) :: st) G M Q := op_iadd (by decide +kernel)
theorem i_287_314 : mj_Rn d 287 314 L (.inl x :: .inr (.inl a) :: st) G M Q = (∃ len, mj_ai G M a = some len ∧ (0 ≤ x ∧ x < len) ∧ mj_Rn d 287 315 L (.inl (M a x.toNat) :: st) G M Q) := op_iaload (by decide +kernel)
theorem i_287_315 : mj_Rn d 287 315 (.inr (.inl a) :: L) st G M Q = mj_Rn d 287 316 (.inr (.inl a) :: L) (.inr (.inl a) :: st) G M Q := op_aload_n (by decide +kernel) rfl
theorem i_287_316 : mj_Rn d 287 316 (l0 :: l1 :: l2 :: .inl x :: L) st G M Q = mj_Rn d 287 317 (l0 :: l1 :: l2 :: .inl x :: L) (.inl x :: st) G M Q := op_iload_n (by decide +kernel) rfl
theorem i_287_317 : mj_Rn d 287 317 L st G M Q = mj_Rn d 287 318 L (.inl 2 :: st) G M Q := op_iconst (by decide +kernel)
theorem i_287_318 : mj_Rn d 287 318 L (.inl y :: .inl x :: st) G M Q = mj_Rn d 287 319 L (.inl (mj_w (x + y)) :: st) G M Q := op_iadd (by decide +kernel)
theorem i_287_319 : mj_Rn d 287 319 L (.inl x :: .inr (.inl a) :: st) G M Q = (∃ len, mj_ai G M a = some len ∧ (0 ≤ x ∧ x < len) ∧ mj_Rn d 287 320 L (.inl (M a x.toNat) :: st) G M Q) := op_iaload (by decide +kernel)
theorem i_287_320 : mj_Rn d 287 320 (.inr (.inl a) :: L) st G M Q = mj_Rn d 287 321 (.inr (.inl a) :: L) (.inr (.inl a) :: st) G M Q := op_aload_n (by decide +kernel) rfl
theorem i_287_321 : mj_Rn d 287 321 (l0 :: l1 :: l2 :: .inl x :: L) st G M Q = mj_Rn d 287 322 (l0 :: l1 :: l2 :: .inl x :: L) (.inl x :: st) G M Q := op_iload_n (by decide +kernel) rfl
theorem i_287_322 : mj_Rn d 287 322 L st G M Q = mj_Rn d 287 323 L (.inl 3 :: st) G M Q := op_iconst (by decide +kernel)
theorem i_287_323 : mj_Rn d 287 323 L (.inl y :: .inl x :: st) G M Q = mj_Rn d 287 324 L (.inl (mj_w (x + y)) :: st) G M Q := op_iadd (by decide +kernel)
theorem i_287_324 : mj_Rn d 287 324 L (.inl x :: .inr (.inl a) :: st) G M Q = (∃ len, mj_ai G M a = some len ∧ (0 ≤ x ∧ x < len) ∧ mj_Rn d 287 325 L (.inl (M a x.toNat) :: st) G M Q) := op_iaload (by decide +kernel)
theorem i_287_325 : mj_Rn (d + 1) 287 325 L (.inl x2 :: .inl x1 :: .inl x0 :: .inr (.inl a) :: st) G M Q = (st.length ≤ 4 ∧ mj_isO G a 12 = true ∧ mj_Rn d 215 0 [.inr (.inl a), .inl x0, .inl x1, .inl x2] [] G M fun r G' M' => mj_Rn (d + 1) 287 328 L (r.toList ++ st) G' M' Q) := op_callV (as := [.inl x0, .inl x1, .inl x2]) (m := 4) (ci := 12) (kd := 0) (Or.inr (Or.inl rfl)) (by decide +kernel) (by decide +kernel) (by decide) (by decide +kernel) rfl rfl
theorem i_287_328 : mj_Rn d 287 328 L (.inl y :: .inl x :: st) G M Q = ((x = y → mj_Rn d 287 1361 L st G M Q) ∧ (¬ x = y → mj_Rn d 287 331 L st G M Q)) := op_eq (by decide +kernel) (by decide)
theorem i_287_331 : mj_Rn d 287 331 L st G M Q = mj_Rn d 287 332 L (.inl 0 :: st) G M Q := op_iconst (by decide +kernel)
theorem i_287_332 : mj_Rn d 287 332 L [.inl x] G M Q = ((0 ≤ x ∧ x ≤ 1) ∧ Q (some (.inl x)) G M) := op_zret (by decide +kernel) (by decide +kernel)
theorem i_287_333 : mj_Rn d 287 333 (l0 :: .inr (.inl a) :: L) st G M Q = mj_Rn d 287 334 (l0 :: .inr (.inl a) :: L) (.inr (.inl a) :: st) G M Q := op_aload_n (by decide +kernel) rfl
theorem i_287_334 : mj_Rn d 287 334 (.inr (.inl a) :: L) st G M Q = mj_Rn d 287 335 (.inr (.inl a) :: L) (.inr (.inl a) :: st) G M Q := op_aload_n (by decide +kernel) rfl
theorem i_287_335 : mj_Rn d 287 335 (l0 :: l1 :: l2 :: .inl x :: L) st G M Q = mj_Rn d 287 336 (l0 :: l1 :: l2 :: .inl x :: L) (.inl x :: st) G M Q := op_iload_n (by decide +kernel) rfl
theorem i_287_336 : mj_Rn d 287 336 L st G M Q = mj_Rn d 287 337 L (.inl 1 :: st) G M Q := op_iconst (by decide +kernel)
theorem i_287_337 : mj_Rn d 287 337 L (.inl y :: .inl x :: st) G M Q = mj_Rn d 287 338 L (.inl (mj_w (x + y)) :: st) G M Q := op_iadd (by decide +kernel)
theorem i_287_338 : mj_Rn d 287 338 L (.inl x :: .inr (.inl a) :: st) G M Q = (∃ len, mj_ai G M a = some len ∧ (0 ≤ x ∧ x < len) ∧ mj_Rn d 287 339 L (.inl (M a x.toNat) :: st) G M Q) := op_iaload (by decide +kernel)
theorem i_287_339 : mj_Rn d 287 339 (.inr (.inl a) :: L) st G M Q = mj_Rn d 287 340 (.inr (.inl a) :: L) (.inr (.inl a) :: st) G M Q := op_aload_n (by decide +kernel) rfl
theorem i_287_340 : mj_Rn d 287 340 (l0 :: l1 :: l2 :: .inl x :: L) st G M Q = mj_Rn d 287 341 (l0 :: l1 :: l2 :: .inl x :: L) (.inl x :: st) G M Q := op_iload_n (by decide +kernel) rfl
theorem i_287_341 : mj_Rn d 287 341 L st G M Q = mj_Rn d 287 342 L (.inl 2 :: st) G M Q := op_iconst (by decide +kernel)
theorem i_287_342 : mj_Rn d 287 342 L (.inl y :: .inl x :: st) G M Q = mj_Rn d 287 343 L (.inl (mj_w (x + y)) :: st) G M Q := op_iadd (by decide +kernel)
theorem i_287_343 : mj_Rn d 287 343 L (.inl x :: .inr (.inl a) :: st) G M Q = (∃ len, mj_ai G M a = some len ∧ (0 ≤ x ∧ x < len) ∧ mj_Rn d 287 344 L (.inl (M a x.toNat) :: st) G M Q) := op_iaload (by decide +kernel)
theorem i_287_344 : mj_Rn (d + 1) 287 344 L (.inl x1 :: .inl x0 :: .inr (.inl a) :: st) G M Q = (st.length ≤ 4 ∧ mj_isO G a 0 = true ∧ mj_Rn d 66 0 [.inr (.inl a), .inl x0, .inl x1, .inr (.inr 0)] [] G M fun r G' M' => mj_Rn (d + 1) 287 347 L (r.toList ++ st) G' M' Q) := op_callV (as := [.inl x0, .inl x1]) (m := 4) (ci := 0) (kd := 0) (Or.inr (Or.inl rfl)) (by decide +kernel) (by decide +kernel) (by decide) (by decide +kernel) rfl rfl
theorem i_287_347 : mj_Rn d 287 347 (l0 :: l1 :: .inr (.inl a) :: L) st G M Q = mj_Rn d 287 348 (l0 :: l1 :: .inr (.inl a) :: L) (.inr (.inl a) :: st) G M Q := op_aload_n (by decide +kernel) rfl
theorem i_287_348 : mj_Rn d 287 348 (.inr (.inl a) :: L) st G M Q = mj_Rn d 287 349 (.inr (.inl a) :: L) (.inr (.inl a) :: st) G M Q := op_aload_n (by decide +kernel) rfl
theorem i_287_349 : mj_Rn d 287 349 (l0 :: l1 :: l2 :: .inl x :: L) st G M Q = mj_Rn d 287 350 (l0 :: l1 :: l2 :: .inl x :: L) (.inl x :: st) G M Q := op_iload_n (by decide +kernel) rfl
theorem i_287_350 : mj_Rn d 287 350 L st G M Q = mj_Rn d 287 351 L (.inl 1 :: st) G M Q := op_iconst (by decide +kernel)
theorem i_287_351 : mj_Rn d 287 351 L (.inl y :: .inl x :: st) G M Q = mj_Rn d 287 352 L (.inl (mj_w (x + y)) :: st) G M Q := op_iadd (by decide +kernel)
theorem i_287_352 : mj_Rn d 287 352 L (.inl x :: .inr (.inl a) :: st) G M Q = (∃ len, mj_ai G M a = some len ∧ (0 ≤ x ∧ x < len) ∧ mj_Rn d 287 353 L (.inl (M a x.toNat) :: st) G M Q) := op_iaload (by decide +kernel)
theorem i_287_353 : mj_Rn d 287 353 (.inr (.inl a) :: L) st G M Q = mj_Rn d 287 354 (.inr (.inl a) :: L) (.inr (.inl a) :: st) G M Q := op_aload_n (by decide +kernel) rfl
theorem i_287_354 : mj_Rn d 287 354 (l0 :: l1 :: l2 :: .inl x :: L) st G M Q = mj_Rn d 287 355 (l0 :: l1 :: l2 :: .inl x :: L) (.inl x :: st) G M Q := op_iload_n (by decide +kernel) rfl
theorem i_287_355 : mj_Rn d 287 355 L st G M Q = mj_Rn d 287 356 L (.inl 2 :: st) G M Q := op_iconst (by decide +kernel)
theorem i_287_356 : mj_Rn d 287 356 L (.inl y :: .inl x :: st) G M Q = mj_Rn d 287 357 L (.inl (mj_w (x + y)) :: st) G M Q := op_iadd (by decide +kernel)
theorem i_287_357 : mj_Rn d 287 357 L (.inl x :: .inr (.inl a) :: st) G M Q = (∃ len, mj_ai G M a = some len ∧ (0 ≤ x ∧ x < len) ∧ mj_Rn d 287 358 L (.inl (M a x.toNat) :: st) G M Q) := op_iaload (by decide +kernel)
theorem i_287_358 : mj_Rn (d + 1) 287 358 L (.inl x1 :: .inl x0 :: .inr (.inl a) :: st) G M Q = (st.length ≤ 4 ∧ mj_isO G a 12 = true ∧ mj_Rn d 232 0 [.inr (.inl a), .inl x0, .inl x1, .inr (.inr 0)] [] G M fun r G' M' => mj_Rn (d + 1) 287 361 L (r.toList ++ st) G' M' Q) := op_callV (as := [.inl x0, .inl x1]) (m := 4) (ci := 12) (kd := 0) (Or.inr (Or.inl rfl)) (by decide +kernel) (by decide +kernel) (by decide) (by decide +kernel) rfl rfl
theorem i_287_361 : mj_Rn d 287 361 L (.inl y :: .inl x :: st) G M Q = ((x = y → mj_Rn d 287 1361 L st G M Q) ∧ (¬ x = y → mj_Rn d 287 364 L st G M Q)) := op_eq (by decide +kernel) (by decide)
theorem i_287_364 : mj_Rn d 287 364 L st G M Q = mj_Rn d 287 365 L (.inl 0 :: st) G M Q := op_iconst (by decide +kernel)
theorem i_287_365 : mj_Rn d 287 365 L [.inl x] G M Q = ((0 ≤ x ∧ x ≤ 1) ∧ Q (some (.inl x)) G M) := op_zret (by decide +kernel) (by decide +kernel)
theorem i_287_366 : mj_Rn d 287 366 (l0 :: .inr (.inl a) :: L) st G M Q = mj_Rn d 287 367 (l0 :: .inr (.inl a) :: L) (.inr (.inl a) :: st) G M Q := op_aload_n (by decide +kernel) rfl
theorem i_287_367 : mj_Rn d 287 367 (.inr (.inl a) :: L) st G M Q = mj_Rn d 287 368 (.inr (.inl a) :: L) (.inr (.inl a) :: st) G M Q := op_aload_n (by decide +kernel) rfl
theorem i_287_368 : mj_Rn d 287 368 (l0 :: l1 :: l2 :: .inl x :: L) st G M Q = mj_Rn d 287 369 (l0 :: l1 :: l2 :: .inl x :: L) (.inl x :: st) G M Q := op_iload_n (by decide +kernel) rfl
theorem i_287_369 : mj_Rn d 287 369 L st G M Q = mj_Rn d 287 370 L (.inl 1 :: st) G M Q := op_iconst (by decide +kernel)
theorem i_287_370 : mj_Rn d 287 370 L (.inl y :: .inl x :: st) G M Q = mj_Rn d 287 371 L (.inl (mj_w (x + y)) :: st) G M Q := op_iadd (by decide +kernel)
theorem i_287_371 : mj_Rn d 287 371 L (.inl x :: .inr (.inl a) :: st) G M Q = (∃ len, mj_ai G M a = some len ∧ (0 ≤ x ∧ x < len) ∧ mj_Rn d 287 372 L (.inl (M a x.toNat) :: st) G M Q) := op_iaload (by decide +kernel)
theorem i_287_372 : mj_Rn d 287 372 (.inr (.inl a) :: L) st G M Q = mj_Rn d 287 373 (.inr (.inl a) :: L) (.inr (.inl a) :: st) G M Q := op_aload_n (by decide +kernel) rfl
theorem i_287_373 : mj_Rn d 287 373 (l0 :: l1 :: l2 :: .inl x :: L) st G M Q = mj_Rn d 287 374 (l0 :: l1 :: l2 :: .inl x :: L) (.inl x :: st) G M Q := op_iload_n (by decide +kernel) rfl
theorem i_287_374 : mj_Rn d 287 374 L st G M Q = mj_Rn d 287 375 L (.inl 2 :: st) G M Q := op_iconst (by decide +kernel)
theorem i_287_375 : mj_Rn d 287 375 L (.inl y :: .inl x :: st) G M Q = mj_Rn d 287 376 L (.inl (mj_w (x + y)) :: st) G M Q := op_iadd (by decide +kernel)
theorem i_287_376 : mj_Rn d 287 376 L (.inl x :: .inr (.inl a) :: st) G M Q = (∃ len, mj_ai G M a = some len ∧ (0 ≤ x ∧ x < len) ∧ mj_Rn d 287 377 L (.inl (M a x.toNat) :: st) G M Q) := op_iaload (by decide +kernel)
theorem i_287_377 : mj_Rn (d + 1) 287 377 L (.inl x1 :: .inl x0 :: .inr (.inl a) :: st) G M Q = (st.length ≤ 4 ∧ mj_isO G a 0 = true ∧ mj_Rn d 68 0 [.inr (.inl a), .inl x0, .inl x1] [] G M fun r G' M' => mj_Rn (d + 1) 287 380 L (r.toList ++ st) G' M' Q) := op_callV (as := [.inl x0, .inl x1]) (m := 3) (ci := 0) (kd := 0) (Or.inr (Or.inl rfl)) (by decide +kernel) (by decide +kernel) (by decide) (by decide +kernel) rfl rfl
theorem i_287_380 : mj_Rn d 287 380 (l0 :: l1 :: .inr (.inl a) :: L) st G M Q = mj_Rn d 287 381 (l0 :: l1 :: .inr (.inl a) :: L) (.inr (.inl a) :: st) G M Q := op_aload_n (by decide +kernel) rfl
theorem i_287_381 : mj_Rn d 287 381 (.inr (.inl a) :: L) st G M Q = mj_Rn d 287 382 (.inr (.inl a) :: L) (.inr (.inl a) :: st) G M Q := op_aload_n (by decide +kernel) rfl
theorem i_287_382 : mj_Rn d 287 382 (l0 :: l1 :: l2 :: .inl x :: L) st G M Q = mj_Rn d 287 383 (l0 :: l1 :: l2 :: .inl x :: L) (.inl x :: st) G M Q := op_iload_n (by decide +kernel) rfl
theorem i_287_383 : mj_Rn d 287 383 L st G M Q = mj_Rn d 287 384 L (.inl 1 :: st) G M Q := op_iconst (by decide +kernel)
theorem i_287_384 : mj_Rn d 287 384 L (.inl y :: .inl x :: st) G M Q = mj_Rn d 287 385 L (.inl (mj_w (x + y)) :: st) G M Q := op_iadd (by decide +kernel)
theorem i_287_385 : mj_Rn d 287 385 L (.inl x :: .inr (.inl a) :: st) G M Q = (∃ len, mj_ai G M a = some len ∧ (0 ≤ x ∧ x < len) ∧ mj_Rn d 287 386 L (.inl (M a x.toNat) :: st) G M Q) := op_iaload (by decide +kernel)
theorem i_287_386 : mj_Rn d 287 386 (.inr (.inl a) :: L) st G M Q = mj_Rn d 287 387 (.inr (.inl a) :: L) (.inr (.inl a) :: st) G M Q := op_aload_n (by decide +kernel) rfl
theorem i_287_387 : mj_Rn d 287 387 (l0 :: l1 :: l2 :: .inl x :: L) st G M Q = mj_Rn d 287 388 (l0 :: l1 :: l2 :: .inl x :: L) (.inl x :: st) G M Q := op_iload_n (by decide +kernel) rfl
theorem i_287_388 : mj_Rn d 287 388 L st G M Q = mj_Rn d 287 389 L (.inl 2 :: st) G M Q := op_iconst (by decide +kernel)
theorem i_287_389 : mj_Rn d 287 389 L (.inl y :: .inl x :: st) G M Q = mj_Rn d 287 390 L (.inl (mj_w (x + y)) :: st) G M Q := op_iadd (by decide +kernel)
theorem i_287_390 : mj_Rn d 287 390 L (.inl x :: .inr (.inl a) :: st) G M Q = (∃ len, mj_ai G M a = some len ∧ (0 ≤ x ∧ x < len) ∧ mj_Rn d 287 391 L (.inl (M a x.toNat) :: st) G M Q) := op_iaload (by decide +kernel)
theorem i_287_391 : mj_Rn (d + 1) 287 391 L (.inl x1 :: .inl x0 :: .inr (.inl a) :: st) G M Q = (st.length ≤ 4 ∧ mj_isO G a 12 = true ∧ mj_Rn d 233 0 [.inr (.inl a), .inl x0, .inl x1] [] G M fun r G' M' => mj_Rn (d + 1) 287 394 L (r.toList ++ st) G' M' Q) := op_callV (as := [.inl x0, .inl x1]) (m := 3) (ci := 12) (kd := 0) (Or.inr (Or.inl rfl)) (by decide +kernel) (by decide +kernel) (by decide) (by decide +kernel) rfl rfl
theorem i_287_394 : mj_Rn d 287 394 L (.inl y :: .inl x :: st) G M Q = ((x = y → mj_Rn d 287 1361 L st G M Q) ∧ (¬ x = y → mj_Rn d 287 397 L st G M Q)) := op_eq (by decide +kernel) (by decide)
theorem i_287_397 : mj_Rn d 287 397 L st G M Q = mj_Rn d 287 398 L (.inl 0 :: st) G M Q := op_iconst (by decide +kernel)
theorem i_287_398 : mj_Rn d 287 398 L [.inl x] G M Q = ((0 ≤ x ∧ x ≤ 1) ∧ Q (some (.inl x)) G M) := op_zret (by decide +kernel) (by decide +kernel)
theorem i_287_399 : mj_Rn d 287 399 (l0 :: .inr (.inl a) :: L) st G M Q = mj_Rn d 287 400 (l0 :: .inr (.inl a) :: L) (.inr (.inl a) :: st) G M Q := op_aload_n (by decide +kernel) rfl
theorem i_287_400 : mj_Rn d 287 400 (.inr (.inl a) :: L) st G M Q = mj_Rn d 287 401 (.inr (.inl a) :: L) (.inr (.inl a) :: st) G M Q := op_aload_n (by decide +kernel) rfl
theorem i_287_401 : mj_Rn d 287 401 (l0 :: l1 :: l2 :: .inl x :: L) st G M Q = mj_Rn d 287 402 (l0 :: l1 :: l2 :: .inl x :: L) (.inl x :: st) G M Q := op_iload_n (by decide +kernel) rfl
theorem i_287_402 : mj_Rn d 287 402 L st G M Q = mj_Rn d 287 403 L (.inl 1 :: st) G M Q := op_iconst (by decide +kernel)
theorem i_287_403 : mj_Rn d 287 403 L (.inl y :: .inl x :: st) G M Q = mj_Rn d 287 404 L (.inl (mj_w (x + y)) :: st) G M Q := op_iadd (by decide +kernel)
theorem i_287_404 : mj_Rn d 287 404 L (.inl x :: .inr (.inl a) :: st) G M Q = (∃ len, mj_ai G M a = some len ∧ (0 ≤ x ∧ x < len) ∧ mj_Rn d 287 405 L (.inl (M a x.toNat) :: st) G M Q) := op_iaload (by decide +kernel)
theorem i_287_405 : mj_Rn d 287 405 (.inr (.inl a) :: L) st G M Q = mj_Rn d 287 406 (.inr (.inl a) :: L) (.inr (.inl a) :: st) G M Q := op_aload_n (by decide +kernel) rfl
theorem i_287_406 : mj_Rn d 287 406 (l0 :: l1 :: l2 :: .inl x :: L) st G M Q = mj_Rn d 287 407 (l0 :: l1 :: l2 :: .inl x :: L) (.inl x :: st) G M Q := op_iload_n (by decide +kernel) rfl
theorem i_287_407 : mj_Rn d 287 407 L st G M Q = mj_Rn d 287 408 L (.inl 2 :: st) G M Q := op_iconst (by decide +kernel)
theorem i_287_408 : mj_Rn d 287 408 L (.inl y :: .inl x :: st) G M Q = mj_Rn d 287 409 L (.inl (mj_w (x + y)) :: st) G M Q := op_iadd (by decide +kernel)
theorem i_287_409 : mj_Rn d 287 409 L (.inl x :: .inr (.inl a) :: st) G M Q = (∃ len, mj_ai G M a = some len ∧ (0 ≤ x ∧ x < len) ∧ mj_Rn d 287 410 L (.inl (M a x.toNat) :: st) G M Q) := op_iaload (by decide +kernel)
theorem i_287_410 : mj_Rn (d + 1) 287 410 L (.inl x1 :: .inl x0 :: .inr (.inl a) :: st) G M Q = (st.length ≤ 4 ∧ mj_isO G a 0 = true ∧ mj_Rn d 70 0 [.inr (.inl a), .inl x0, .inl x1, .inr (.inr 0)] [] G M fun r G' M' => mj_Rn (d + 1) 287 413 L (r.toList ++ st) G' M' Q) := op_callV (as := [.inl x0, .inl x1]) (m := 4) (ci := 0) (kd := 0) (Or.inr (Or.inl rfl)) (by decide +kernel) (by decide +kernel) (by decide) (by decide +kernel) rfl rfl
theorem i_287_413 : mj_Rn d 287 413 (l0 :: l1 :: .inr (.inl a) :: L) st G M Q = mj_Rn d 287 414 (l0 :: l1 :: .inr (.inl a) :: L) (.inr (.inl a) :: st) G M Q := op_aload_n (by decide +kernel) rfl
theorem i_287_414 : mj_Rn d 287 414 (.inr (.inl a) :: L) st G M Q = mj_Rn d 287 415 (.inr (.inl a) :: L) (.inr (.inl a) :: st) G M Q := op_aload_n (by decide +kernel) rfl
theorem i_287_415 : mj_Rn d 287 415 (l0 :: l1 :: l2 :: .inl x :: L) st G M Q = mj_Rn d 287 416 (l0 :: l1 :: l2 :: .inl x :: L) (.inl x :: st) G M Q := op_iload_n (by decide +kernel) rfl
theorem i_287_416 : mj_Rn d 287 416 L st G M Q = mj_Rn d 287 417 L (.inl 1 :: st) G M Q := op_iconst (by decide +kernel)
theorem i_287_417 : mj_Rn d 287 417 L (.inl y :: .inl x :: st) G M Q = mj_Rn d 287 418 L (.inl (mj_w (x + y)) :: st) G M Q := op_iadd (by decide +kernel)
theorem i_287_418 : mj_Rn d 287 418 L (.inl x :: .inr (.inl a) :: st) G M Q = (∃ len, mj_ai G M a = some len ∧ (0 ≤ x ∧ x < len) ∧ mj_Rn d 287 419 L (.inl (M a x.toNat) :: st) G M Q) := op_iaload (by decide +kernel)
theorem i_287_419 : mj_Rn d 287 419 (.inr (.inl a) :: L) st G M Q = mj_Rn d 287 420 (.inr (.inl a) :: L) (.inr (.inl a) :: st) G M Q := op_aload_n (by decide +kernel) rfl
theorem i_287_420 : mj_Rn d 287 420 (l0 :: l1 :: l2 :: .inl x :: L) st G M Q = mj_Rn d 287 421 (l0 :: l1 :: l2 :: .inl x :: L) (.inl x :: st) G M Q := op_iload_n (by decide +kernel) rfl
theorem i_287_421 : mj_Rn d 287 421 L st G M Q = mj_Rn d 287 422 L (.inl 2 :: st) G M Q := op_iconst (by decide +kernel)
theorem i_287_422 : mj_Rn d 287 422 L (.inl y :: .inl x :: st) G M Q = mj_Rn d 287 423 L (.inl (mj_w (x + y)) :: st) G M Q := op_iadd (by decide +kernel)
theorem i_287_423 : mj_Rn d 287 423 L (.inl x :: .inr (.inl a) :: st) G M Q = (∃ len, mj_ai G M a = some len ∧ (0 ≤ x ∧ x < len) ∧ mj_Rn d 287 424 L (.inl (M a x.toNat) :: st) G M Q) := op_iaload (by decide +kernel)
theorem i_287_424 : mj_Rn (d + 1) 287 424 L (.inl x1 :: .inl x0 :: .inr (.inl a) :: st) G M Q = (st.length ≤ 4 ∧ mj_isO G a 12 = true ∧ mj_Rn d 234 0 [.inr (.inl a), .inl x0, .inl x1] [] G M fun r G' M' => mj_Rn (d + 1) 287 427 L (r.toList ++ st) G' M' Q) := op_callV (as := [.inl x0, .inl x1]) (m := 3) (ci := 12) (kd := 0) (Or.inr (Or.inl rfl)) (by decide +kernel) (by decide +kernel) (by decide) (by decide +kernel) rfl rfl
theorem i_287_427 : mj_Rn d 287 427 L (.inl y :: .inl x :: st) G M Q = ((x = y → mj_Rn d 287 1361 L st G M Q) ∧ (¬ x = y → mj_Rn d 287 430 L st G M Q)) := op_eq (by decide +kernel) (by decide)
theorem i_287_430 : mj_Rn d 287 430 L st G M Q = mj_Rn d 287 431 L (.inl 0 :: st) G M Q := op_iconst (by decide +kernel)
theorem i_287_431 : mj_Rn d 287 431 L [.inl x] G M Q = ((0 ≤ x ∧ x ≤ 1) ∧ Q (some (.inl x)) G M) := op_zret (by decide +kernel) (by decide +kernel)
theorem i_287_432 : mj_Rn d 287 432 (l0 :: .inr (.inl a) :: L) st G M Q = mj_Rn d 287 433 (l0 :: .inr (.inl a) :: L) (.inr (.inl a) :: st) G M Q := op_aload_n (by decide +kernel) rfl
theorem i_287_433 : mj_Rn d 287 433 (.inr (.inl a) :: L) st G M Q = mj_Rn d 287 434 (.inr (.inl a) :: L) (.inr (.inl a) :: st) G M Q := op_aload_n (by decide +kernel) rfl
theorem i_287_434 : mj_Rn d 287 434 (l0 :: l1 :: l2 :: .inl x :: L) st G M Q = mj_Rn d 287 435 (l0 :: l1 :: l2 :: .inl x :: L) (.inl x :: st) G M Q := op_iload_n (by decide +kernel) rfl
theorem i_287_435 : mj_Rn d 287 435 L st G M Q = mj_Rn d 287 436 L (.inl 1 :: st) G M Q := op_iconst (by decide +kernel)
theorem i_287_436 : mj_Rn d 287 436 L (.inl y :: .inl x :: st) G M Q = mj_Rn d 287 437 L (.inl (mj_w (x + y)) :: st) G M Q := op_iadd (by decide +kernel)
theorem i_287_437 : mj_Rn d 287 437 L (.inl x :: .inr (.inl a) :: st) G M Q = (∃ len, mj_ai G M a = some len ∧ (0 ≤ x ∧ x < len) ∧ mj_Rn d 287 438 L (.inl (M a x.toNat) :: st) G M Q) := op_iaload (by decide +kernel)
theorem i_287_438 : mj_Rn d 287 438 (.inr (.inl a) :: L) st G M Q = mj_Rn d 287 439 (.inr (.inl a) :: L) (.inr (.inl a) :: st) G M Q := op_aload_n (by decide +kernel) rfl
theorem i_287_439 : mj_Rn d 287 439 (l0 :: l1 :: l2 :: .inl x :: L) st G M Q = mj_Rn d 287 440 (l0 :: l1 :: l2 :: .inl x :: L) (.inl x :: st) G M Q := op_iload_n (by decide +kernel) rfl
theorem i_287_440 : mj_Rn d 287 440 L st G M Q = mj_Rn d 287 441 L (.inl 2 :: st) G M Q := op_iconst (by decide +kernel)
theorem i_287_441 : mj_Rn d 287 441 L (.inl y :: .inl x :: st) G M Q = mj_Rn d 287 442 L (.inl (mj_w (x + y)) :: st) G M Q := op_iadd (by decide +kernel)
theorem i_287_442 : mj_Rn d 287 442 L (.inl x :: .inr (.inl a) :: st) G M Q = (∃ len, mj_ai G M a = some len ∧ (0 ≤ x ∧ x < len) ∧ mj_Rn d 287 443 L (.inl (M a x.toNat) :: st) G M Q) := op_iaload (by decide +kernel)
theorem i_287_443 : mj_Rn (d + 1) 287 443 L (.inl x1 :: .inl x0 :: .inr (.inl a) :: st) G M Q = (st.length ≤ 4 ∧ mj_isO G a 0 = true ∧ mj_Rn d 72 0 [.inr (.inl a), .inl x0, .inl x1] [] G M fun r G' M' => mj_Rn (d + 1) 287 446 L (r.toList ++ st) G' M' Q) := op_callV (as := [.inl x0, .inl x1]) (m := 3) (ci := 0) (kd := 0) (Or.inr (Or.inl rfl)) (by decide +kernel) (by decide +kernel) (by decide) (by decide +kernel) rfl rfl
theorem i_287_446 : mj_Rn d 287 446 (l0 :: l1 :: .inr (.inl a) :: L) st G M Q = mj_Rn d 287 447 (l0 :: l1 :: .inr (.inl a) :: L) (.inr (.inl a) :: st) G M Q := op_aload_n (by decide +kernel) rfl
theorem i_287_447 : mj_Rn d 287 447 (.inr (.inl a) :: L) st G M Q = mj_Rn d 287 448 (.inr (.inl a) :: L) (.inr (.inl a) :: st) G M Q := op_aload_n (by decide +kernel) rfl
theorem i_287_448 : mj_Rn d 287 448 (l0 :: l1 :: l2 :: .inl x :: L) st G M Q = mj_Rn d 287 449 (l0 :: l1 :: l2 :: .inl x :: L) (.inl x :: st) G M Q := op_iload_n (by decide +kernel) rfl
theorem i_287_449 : mj_Rn d 287 449 L st G M Q = mj_Rn d 287 450 L (.inl 1 :: st) G M Q := op_iconst (by decide +kernel)
theorem i_287_450 : mj_Rn d 287 450 L (.inl y :: .inl x :: st) G M Q = mj_Rn d 287 451 L (.inl (mj_w (x + y)) :: st) G M Q := op_iadd (by decide +kernel)
theorem i_287_451 : mj_Rn d 287 451 L (.inl x :: .inr (.inl a) :: st) G M Q = (∃ len, mj_ai G M a = some len ∧ (0 ≤ x ∧ x < len) ∧ mj_Rn d 287 452 L (.inl (M a x.toNat) :: st) G M Q) := op_iaload (by decide +kernel)
theorem i_287_452 : mj_Rn d 287 452 (.inr (.inl a) :: L) st G M Q = mj_Rn d 287 453 (.inr (.inl a) :: L) (.inr (.inl a) :: st) G M Q := op_aload_n (by decide +kernel) rfl
theorem i_287_453 : mj_Rn d 287 453 (l0 :: l1 :: l2 :: .inl x :: L) st G M Q = mj_Rn d 287 454 (l0 :: l1 :: l2 :: .inl x :: L) (.inl x :: st) G M Q := op_iload_n (by decide +kernel) rfl
theorem i_287_454 : mj_Rn d 287 454 L st G M Q = mj_Rn d 287 455 L (.inl 2 :: st) G M Q := op_iconst (by decide +kernel)
theorem i_287_455 : mj_Rn d 287 455 L (.inl y :: .inl x :: st) G M Q = mj_Rn d 287 456 L (.inl (mj_w (x + y)) :: st) G M Q := op_iadd (by decide +kernel)
theorem i_287_456 : mj_Rn d 287 456 L (.inl x :: .inr (.inl a) :: st) G M Q = (∃ len, mj_ai G M a = some len ∧ (0 ≤ x ∧ x < len) ∧ mj_Rn d 287 457 L (.inl (M a x.toNat) :: st) G M Q) := op_iaload (by decide +kernel)
theorem i_287_457 : mj_Rn (d + 1) 287 457 L (.inl x1 :: .inl x0 :: .inr (.inl a) :: st) G M Q = (st.length ≤ 4 ∧ mj_isO G a 12 = true ∧ mj_Rn d 236 0 [.inr (.inl a), .inl x0, .inl x1] [] G M fun r G' M' => mj_Rn (d + 1) 287 460 L (r.toList ++ st) G' M' Q) := op_callV (as := [.inl x0, .inl x1]) (m := 3) (ci := 12) (kd := 0) (Or.inr (Or.inl rfl)) (by decide +kernel) (by decide +kernel) (by decide) (by decide +kernel) rfl rfl
theorem i_287_460 : mj_Rn d 287 460 L (.inl y :: .inl x :: st) G M Q = ((x = y → mj_Rn d 287 1361 L st G M Q) ∧ (¬ x = y → mj_Rn d 287 463 L st G M Q)) := op_eq (by decide +kernel) (by decide)
theorem i_287_463 : mj_Rn d 287 463 L st G M Q = mj_Rn d 287 464 L (.inl 0 :: st) G M Q := op_iconst (by decide +kernel)
theorem i_287_464 : mj_Rn d 287 464 L [.inl x] G M Q = ((0 ≤ x ∧ x ≤ 1) ∧ Q (some (.inl x)) G M) := op_zret (by decide +kernel) (by decide +kernel)
theorem i_287_465 : mj_Rn d 287 465 (l0 :: .inr (.inl a) :: L) st G M Q = mj_Rn d 287 466 (l0 :: .inr (.inl a) :: L) (.inr (.inl a) :: st) G M Q := op_aload_n (by decide +kernel) rfl
theorem i_287_466 : mj_Rn d 287 466 (.inr (.inl a) :: L) st G M Q = mj_Rn d 287 467 (.inr (.inl a) :: L) (.inr (.inl a) :: st) G M Q := op_aload_n (by decide +kernel) rfl
theorem i_287_467 : mj_Rn d 287 467 (l0 :: l1 :: l2 :: .inl x :: L) st G M Q = mj_Rn d 287 468 (l0 :: l1 :: l2 :: .inl x :: L) (.inl x :: st) G M Q := op_iload_n (by decide +kernel) rfl
theorem i_287_468 : mj_Rn d 287 468 L st G M Q = mj_Rn d 287 469 L (.inl 1 :: st) G M Q := op_iconst (by decide +kernel)
theorem i_287_469 : mj_Rn d 287 469 L (.inl y :: .inl x :: st) G M Q = mj_Rn d 287 470 L (.inl (mj_w (x + y)) :: st) G M Q := op_iadd (by decide +kernel)
theorem i_287_470 : mj_Rn d 287 470 L (.inl x :: .inr (.inl a) :: st) G M Q = (∃ len, mj_ai G M a = some len ∧ (0 ≤ x ∧ x < len) ∧ mj_Rn d 287 471 L (.inl (M a x.toNat) :: st) G M Q) := op_iaload (by decide +kernel)
theorem i_287_471 : mj_Rn (d + 1) 287 471 L (.inl x0 :: .inr (.inl a) :: st) G M Q = (st.length ≤ 4 ∧ mj_isO G a 0 = true ∧ mj_Rn d 73 0 [.inr (.inl a), .inl x0] [] G M fun r G' M' => mj_Rn (d + 1) 287 474 L (r.toList ++ st) G' M' Q) := op_callV (as := [.inl x0]) (m := 2) (ci := 0) (kd := 0) (Or.inr (Or.inl rfl)) (by decide +kernel) (by decide +kernel) (by decide) (by decide +kernel) rfl rfl
theorem i_287_474 : mj_Rn d 287 474 (l0 :: l1 :: .inr (.inl a) :: L) st G M Q = mj_Rn d 287 475 (l0 :: l1 :: .inr (.inl a) :: L) (.inr (.inl a) :: st) G M Q := op_aload_n (by decide +kernel) rfl
theorem i_287_475 : mj_Rn d 287 475 (.inr (.inl a) :: L) st G M Q = mj_Rn d 287 476 (.inr (.inl a) :: L) (.inr (.inl a) :: st) G M Q := op_aload_n (by decide +kernel) rfl
theorem i_287_476 : mj_Rn d 287 476 (l0 :: l1 :: l2 :: .inl x :: L) st G M Q = mj_Rn d 287 477 (l0 :: l1 :: l2 :: .inl x :: L) (.inl x :: st) G M Q := op_iload_n (by decide +kernel) rfl
theorem i_287_477 : mj_Rn d 287 477 L st G M Q = mj_Rn d 287 478 L (.inl 1 :: st) G M Q := op_iconst (by decide +kernel)
theorem i_287_478 : mj_Rn d 287 478 L (.inl y :: .inl x :: st) G M Q = mj_Rn d 287 479 L (.inl (mj_w (x + y)) :: st) G M Q := op_iadd (by decide +kernel)
theorem i_287_479 : mj_Rn d 287 479 L (.inl x :: .inr (.inl a) :: st) G M Q = (∃ len, mj_ai G M a = some len ∧ (0 ≤ x ∧ x < len) ∧ mj_Rn d 287 480 L (.inl (M a x.toNat) :: st) G M Q) := op_iaload (by decide +kernel)
theorem i_287_480 : mj_Rn (d + 1) 287 480 L (.inl x0 :: .inr (.inl a) :: st) G M Q = (st.length ≤ 4 ∧ mj_isO G a 12 = true ∧ mj_Rn d 237 0 [.inr (.inl a), .inl x0, .inr (.inr 0), .inr (.inr 0)] [] G M fun r G' M' => mj_Rn (d + 1) 287 483 L (r.toList ++ st) G' M' Q) := op_callV (as := [.inl x0]) (m := 4) (ci := 12) (kd := 0) (Or.inr (Or.inl rfl)) (by decide +kernel) (by decide +kernel) (by decide) (by decide +kernel) rfl rfl
theorem i_287_483 : mj_Rn d 287 483 L (.inl y :: .inl x :: st) G M Q = ((x = y → mj_Rn d 287 1361 L st G M Q) ∧ (¬ x = y → mj_Rn d 287 486 L st G M Q)) := op_eq (by decide +kernel) (by decide)
theorem i_287_486 : mj_Rn d 287 486 L st G M Q = mj_Rn d 287 487 L (.inl 0 :: st) G M Q := op_iconst (by decide +kernel)
theorem i_287_487 : mj_Rn d 287 487 L [.inl x] G M Q = ((0 ≤ x ∧ x ≤ 1) ∧ Q (some (.inl x)) G M) := op_zret (by decide +kernel) (by decide +kernel)
theorem i_287_488 : mj_Rn d 287 488 (l0 :: .inr (.inl a) :: L) st G M Q = mj_Rn d 287 489 (l0 :: .inr (.inl a) :: L) (.inr (.inl a) :: st) G M Q := op_aload_n (by decide +kernel) rfl
theorem i_287_489 : mj_Rn d 287 489 (.inr (.inl a) :: L) st G M Q = mj_Rn d 287 490 (.inr (.inl a) :: L) (.inr (.inl a) :: st) G M Q := op_aload_n (by decide +kernel) rfl
theorem i_287_490 : mj_Rn d 287 490 (l0 :: l1 :: l2 :: .inl x :: L) st G M Q = mj_Rn d 287 491 (l0 :: l1 :: l2 :: .inl x :: L) (.inl x :: st) G M Q := op_iload_n (by decide +kernel) rfl
theorem i_287_491 : mj_Rn d 287 491 L st G M Q = mj_Rn d 287 492 L (.inl 1 :: st) G M Q := op_iconst (by decide +kernel)
theorem i_287_492 : mj_Rn d 287 492 L (.inl y :: .inl x :: st) G M Q = mj_Rn d 287 493 L (.inl (mj_w (x + y)) :: st) G M Q := op_iadd (by decide +kernel)
theorem i_287_493 : mj_Rn d 287 493 L (.inl x :: .inr (.inl a) :: st) G M Q = (∃ len, mj_ai G M a = some len ∧ (0 ≤ x ∧ x < len) ∧ mj_Rn d 287 494 L (.inl (M a x.toNat) :: st) G M Q) := op_iaload (by decide +kernel)
theorem i_287_494 : mj_Rn d 287 494 (.inr (.inl a) :: L) st G M Q = mj_Rn d 287 495 (.inr (.inl a) :: L) (.inr (.inl a) :: st) G M Q := op_aload_n (by decide +kernel) rfl
theorem i_287_495 : mj_Rn d 287 495 (l0 :: l1 :: l2 :: .inl x :: L) st G M Q = mj_Rn d 287 496 (l0 :: l1 :: l2 :: .inl x :: L) (.inl x :: st) G M Q := op_iload_n (by decide +kernel) rfl
theorem i_287_496 : mj_Rn d 287 496 L st G M Q = mj_Rn d 287 497 L (.inl 2 :: st) G M Q := op_iconst (by decide +kernel)
theorem i_287_497 : mj_Rn d 287 497 L (.inl y :: .inl x :: st) G M Q = mj_Rn d 287 498 L (.inl (mj_w (x + y)) :: st) G M Q := op_iadd (by decide +kernel)
theorem i_287_498 : mj_Rn d 287 498 L (.inl x :: .inr (.inl a) :: st) G M Q = (∃ len, mj_ai G M a = some len ∧ (0 ≤ x ∧ x < len) ∧ mj_Rn d 287 499 L (.inl (M a x.toNat) :: st) G M Q) := op_iaload (by decide +kernel)
theorem i_287_499 : mj_Rn (d + 1) 287 499 L (.inl x1 :: .inl x0 :: .inr (.inl a) :: st) G M Q = (st.length ≤ 4 ∧ mj_isO G a 0 = true ∧ mj_Rn d 75 0 [.inr (.inl a), .inl x0, .inl x1] [] G M fun r G' M' => mj_Rn (d + 1) 287 502 L (r.toList ++ st) G' M' Q) := op_callV (as := [.inl x0, .inl x1]) (m := 3) (ci := 0) (kd := 0) (Or.inr (Or.inl rfl)) (by decide +kernel) (by decide +kernel) (by decide) (by decide +kernel) rfl rfl
theorem i_287_502 : mj_Rn d 287 502 (l0 :: l1 :: .inr (.inl a) :: L) st G M Q = mj_Rn d 287 503 (l0 :: l1 :: .inr (.inl a) :: L) (.inr (.inl a) :: st) G M Q := op_aload_n (by decide +kernel) rfl
theorem i_287_503 : mj_Rn d 287 503 (.inr (.inl a) :: L) st G M Q = mj_Rn d 287 504 (.inr (.inl a) :: L) (.inr (.inl a) :: st) G M Q := op_aload_n (by decide +kernel) rfl
theorem i_287_504 : mj_Rn d 287 504 (l0 :: l1 :: l2 :: .inl x :: L) st G M Q = mj_Rn d 287 505 (l0 :: l1 :: l2 :: .inl x :: L) (.inl x :: st) G M Q := op_iload_n (by decide +kernel) rfl
theorem i_287_505 : mj_Rn d 287 505 L st G M Q = mj_Rn d 287 506 L (.inl 1 :: st) G M Q := op_iconst (by decide +kernel)
theorem i_287_506 : mj_Rn d 287 506 L (.inl y :: .inl x :: st) G M Q = mj_Rn d 287 507 L (.inl (mj_w (x + y)) :: st) G M Q := op_iadd (by decide +kernel)
theorem i_287_507 : mj_Rn d 287 507 L (.inl x :: .inr (.inl a) :: st) G M Q = (∃ len, mj_ai G M a = some len ∧ (0 ≤ x ∧ x < len) ∧ mj_Rn d 287 508 L (.inl (M a x.toNat) :: st) G M Q) := op_iaload (by decide +kernel)
theorem i_287_508 : mj_Rn d 287 508 (.inr (.inl a) :: L) st G M Q = mj_Rn d 287 509 (.inr (.inl a) :: L) (.inr (.inl a) :: st) G M Q := op_aload_n (by decide +kernel) rfl
theorem i_287_509 : mj_Rn d 287 509 (l0 :: l1 :: l2 :: .inl x :: L) st G M Q = mj_Rn d 287 510 (l0 :: l1 :: l2 :: .inl x :: L) (.inl x :: st) G M Q := op_iload_n (by decide +kernel) rfl
theorem i_287_510 : mj_Rn d 287 510 L st G M Q = mj_Rn d 287 511 L (.inl 2 :: st) G M Q := op_iconst (by decide +kernel)
theorem i_287_511 : mj_Rn d 287 511 L (.inl y :: .inl x :: st) G M Q = mj_Rn d 287 512 L (.inl (mj_w (x + y)) :: st) G M Q := op_iadd (by decide +kernel)
theorem i_287_512 : mj_Rn d 287 512 L (.inl x :: .inr (.inl a) :: st) G M Q = (∃ len, mj_ai G M a = some len ∧ (0 ≤ x ∧ x < len) ∧ mj_Rn d 287 513 L (.inl (M a x.toNat) :: st) G M Q) := op_iaload (by decide +kernel)
theorem i_287_513 : mj_Rn (d + 1) 287 513 L (.inl x1 :: .inl x0 :: .inr (.inl a) :: st) G M Q = (st.length ≤ 4 ∧ mj_isO G a 12 = true ∧ mj_Rn d 239 0 [.inr (.inl a), .inl x0, .inl x1] [] G M fun r G' M' => mj_Rn (d + 1) 287 516 L (r.toList ++ st) G' M' Q) := op_callV (as := [.inl x0, .inl x1]) (m := 3) (ci := 12) (kd := 0) (Or.inr (Or.inl rfl)) (by decide +kernel) (by decide +kernel) (by decide) (by decide +kernel) rfl rfl
theorem i_287_516 : mj_Rn d 287 516 L (.inl y :: .inl x :: st) G M Q = ((x = y → mj_Rn d 287 1361 L st G M Q) ∧ (¬ x = y → mj_Rn d 287 519 L st G M Q)) := op_eq (by decide +kernel) (by decide)
theorem i_287_519 : mj_Rn d 287 519 L st G M Q = mj_Rn d 287 520 L (.inl 0 :: st) G M Q := op_iconst (by decide +kernel)
theorem i_287_520 : mj_Rn d 287 520 L [.inl x] G M Q = ((0 ≤ x ∧ x ≤ 1) ∧ Q (some (.inl x)) G M) := op_zret (by decide +kernel) (by decide +kernel)
theorem i_287_521 : mj_Rn d 287 521 (l0 :: .inr (.inl a) :: L) st G M Q = mj_Rn d 287 522 (l0 :: .inr (.inl a) :: L) (.inr (.inl a) :: st) G M Q := op_aload_n (by decide +kernel) rfl
theorem i_287_522 : mj_Rn d 287 522 (.inr (.inl a) :: L) st G M Q = mj_Rn d 287 523 (.inr (.inl a) :: L) (.inr (.inl a) :: st) G M Q := op_aload_n (by decide +kernel) rfl
theorem i_287_523 : mj_Rn d 287 523 (l0 :: l1 :: l2 :: .inl x :: L) st G M Q = mj_Rn d 287 524 (l0 :: l1 :: l2 :: .inl x :: L) (.inl x :: st) G M Q := op_iload_n (by decide +kernel) rfl
theorem i_287_524 : mj_Rn d 287 524 L st G M Q = mj_Rn d 287 525 L (.inl 1 :: st) G M Q := op_iconst (by decide +kernel)
theorem i_287_525 : mj_Rn d 287 525 L (.inl y :: .inl x :: st) G M Q = mj_Rn d 287 526 L (.inl (mj_w (x + y)) :: st) G M Q := op_iadd (by decide +kernel)
theorem i_287_526 : mj_Rn d 287 526 L (.inl x :: .inr (.inl a) :: st) G M Q = (∃ len, mj_ai G M a = some len ∧ (0 ≤ x ∧ x < len) ∧ mj_Rn d 287 527 L (.inl (M a x.toNat) :: st) G M Q) := op_iaload (by decide +kernel)
theorem i_287_527 : mj_Rn d 287 527 (.inr (.inl a) :: L) st G M Q = mj_Rn d 287 528 (.inr (.inl a) :: L) (.inr (.inl a) :: st) G M Q := op_aload_n (by decide +kernel) rfl
theorem i_287_528 : mj_Rn d 287 528 (l0 :: l1 :: l2 :: .inl x :: L) st G M Q = mj_Rn d 287 529 (l0 :: l1 :: l2 :: .inl x :: L) (.inl x :: st) G M Q := op_iload_n (by decide +kernel) rfl
theorem i_287_529 : mj_Rn d 287 529 L st G M Q = mj_Rn d 287 530 L (.inl 2 :: st) G M Q := op_iconst (by decide +kernel)
theorem i_287_530 : mj_Rn d 287 530 L (.inl y :: .inl x :: st) G M Q = mj_Rn d 287 531 L (.inl (mj_w (x + y)) :: st) G M Q := op_iadd (by decide +kernel)
theorem i_287_531 : mj_Rn d 287 531 L (.inl x :: .inr (.inl a) :: st) G M Q = (∃ len, mj_ai G M a = some len ∧ (0 ≤ x ∧ x < len) ∧ mj_Rn d 287 532 L (.inl (M a x.toNat) :: st) G M Q) := op_iaload (by decide +kernel)
theorem i_287_532 : mj_Rn (d + 1) 287 532 L (.inl x1 :: .inl x0 :: .inr (.inl a) :: st) G M Q = (st.length ≤ 4 ∧ mj_isO G a 0 = true ∧ mj_Rn d 76 0 [.inr (.inl a), .inl x0, .inl x1] [] G M fun r G' M' => mj_Rn (d + 1) 287 535 L (r.toList ++ st) G' M' Q) := op_callV (as := [.inl x0, .inl x1]) (m := 3) (ci := 0) (kd := 0) (Or.inr (Or.inl rfl)) (by decide +kernel) (by decide +kernel) (by decide) (by decide +kernel) rfl rfl
theorem i_287_535 : mj_Rn d 287 535 (l0 :: l1 :: .inr (.inl a) :: L) st G M Q = mj_Rn d 287 536 (l0 :: l1 :: .inr (.inl a) :: L) (.inr (.inl a) :: st) G M Q := op_aload_n (by decide +kernel) rfl
theorem i_287_536 : mj_Rn d 287 536 (.inr (.inl a) :: L) st G M Q = mj_Rn d 287 537 (.inr (.inl a) :: L) (.inr (.inl a) :: st) G M Q := op_aload_n (by decide +kernel) rfl
theorem i_287_537 : mj_Rn d 287 537 (l0 :: l1 :: l2 :: .inl x :: L) st G M Q = mj_Rn d 287 538 (l0 :: l1 :: l2 :: .inl x :: L) (.inl x :: st) G M Q := op_iload_n (by decide +kernel) rfl
theorem i_287_538 : mj_Rn d 287 538 L st G M Q = mj_Rn d 287 539 L (.inl 1 :: st) G M Q := op_iconst (by decide +kernel)
theorem i_287_539 : mj_Rn d 287 539 L (.inl y :: .inl x :: st) G M Q = mj_Rn d 287 540 L (.inl (mj_w (x + y)) :: st) G M Q := op_iadd (by decide +kernel)
theorem i_287_540 : mj_Rn d 287 540 L (.inl x :: .inr (.inl a) :: st) G M Q = (∃ len, mj_ai G M a = some len ∧ (0 ≤ x ∧ x < len) ∧ mj_Rn d 287 541 L (.inl (M a x.toNat) :: st) G M Q) := op_iaload (by decide +kernel)
theorem i_287_541 : mj_Rn d 287 541 (.inr (.inl a) :: L) st G M Q = mj_Rn d 287 542 (.inr (.inl a) :: L) (.inr (.inl a) :: st) G M Q := op_aload_n (by decide +kernel) rfl
theorem i_287_542 : mj_Rn d 287 542 (l0 :: l1 :: l2 :: .inl x :: L) st G M Q = mj_Rn d 287 543 (l0 :: l1 :: l2 :: .inl x :: L) (.inl x :: st) G M Q := op_iload_n (by decide +kernel) rfl
theorem i_287_543 : mj_Rn d 287 543 L st G M Q = mj_Rn d 287 544 L (.inl 2 :: st) G M Q := op_iconst (by decide +kernel)
theorem i_287_544 : mj_Rn d 287 544 L (.inl y :: .inl x :: st) G M Q = mj_Rn d 287 545 L (.inl (mj_w (x + y)) :: st) G M Q := op_iadd (by decide +kernel)
theorem i_287_545 : mj_Rn d 287 545 L (.inl x :: .inr (.inl a) :: st) G M Q = (∃ len, mj_ai G M a = some len ∧ (0 ≤ x ∧ x < len) ∧ mj_Rn d 287 546 L (.inl (M a x.toNat) :: st) G M Q) := op_iaload (by decide +kernel)
theorem i_287_546 : mj_Rn (d + 1) 287 546 L (.inl x1 :: .inl x0 :: .inr (.inl a) :: st) G M Q = (st.length ≤ 4 ∧ mj_isO G a 12 = true ∧ mj_Rn d 240 0 [.inr (.inl a), .inl x0, .inl x1, .inr (.inr 0), .inr (.inr 0), .inr (.inr 0)] [] G M fun r G' M' => mj_Rn (d + 1) 287 549 L (r.toList ++ st) G' M' Q) := op_callV (as := [.inl x0, .inl x1]) (m := 6) (ci := 12) (kd := 0) (Or.inr (Or.inl rfl)) (by decide +kernel) (by decide +kernel) (by decide) (by decide +kernel) rfl rfl
theorem i_287_549 : mj_Rn d 287 549 L (.inl y :: .inl x :: st) G M Q = ((x = y → mj_Rn d 287 1361 L st G M Q) ∧ (¬ x = y → mj_Rn d 287 552 L st G M Q)) := op_eq (by decide +kernel) (by decide)
theorem i_287_552 : mj_Rn d 287 552 L st G M Q = mj_Rn d 287 553 L (.inl 0 :: st) G M Q := op_iconst (by decide +kernel)
theorem i_287_553 : mj_Rn d 287 553 L [.inl x] G M Q = ((0 ≤ x ∧ x ≤ 1) ∧ Q (some (.inl x)) G M) := op_zret (by decide +kernel) (by decide +kernel)
theorem i_287_554 : mj_Rn d 287 554 (l0 :: .inr (.inl a) :: L) st G M Q = mj_Rn d 287 555 (l0 :: .inr (.inl a) :: L) (.inr (.inl a) :: st) G M Q := op_aload_n (by decide +kernel) rfl
theorem i_287_555 : mj_Rn d 287 555 (.inr (.inl a) :: L) st G M Q = mj_Rn d 287 556 (.inr (.inl a) :: L) (.inr (.inl a) :: st) G M Q := op_aload_n (by decide +kernel) rfl
theorem i_287_556 : mj_Rn d 287 556 (l0 :: l1 :: l2 :: .inl x :: L) st G M Q = mj_Rn d 287 557 (l0 :: l1 :: l2 :: .inl x :: L) (.inl x :: st) G M Q := op_iload_n (by decide +kernel) rfl
theorem i_287_557 : mj_Rn d 287 557 L st G M Q = mj_Rn d 287 558 L (.inl 1 :: st) G M Q := op_iconst (by decide +kernel)
theorem i_287_558 : mj_Rn d 287 558 L (.inl y :: .inl x :: st) G M Q = mj_Rn d 287 559 L (.inl (mj_w (x + y)) :: st) G M Q := op_iadd (by decide +kernel)
theorem i_287_559 : mj_Rn d 287 559 L (.inl x :: .inr (.inl a) :: st) G M Q = (∃ len, mj_ai G M a = some len ∧ (0 ≤ x ∧ x < len) ∧ mj_Rn d 287 560 L (.inl (M a x.toNat) :: st) G M Q) := op_iaload (by decide +kernel)
theorem i_287_560 : mj_Rn d 287 560 (.inr (.inl a) :: L) st G M Q = mj_Rn d 287 561 (.inr (.inl a) :: L) (.inr (.inl a) :: st) G M Q := op_aload_n (by decide +kernel) rfl
theorem i_287_561 : mj_Rn d 287 561 (l0 :: l1 :: l2 :: .inl x :: L) st G M Q = mj_Rn d 287 562 (l0 :: l1 :: l2 :: .inl x :: L) (.inl x :: st) G M Q := op_iload_n (by decide +kernel) rfl
theorem i_287_562 : mj_Rn d 287 562 L st G M Q = mj_Rn d 287 563 L (.inl 2 :: st) G M Q := op_iconst (by decide +kernel)
theorem i_287_563 : mj_Rn d 287 563 L (.inl y :: .inl x :: st) G M Q = mj_Rn d 287 564 L (.inl (mj_w (x + y)) :: st) G M Q := op_iadd (by decide +kernel)
theorem i_287_564 : mj_Rn d 287 564 L (.inl x :: .inr (.inl a) :: st) G M Q = (∃ len, mj_ai G M a = some len ∧ (0 ≤ x ∧ x < len) ∧ mj_Rn d 287 565 L (.inl (M a x.toNat) :: st) G M Q) := op_iaload (by decide +kernel)
theorem i_287_565 : mj_Rn (d + 1) 287 565 L (.inl x1 :: .inl x0 :: .inr (.inl a) :: st) G M Q = (st.length ≤ 4 ∧ mj_isO G a 0 = true ∧ mj_Rn d 79 0 [.inr (.inl a), .inl x0, .inl x1] [] G M fun r G' M' => mj_Rn (d + 1) 287 568 L (r.toList ++ st) G' M' Q) := op_callV (as := [.inl x0, .inl x1]) (m := 3) (ci := 0) (kd := 0) (Or.inr (Or.inl rfl)) (by decide +kernel) (by decide +kernel) (by decide) (by decide +kernel) rfl rfl
theorem i_287_568 : mj_Rn d 287 568 (l0 :: l1 :: .inr (.inl a) :: L) st G M Q = mj_Rn d 287 569 (l0 :: l1 :: .inr (.inl a) :: L) (.inr (.inl a) :: st) G M Q := op_aload_n (by decide +kernel) rfl
theorem i_287_569 : mj_Rn d 287 569 (.inr (.inl a) :: L) st G M Q = mj_Rn d 287 570 (.inr (.inl a) :: L) (.inr (.inl a) :: st) G M Q := op_aload_n (by decide +kernel) rfl
theorem i_287_570 : mj_Rn d 287 570 (l0 :: l1 :: l2 :: .inl x :: L) st G M Q = mj_Rn d 287 571 (l0 :: l1 :: l2 :: .inl x :: L) (.inl x :: st) G M Q := op_iload_n (by decide +kernel) rfl
theorem i_287_571 : mj_Rn d 287 571 L st G M Q = mj_Rn d 287 572 L (.inl 1 :: st) G M Q := op_iconst (by decide +kernel)
theorem i_287_572 : mj_Rn d 287 572 L (.inl y :: .inl x :: st) G M Q = mj_Rn d 287 573 L (.inl (mj_w (x + y)) :: st) G M Q := op_iadd (by decide +kernel)
theorem i_287_573 : mj_Rn d 287 573 L (.inl x :: .inr (.inl a) :: st) G M Q = (∃ len, mj_ai G M a = some len ∧ (0 ≤ x ∧ x < len) ∧ mj_Rn d 287 574 L (.inl (M a x.toNat) :: st) G M Q) := op_iaload (by decide +kernel)
theorem i_287_574 : mj_Rn d 287 574 (.inr (.inl a) :: L) st G M Q = mj_Rn d 287 575 (.inr (.inl a) :: L) (.inr (.inl a) :: st) G M Q := op_aload_n (by decide +kernel) rfl
theorem i_287_575 : mj_Rn d 287 575 (l0 :: l1 :: l2 :: .inl x :: L) st G M Q = mj_Rn d 287 576 (l0 :: l1 :: l2 :: .inl x :: L) (.inl x :: st) G M Q := op_iload_n (by decide +kernel) rfl
theorem i_287_576 : mj_Rn d 287 576 L st G M Q = mj_Rn d 287 577 L (.inl 2 :: st) G M Q := op_iconst (by decide +kernel)
theorem i_287_577 : mj_Rn d 287 577 L (.inl y :: .inl x :: st) G M Q = mj_Rn d 287 578 L (.inl (mj_w (x + y)) :: st) G M Q := op_iadd (by decide +kernel)
theorem i_287_578 : mj_Rn d 287 578 L (.inl x :: .inr (.inl a) :: st) G M Q = (∃ len, mj_ai G M a = some len ∧ (0 ≤ x ∧ x < len) ∧ mj_Rn d 287 579 L (.inl (M a x.toNat) :: st) G M Q) := op_iaload (by decide +kernel)
theorem i_287_579 : mj_Rn (d + 1) 287 579 L (.inl x1 :: .inl x0 :: .inr (.inl a) :: st) G M Q = (st.length ≤ 4 ∧ mj_isO G a 12 = true ∧ mj_Rn d 242 0 [.inr (.inl a), .inl x0, .inl x1, .inr (.inr 0), .inr (.inr 0)] [] G M fun r G' M' => mj_Rn (d + 1) 287 582 L (r.toList ++ st) G' M' Q) := op_callV (as := [.inl x0, .inl x1]) (m := 5) (ci := 12) (kd := 0) (Or.inr (Or.inl rfl)) (by decide +kernel) (by decide +kernel) (by decide) (by decide +kernel) rfl rfl
theorem i_287_582 : mj_Rn d 287 582 L (.inl y :: .inl x :: st) G M Q = ((x = y → mj_Rn d 287 1361 L st G M Q) ∧ (¬ x = y → mj_Rn d 287 585 L st G M Q)) := op_eq (by decide +kernel) (by decide)
theorem i_287_585 : mj_Rn d 287 585 L st G M Q = mj_Rn d 287 586 L (.inl 0 :: st) G M Q := op_iconst (by decide +kernel)
theorem i_287_586 : mj_Rn d 287 586 L [.inl x] G M Q = ((0 ≤ x ∧ x ≤ 1) ∧ Q (some (.inl x)) G M) := op_zret (by decide +kernel) (by decide +kernel)
theorem i_287_587 : mj_Rn d 287 587 (l0 :: .inr (.inl a) :: L) st G M Q = mj_Rn d 287 588 (l0 :: .inr (.inl a) :: L) (.inr (.inl a) :: st) G M Q := op_aload_n (by decide +kernel) rfl
theorem i_287_588 : mj_Rn d 287 588 (.inr (.inl a) :: L) st G M Q = mj_Rn d 287 589 (.inr (.inl a) :: L) (.inr (.inl a) :: st) G M Q := op_aload_n (by decide +kernel) rfl
theorem i_287_589 : mj_Rn d 287 589 (l0 :: l1 :: l2 :: .inl x :: L) st G M Q = mj_Rn d 287 590 (l0 :: l1 :: l2 :: .inl x :: L) (.inl x :: st) G M Q := op_iload_n (by decide +kernel) rfl
theorem i_287_590 : mj_Rn d 287 590 L st G M Q = mj_Rn d 287 591 L (.inl 1 :: st) G M Q := op_iconst (by decide +kernel)
theorem i_287_591 : mj_Rn d 287 591 L (.inl y :: .inl x :: st) G M Q = mj_Rn d 287 592 L (.inl (mj_w (x + y)) :: st) G M Q := op_iadd (by decide +kernel)
theorem i_287_592 : mj_Rn d 287 592 L (.inl x :: .inr (.inl a) :: st) G M Q = (∃ len, mj_ai G M a = some len ∧ (0 ≤ x ∧ x < len) ∧ mj_Rn d 287 593 L (.inl (M a x.toNat) :: st) G M Q) := op_iaload (by decide +kernel)
theorem i_287_593 : mj_Rn d 287 593 (.inr (.inl a) :: L) st G M Q = mj_Rn d 287 594 (.inr (.inl a) :: L) (.inr (.inl a) :: st) G M Q := op_aload_n (by decide +kernel) rfl
theorem i_287_594 : mj_Rn d 287 594 (l0 :: l1 :: l2 :: .inl x :: L) st G M Q = mj_Rn d 287 595 (l0 :: l1 :: l2 :: .inl x :: L) (.inl x :: st) G M Q := op_iload_n (by decide +kernel) rfl
theorem i_287_595 : mj_Rn d 287 595 L st G M Q = mj_Rn d 287 596 L (.inl 2 :: st) G M Q := op_iconst (by decide +kernel)
theorem i_287_596 : mj_Rn d 287 596 L (.inl y :: .inl x :: st) G M Q = mj_Rn d 287 597 L (.inl (mj_w (x + y)) :: st) G M Q := op_iadd (by decide +kernel)
theorem i_287_597 : mj_Rn d 287 597 L (.inl x :: .inr (.inl a) :: st) G M Q = (∃ len, mj_ai G M a = some len ∧ (0 ≤ x ∧ x < len) ∧ mj_Rn d 287 598 L (.inl (M a x.toNat) :: st) G M Q) := op_iaload (by decide +kernel)
theorem i_287_598 : mj_Rn (d + 1) 287 598 L (.inl x1 :: .inl x0 :: .inr (.inl a) :: st) G M Q = (st.length ≤ 4 ∧ mj_isO G a 0 = true ∧ mj_Rn d 84 0 [.inr (.inl a), .inl x0, .inl x1, .inr (.inr 0)] [] G M fun r G' M' => mj_Rn (d + 1) 287 601 L (r.toList ++ st) G' M' Q) := op_callV (as := [.inl x0, .inl x1]) (m := 4) (ci := 0) (kd := 0) (Or.inr (Or.inl rfl)) (by decide +kernel) (by decide +kernel) (by decide) (by decide +kernel) rfl rfl
theorem i_287_601 : mj_Rn d 287 601 (l0 :: l1 :: .inr (.inl a) :: L) st G M Q = mj_Rn d 287 602 (l0 :: l1 :: .inr (.inl a) :: L) (.inr (.inl a) :: st) G M Q := op_aload_n (by decide +kernel) rfl
theorem i_287_602 : mj_Rn d 287 602 (.inr (.inl a) :: L) st G M Q = mj_Rn d 287 603 (.inr (.inl a) :: L) (.inr (.inl a) :: st) G M Q := op_aload_n (by decide +kernel) rfl
theorem i_287_603 : mj_Rn d 287 603 (l0 :: l1 :: l2 :: .inl x :: L) st G M Q = mj_Rn d 287 604 (l0 :: l1 :: l2 :: .inl x :: L) (.inl x :: st) G M Q := op_iload_n (by decide +kernel) rfl
theorem i_287_604 : mj_Rn d 287 604 L st G M Q = mj_Rn d 287 605 L (.inl 1 :: st) G M Q := op_iconst (by decide +kernel)
theorem i_287_605 : mj_Rn d 287 605 L (.inl y :: .inl x :: st) G M Q = mj_Rn d 287 606 L (.inl (mj_w (x + y)) :: st) G M Q := op_iadd (by decide +kernel)
theorem i_287_606 : mj_Rn d 287 606 L (.inl x :: .inr (.inl a) :: st) G M Q = (∃ len, mj_ai G M a = some len ∧ (0 ≤ x ∧ x < len) ∧ mj_Rn d 287 607 L (.inl (M a x.toNat) :: st) G M Q) := op_iaload (by decide +kernel)
theorem i_287_607 : mj_Rn d 287 607 (.inr (.inl a) :: L) st G M Q = mj_Rn d 287 608 (.inr (.inl a) :: L) (.inr (.inl a) :: st) G M Q := op_aload_n (by decide +kernel) rfl
theorem i_287_608 : mj_Rn d 287 608 (l0 :: l1 :: l2 :: .inl x :: L) st G M Q = mj_Rn d 287 609 (l0 :: l1 :: l2 :: .inl x :: L) (.inl x :: st) G M Q := op_iload_n (by decide +kernel) rfl
theorem i_287_609 : mj_Rn d 287 609 L st G M Q = mj_Rn d 287 610 L (.inl 2 :: st) G M Q := op_iconst (by decide +kernel)
theorem i_287_610 : mj_Rn d 287 610 L (.inl y :: .inl x :: st) G M Q = mj_Rn d 287 611 L (.inl (mj_w (x + y)) :: st) G M Q := op_iadd (by decide +kernel)
theorem i_287_611 : mj_Rn d 287 611 L (.inl x :: .inr (.inl a) :: st) G M Q = (∃ len, mj_ai G M a = some len ∧ (0 ≤ x ∧ x < len) ∧ mj_Rn d 287 612 L (.inl (M a x.toNat) :: st) G M Q) := op_iaload (by decide +kernel)
theorem i_287_612 : mj_Rn (d + 1) 287 612 L (.inl x1 :: .inl x0 :: .inr (.inl a) :: st) G M Q = (st.length ≤ 4 ∧ mj_isO G a 12 = true ∧ mj_Rn d 243 0 [.inr (.inl a), .inl x0, .inl x1] [] G M fun r G' M' => mj_Rn (d + 1) 287 615 L (r.toList ++ st) G' M' Q) := op_callV (as := [.inl x0, .inl x1]) (m := 3) (ci := 12) (kd := 0) (Or.inr (Or.inl rfl)) (by decide +kernel) (by decide +kernel) (by decide) (by decide +kernel) rfl rfl
theorem i_287_615 : mj_Rn d 287 615 L (.inl y :: .inl x :: st) G M Q = ((x = y → mj_Rn d 287 1361 L st G M Q) ∧ (¬ x = y → mj_Rn d 287 618 L st G M Q)) := op_eq (by decide +kernel) (by decide)
theorem i_287_618 : mj_Rn d 287 618 L st G M Q = mj_Rn d 287 619 L (.inl 0 :: st) G M Q := op_iconst (by decide +kernel)
theorem i_287_619 : mj_Rn d 287 619 L [.inl x] G M Q = ((0 ≤ x ∧ x ≤ 1) ∧ Q (some (.inl x)) G M) := op_zret (by decide +kernel) (by decide +kernel)
theorem i_287_620 : mj_Rn d 287 620 (l0 :: .inr (.inl a) :: L) st G M Q = mj_Rn d 287 621 (l0 :: .inr (.inl a) :: L) (.inr (.inl a) :: st) G M Q := op_aload_n (by decide +kernel) rfl
theorem i_287_621 : mj_Rn d 287 621 (.inr (.inl a) :: L) st G M Q = mj_Rn d 287 622 (.inr (.inl a) :: L) (.inr (.inl a) :: st) G M Q := op_aload_n (by decide +kernel) rfl
theorem i_287_622 : mj_Rn d 287 622 (l0 :: l1 :: l2 :: .inl x :: L) st G M Q = mj_Rn d 287 623 (l0 :: l1 :: l2 :: .inl x :: L) (.inl x :: st) G M Q := op_iload_n (by decide +kernel) rfl
theorem i_287_623 : mj_Rn d 287 623 L st G M Q = mj_Rn d 287 624 L (.inl 1 :: st) G M Q := op_iconst (by decide +kernel)
theorem i_287_624 : mj_Rn d 287 624 L (.inl y :: .inl x :: st) G M Q = mj_Rn d 287 625 L (.inl (mj_w (x + y)) :: st) G M Q := op_iadd (by decide +kernel)
theorem i_287_625 : mj_Rn d 287 625 L (.inl x :: .inr (.inl a) :: st) G M Q = (∃ len, mj_ai G M a = some len ∧ (0 ≤ x ∧ x < len) ∧ mj_Rn d 287 626 L (.inl (M a x.toNat) :: st) G M Q) := op_iaload (by decide +kernel)
theorem i_287_626 : mj_Rn d 287 626 (.inr (.inl a) :: L) st G M Q = mj_Rn d 287 627 (.inr (.inl a) :: L) (.inr (.inl a) :: st) G M Q := op_aload_n (by decide +kernel) rfl
theorem i_287_627 : mj_Rn d 287 627 (l0 :: l1 :: l2 :: .inl x :: L) st G M Q = mj_Rn d 287 628 (l0 :: l1 :: l2 :: .inl x :: L) (.inl x :: st) G M Q := op_iload_n (by decide +kernel) rfl
theorem i_287_628 : mj_Rn d 287 628 L st G M Q = mj_Rn d 287 629 L (.inl 2 :: st) G M Q := op_iconst (by decide +kernel)
theorem i_287_629 : mj_Rn d 287 629 L (.inl y :: .inl x :: st) G M Q = mj_Rn d 287 630 L (.inl (mj_w (x + y)) :: st) G M Q := op_iadd (by decide +kernel)
theorem i_287_630 : mj_Rn d 287 630 L (.inl x :: .inr (.inl a) :: st) G M Q = (∃ len, mj_ai G M a = some len ∧ (0 ≤ x ∧ x < len) ∧ mj_Rn d 287 631 L (.inl (M a x.toNat) :: st) G M Q) := op_iaload (by decide +kernel)
theorem i_287_631 : mj_Rn d 287 631 (.inr (.inl a) :: L) st G M Q = mj_Rn d 287 632 (.inr (.inl a) :: L) (.inr (.inl a) :: st) G M Q := op_aload_n (by decide +kernel) rfl
theorem i_287_632 : mj_Rn d 287 632 (l0 :: l1 :: l2 :: .inl x :: L) st G M Q = mj_Rn d 287 633 (l0 :: l1 :: l2 :: .inl x :: L) (.inl x :: st) G M Q := op_iload_n (by decide +kernel) rfl
theorem i_287_633 : mj_Rn d 287 633 L st G M Q = mj_Rn d 287 634 L (.inl 3 :: st) G M Q := op_iconst (by decide +kernel)
theorem i_287_634 : mj_Rn d 287 634 L (.inl y :: .inl x :: st) G M Q = mj_Rn d 287 635 L (.inl (mj_w (x + y)) :: st) G M Q := op_iadd (by decide +kernel)
theorem i_287_635 : mj_Rn d 287 635 L (.inl x :: .inr (.inl a) :: st) G M Q = (∃ len, mj_ai G M a = some len ∧ (0 ≤ x ∧ x < len) ∧ mj_Rn d 287 636 L (.inl (M a x.toNat) :: st) G M Q) := op_iaload (by decide +kernel)
theorem i_287_636 : mj_Rn (d + 1) 287 636 L (.inl x2 :: .inl x1 :: .inl x0 :: .inr (.inl a) :: st) G M Q = (st.length ≤ 4 ∧ mj_isO G a 0 = true ∧ mj_Rn d 85 0 [.inr (.inl a), .inl x0, .inl x1, .inl x2, .inr (.inr 0)] [] G M fun r G' M' => mj_Rn (d + 1) 287 639 L (r.toList ++ st) G' M' Q) := op_callV (as := [.inl x0, .inl x1, .inl x2]) (m := 5) (ci := 0) (kd := 0) (Or.inr (Or.inl rfl)) (by decide +kernel) (by decide +kernel) (by decide) (by decide +kernel) rfl rfl
theorem i_287_639 : mj_Rn d 287 639 (l0 :: l1 :: .inr (.inl a) :: L) st G M Q = mj_Rn d 287 640 (l0 :: l1 :: .inr (.inl a) :: L) (.inr (.inl a) :: st) G M Q := op_aload_n (by decide +kernel) rfl
theorem i_287_640 : mj_Rn d 287 640 (.inr (.inl a) :: L) st G M Q = mj_Rn d 287 641 (.inr (.inl a) :: L) (.inr (.inl a) :: st) G M Q := op_aload_n (by decide +kernel) rfl
theorem i_287_641 : mj_Rn d 287 641 (l0 :: l1 :: l2 :: .inl x :: L) st G M Q = mj_Rn d 287 642 (l0 :: l1 :: l2 :: .inl x :: L) (.inl x :: st) G M Q := op_iload_n (by decide +kernel) rfl
theorem i_287_642 : mj_Rn d 287 642 L st G M Q = mj_Rn d 287 643 L (.inl 1 :: st) G M Q := op_iconst (by decide +kernel)
theorem i_287_643 : mj_Rn d 287 643 L (.inl y :: .inl x :: st) G M Q = mj_Rn d 287 644 L (.inl (mj_w (x + y)) :: st) G M Q := op_iadd (by decide +kernel)
theorem i_287_644 : mj_Rn d 287 644 L (.inl x :: .inr (.inl a) :: st) G M Q = (∃ len, mj_ai G M a = some len ∧ (0 ≤ x ∧ x < len) ∧ mj_Rn d 287 645 L (.inl (M a x.toNat) :: st) G M Q) := op_iaload (by decide +kernel)
theorem i_287_645 : mj_Rn d 287 645 (.inr (.inl a) :: L) st G M Q = mj_Rn d 287 646 (.inr (.inl a) :: L) (.inr (.inl a) :: st) G M Q := op_aload_n (by decide +kernel) rfl
theorem i_287_646 : mj_Rn d 287 646 (l0 :: l1 :: l2 :: .inl x :: L) st G M Q = mj_Rn d 287 647 (l0 :: l1 :: l2 :: .inl x :: L) (.inl x :: st) G M Q := op_iload_n (by decide +kernel) rfl
theorem i_287_647 : mj_Rn d 287 647 L st G M Q = mj_Rn d 287 648 L (.inl 2 :: st) G M Q := op_iconst (by decide +kernel)
theorem i_287_648 : mj_Rn d 287 648 L (.inl y :: .inl x :: st) G M Q = mj_Rn d 287 649 L (.inl (mj_w (x + y)) :: st) G M Q := op_iadd (by decide +kernel)
theorem i_287_649 : mj_Rn d 287 649 L (.inl x :: .inr (.inl a) :: st) G M Q = (∃ len, mj_ai G M a = some len ∧ (0 ≤ x ∧ x < len) ∧ mj_Rn d 287 650 L (.inl (M a x.toNat) :: st) G M Q) := op_iaload (by decide +kernel)
theorem i_287_650 : mj_Rn d 287 650 (.inr (.inl a) :: L) st G M Q = mj_Rn d 287 651 (.inr (.inl a) :: L) (.inr (.inl a) :: st) G M Q := op_aload_n (by decide +kernel) rfl
theorem i_287_651 : mj_Rn d 287 651 (l0 :: l1 :: l2 :: .inl x :: L) st G M Q = mj_Rn d 287 652 (l0 :: l1 :: l2 :: .inl x :: L) (.inl x :: st) G M Q := op_iload_n (by decide +kernel) rfl
theorem i_287_652 : mj_Rn d 287 652 L st G M Q = mj_Rn d 287 653 L (.inl 3 :: st) G M Q := op_iconst (by decide +kernel)
theorem i_287_653 : mj_Rn d 287 653 L (.inl y :: .inl x :: st) G M Q = mj_Rn d 287 654 L (.inl (mj_w (x + y)) :: st) G M Q := op_iadd (by decide +kernel)
theorem i_287_654 : mj_Rn d 287 654 L (.inl x :: .inr (.inl a) :: st) G M Q = (∃ len, mj_ai G M a = some len ∧ (0 ≤ x ∧ x < len) ∧ mj_Rn d 287 655 L (.inl (M a x.toNat) :: st) G M Q) := op_iaload (by decide +kernel)
theorem i_287_655 : mj_Rn (d + 1) 287 655 L (.inl x2 :: .inl x1 :: .inl x0 :: .inr (.inl a) :: st) G M Q = (st.length ≤ 4 ∧ mj_isO G a 12 = true ∧ mj_Rn d 244 0 [.inr (.inl a), .inl x0, .inl x1, .inl x2] [] G M fun r G' M' => mj_Rn (d + 1) 287 658 L (r.toList ++ st) G' M' Q) := op_callV (as := [.inl x0, .inl x1, .inl x2]) (m := 4) (ci := 12) (kd := 0) (Or.inr (Or.inl rfl)) (by decide +kernel) (by decide +kernel) (by decide) (by decide +kernel) rfl rfl
theorem i_287_658 : mj_Rn d 287 658 L (.inl y :: .inl x :: st) G M Q = ((x = y → mj_Rn d 287 1361 L st G M Q) ∧ (¬ x = y → mj_Rn d 287 661 L st G M Q)) := op_eq (by decide +kernel) (by decide)
theorem i_287_661 : mj_Rn d 287 661 L st G M Q = mj_Rn d 287 662 L (.inl 0 :: st) G M Q := op_iconst (by decide +kernel)
theorem i_287_662 : mj_Rn d 287 662 L [.inl x] G M Q = ((0 ≤ x ∧ x ≤ 1) ∧ Q (some (.inl x)) G M) := op_zret (by decide +kernel) (by decide +kernel)
theorem i_287_663 : mj_Rn d 287 663 (l0 :: .inr (.inl a) :: L) st G M Q = mj_Rn d 287 664 (l0 :: .inr (.inl a) :: L) (.inr (.inl a) :: st) G M Q := op_aload_n (by decide +kernel) rfl
theorem i_287_664 : mj_Rn d 287 664 (.inr (.inl a) :: L) st G M Q = mj_Rn d 287 665 (.inr (.inl a) :: L) (.inr (.inl a) :: st) G M Q := op_aload_n (by decide +kernel) rfl
theorem i_287_665 : mj_Rn d 287 665 (l0 :: l1 :: l2 :: .inl x :: L) st G M Q = mj_Rn d 287 666 (l0 :: l1 :: l2 :: .inl x :: L) (.inl x :: st) G M Q := op_iload_n (by decide +kernel) rfl
theorem i_287_666 : mj_Rn d 287 666 L st G M Q = mj_Rn d 287 667 L (.inl 1 :: st) G M Q := op_iconst (by decide +kernel)
theorem i_287_667 : mj_Rn d 287 667 L (.inl y :: .inl x :: st) G M Q = mj_Rn d 287 668 L (.inl (mj_w (x + y)) :: st) G M Q := op_iadd (by decide +kernel)
theorem i_287_668 : mj_Rn d 287 668 L (.inl x :: .inr (.inl a) :: st) G M Q = (∃ len, mj_ai G M a = some len ∧ (0 ≤ x ∧ x < len) ∧ mj_Rn d 287 669 L (.inl (M a x.toNat) :: st) G M Q) := op_iaload (by decide +kernel)
theorem i_287_669 : mj_Rn d 287 669 (.inr (.inl a) :: L) st G M Q = mj_Rn d 287 670 (.inr (.inl a) :: L) (.inr (.inl a) :: st) G M Q := op_aload_n (by decide +kernel) rfl
theorem i_287_670 : mj_Rn d 287 670 (l0 :: l1 :: l2 :: .inl x :: L) st G M Q = mj_Rn d 287 671 (l0 :: l1 :: l2 :: .inl x :: L) (.inl x :: st) G M Q := op_iload_n (by decide +kernel) rfl
theorem i_287_671 : mj_Rn d 287 671 L st G M Q = mj_Rn d 287 672 L (.inl 2 :: st) G M Q := op_iconst (by decide +kernel)
theorem i_287_672 : mj_Rn d 287 672 L (.inl y :: .inl x :: st) G M Q = mj_Rn d 287 673 L (.inl (mj_w (x + y)) :: st) G M Q := op_iadd (by decide +kernel)
theorem i_287_673 : mj_Rn d 287 673 L (.inl x :: .inr (.inl a) :: st) G M Q = (∃ len, mj_ai G M a = some len ∧ (0 ≤ x ∧ x < len) ∧ mj_Rn d 287 674 L (.inl (M a x.toNat) :: st) G M Q) := op_iaload (by decide +kernel)
theorem i_287_674 : mj_Rn (d + 1) 287 674 L (.inl x1 :: .inl x0 :: .inr (.inl a) :: st) G M Q = (st.length ≤ 4 ∧ mj_isO G a 0 = true ∧ mj_Rn d 86 0 [.inr (.inl a), .inl x0, .inl x1] [] G M fun r G' M' => mj_Rn (d + 1) 287 677 L (r.toList ++ st) G' M' Q) := op_callV (as := [.inl x0, .inl x1]) (m := 3) (ci := 0) (kd := 0) (Or.inr (Or.inl rfl)) (by decide +kernel) (by decide +kernel) (by decide) (by decide +kernel) rfl rfl
theorem i_287_677 : mj_Rn d 287 677 (l0 :: l1 :: .inr (.inl a) :: L) st G M Q = mj_Rn d 287 678 (l0 :: l1 :: .inr (.inl a) :: L) (.inr (.inl a) :: st) G M Q := op_aload_n (by decide +kernel) rfl
theorem i_287_678 : mj_Rn d 287 678 (.inr (.inl a) :: L) st G M Q = mj_Rn d 287 679 (.inr (.inl a) :: L) (.inr (.inl a) :: st) G M Q := op_aload_n (by decide +kernel) rfl
theorem i_287_679 : mj_Rn d 287 679 (l0 :: l1 :: l2 :: .inl x :: L) st G M Q = mj_Rn d 287 680 (l0 :: l1 :: l2 :: .inl x :: L) (.inl x :: st) G M Q := op_iload_n (by decide +kernel) rfl
theorem i_287_680 : mj_Rn d 287 680 L st G M Q = mj_Rn d 287 681 L (.inl 1 :: st) G M Q := op_iconst (by decide +kernel)
theorem i_287_681 : mj_Rn d 287 681 L (.inl y :: .inl x :: st) G M Q = mj_Rn d 287 682 L (.inl (mj_w (x + y)) :: st) G M Q := op_iadd (by decide +kernel)
theorem i_287_682 : mj_Rn d 287 682 L (.inl x :: .inr (.inl a) :: st) G M Q = (∃ len, mj_ai G M a = some len ∧ (0 ≤ x ∧ x < len) ∧ mj_Rn d 287 683 L (.inl (M a x.toNat) :: st) G M Q) := op_iaload (by decide +kernel)
theorem i_287_683 : mj_Rn d 287 683 (.inr (.inl a) :: L) st G M Q = mj_Rn d 287 684 (.inr (.inl a) :: L) (.inr (.inl a) :: st) G M Q := op_aload_n (by decide +kernel) rfl
theorem i_287_684 : mj_Rn d 287 684 (l0 :: l1 :: l2 :: .inl x :: L) st G M Q = mj_Rn d 287 685 (l0 :: l1 :: l2 :: .inl x :: L) (.inl x :: st) G M Q := op_iload_n (by decide +kernel) rfl
theorem i_287_685 : mj_Rn d 287 685 L st G M Q = mj_Rn d 287 686 L (.inl 2 :: st) G M Q := op_iconst (by decide +kernel)
theorem i_287_686 : mj_Rn d 287 686 L (.inl y :: .inl x :: st) G M Q = mj_Rn d 287 687 L (.inl (mj_w (x + y)) :: st) G M Q := op_iadd (by decide +kernel)
theorem i_287_687 : mj_Rn d 287 687 L (.inl x :: .inr (.inl a) :: st) G M Q = (∃ len, mj_ai G M a = some len ∧ (0 ≤ x ∧ x < len) ∧ mj_Rn d 287 688 L (.inl (M a x.toNat) :: st) G M Q) := op_iaload (by decide +kernel)
theorem i_287_688 : mj_Rn (d + 1) 287 688 L (.inl x1 :: .inl x0 :: .inr (.inl a) :: st) G M Q = (st.length ≤ 4 ∧ mj_isO G a 12 = true ∧ mj_Rn d 245 0 [.inr (.inl a), .inl x0, .inl x1] [] G M fun r G' M' => mj_Rn (d + 1) 287 691 L (r.toList ++ st) G' M' Q) := op_callV (as := [.inl x0, .inl x1]) (m := 3) (ci := 12) (kd := 0) (Or.inr (Or.inl rfl)) (by decide +kernel) (by decide +kernel) (by decide) (by decide +kernel) rfl rfl
theorem i_287_691 : mj_Rn d 287 691 L (.inl y :: .inl x :: st) G M Q = ((x = y → mj_Rn d 287 1361 L st G M Q) ∧ (¬ x = y → mj_Rn d 287 694 L st G M Q)) := op_eq (by decide +kernel) (by decide)
theorem i_287_694 : mj_Rn d 287 694 L st G M Q = mj_Rn d 287 695 L (.inl 0 :: st) G M Q := op_iconst (by decide +kernel)
theorem i_287_695 : mj_Rn d 287 695 L [.inl x] G M Q = ((0 ≤ x ∧ x ≤ 1) ∧ Q (some (.inl x)) G M) := op_zret (by decide +kernel) (by decide +kernel)
theorem i_287_696 : mj_Rn d 287 696 (l0 :: .inr (.inl a) :: L) st G M Q = mj_Rn d 287 697 (l0 :: .inr (.inl a) :: L) (.inr (.inl a) :: st) G M Q := op_aload_n (by decide +kernel) rfl
theorem i_287_697 : mj_Rn d 287 697 (.inr (.inl a) :: L) st G M Q = mj_Rn d 287 698 (.inr (.inl a) :: L) (.inr (.inl a) :: st) G M Q := op_aload_n (by decide +kernel) rfl
theorem i_287_698 : mj_Rn d 287 698 (l0 :: l1 :: l2 :: .inl x :: L) st G M Q = mj_Rn d 287 699 (l0 :: l1 :: l2 :: .inl x :: L) (.inl x :: st) G M Q := op_iload_n (by decide +kernel) rfl
theorem i_287_699 : mj_Rn d 287 699 L st G M Q = mj_Rn d 287 700 L (.inl 1 :: st) G M Q := op_iconst (by decide +kernel)
theorem i_287_700 : mj_Rn d 287 700 L (.inl y :: .inl x :: st) G M Q = mj_Rn d 287 701 L (.inl (mj_w (x + y)) :: st) G M Q := op_iadd (by decide +kernel)
theorem i_287_701 : mj_Rn d 287 701 L (.inl x :: .inr (.inl a) :: st) G M Q = (∃ len, mj_ai G M a = some len ∧ (0 ≤ x ∧ x < len) ∧ mj_Rn d 287 702 L (.inl (M a x.toNat) :: st) G M Q) := op_iaload (by decide +kernel)
theorem i_287_702 : mj_Rn d 287 702 (.inr (.inl a) :: L) st G M Q = mj_Rn d 287 703 (.inr (.inl a) :: L) (.inr (.inl a) :: st) G M Q := op_aload_n (by decide +kernel) rfl
theorem i_287_703 : mj_Rn d 287 703 (l0 :: l1 :: l2 :: .inl x :: L) st G M Q = mj_Rn d 287 704 (l0 :: l1 :: l2 :: .inl x :: L) (.inl x :: st) G M Q := op_iload_n (by decide +kernel) rfl
theorem i_287_704 : mj_Rn d 287 704 L st G M Q = mj_Rn d 287 705 L (.inl 2 :: st) G M Q := op_iconst (by decide +kernel)
theorem i_287_705 : mj_Rn d 287 705 L (.inl y :: .inl x :: st) G M Q = mj_Rn d 287 706 L (.inl (mj_w (x + y)) :: st) G M Q := op_iadd (by decide +kernel)
theorem i_287_706 : mj_Rn d 287 706 L (.inl x :: .inr (.inl a) :: st) G M Q = (∃ len, mj_ai G M a = some len ∧ (0 ≤ x ∧ x < len) ∧ mj_Rn d 287 707 L (.inl (M a x.toNat) :: st) G M Q) := op_iaload (by decide +kernel)
theorem i_287_707 : mj_Rn (d + 1) 287 707 L (.inl x1 :: .inl x0 :: .inr (.inl a) :: st) G M Q = (st.length ≤ 4 ∧ mj_isO G a 0 = true ∧ mj_Rn d 87 0 [.inr (.inl a), .inl x0, .inl x1] [] G M fun r G' M' => mj_Rn (d + 1) 287 710 L (r.toList ++ st) G' M' Q) := op_callV (as := [.inl x0, .inl x1]) (m := 3) (ci := 0) (kd := 0) (Or.inr (Or.inl rfl)) (by decide +kernel) (by decide +kernel) (by decide) (by decide +kernel) rfl rfl
theorem i_287_710 : mj_Rn d 287 710 (l0 :: l1 :: .inr (.inl a) :: L) st G M Q = mj_Rn d 287 711 (l0 :: l1 :: .inr (.inl a) :: L) (.inr (.inl a) :: st) G M Q := op_aload_n (by decide +kernel) rfl
theorem i_287_711 : mj_Rn d 287 711 (.inr (.inl a) :: L) st G M Q = mj_Rn d 287 712 (.inr (.inl a) :: L) (.inr (.inl a) :: st) G M Q := op_aload_n (by decide +kernel) rfl
theorem i_287_712 : mj_Rn d 287 712 (l0 :: l1 :: l2 :: .inl x :: L) st G M Q = mj_Rn d 287 713 (l0 :: l1 :: l2 :: .inl x :: L) (.inl x :: st) G M Q := op_iload_n (by decide +kernel) rfl
theorem i_287_713 : mj_Rn d 287 713 L st G M Q = mj_Rn d 287 714 L (.inl 1 :: st) G M Q := op_iconst (by decide +kernel)
theorem i_287_714 : mj_Rn d 287 714 L (.inl y :: .inl x :: st) G M Q = mj_Rn d 287 715 L (.inl (mj_w (x + y)) :: st) G M Q := op_iadd (by decide +kernel)
theorem i_287_715 : mj_Rn d 287 715 L (.inl x :: .inr (.inl a) :: st) G M Q = (∃ len, mj_ai G M a = some len ∧ (0 ≤ x ∧ x < len) ∧ mj_Rn d 287 716 L (.inl (M a x.toNat) :: st) G M Q) := op_iaload (by decide +kernel)
theorem i_287_716 : mj_Rn d 287 716 (.inr (.inl a) :: L) st G M Q = mj_Rn d 287 717 (.inr (.inl a) :: L) (.inr (.inl a) :: st) G M Q := op_aload_n (by decide +kernel) rfl
theorem i_287_717 : mj_Rn d 287 717 (l0 :: l1 :: l2 :: .inl x :: L) st G M Q = mj_Rn d 287 718 (l0 :: l1 :: l2 :: .inl x :: L) (.inl x :: st) G M Q := op_iload_n (by decide +kernel) rfl
theorem i_287_718 : mj_Rn d 287 718 L st G M Q = mj_Rn d 287 719 L (.inl 2 :: st) G M Q := op_iconst (by decide +kernel)
theorem i_287_719 : mj_Rn d 287 719 L (.inl y :: .inl x :: st) G M Q = mj_Rn d 287 720 L (.inl (mj_w (x + y)) :: st) G M Q := op_iadd (by decide +kernel)
theorem i_287_720 : mj_Rn d 287 720 L (.inl x :: .inr (.inl a) :: st) G M Q = (∃ len, mj_ai G M a = some len ∧ (0 ≤ x ∧ x < len) ∧ mj_Rn d 287 721 L (.inl (M a x.toNat) :: st) G M Q) := op_iaload (by decide +kernel)
theorem i_287_721 : mj_Rn (d + 1) 287 721 L (.inl x1 :: .inl x0 :: .inr (.inl a) :: st) G M Q = (st.length ≤ 4 ∧ mj_isO G a 12 = true ∧ mj_Rn d 246 0 [.inr (.inl a), .inl x0, .inl x1] [] G M fun r G' M' => mj_Rn (d + 1) 287 724 L (r.toList ++ st) G' M' Q) := op_callV (as := [.inl x0, .inl x1]) (m := 3) (ci := 12) (kd := 0) (Or.inr (Or.inl rfl)) (by decide +kernel) (by decide +kernel) (by decide) (by decide +kernel) rfl rfl
theorem i_287_724 : mj_Rn d 287 724 L (.inl y :: .inl x :: st) G M Q = ((x = y → mj_Rn d 287 1361 L st G M Q) ∧ (¬ x = y → mj_Rn d 287 727 L st G M Q)) := op_eq (by decide +kernel) (by decide)
theorem i_287_727 : mj_Rn d 287 727 L st G M Q = mj_Rn d 287 728 L (.inl 0 :: st) G M Q := op_iconst (by decide +kernel)
theorem i_287_728 : mj_Rn d 287 728 L [.inl x] G M Q = ((0 ≤ x ∧ x ≤ 1) ∧ Q (some (.inl x)) G M) := op_zret (by decide +kernel) (by decide +kernel)
theorem i_287_729 : mj_Rn d 287 729 (l0 :: .inr (.inl a) :: L) st G M Q = mj_Rn d 287 730 (l0 :: .inr (.inl a) :: L) (.inr (.inl a) :: st) G M Q := op_aload_n (by decide +kernel) rfl
theorem i_287_730 : mj_Rn d 287 730 (.inr (.inl a) :: L) st G M Q = mj_Rn d 287 731 (.inr (.inl a) :: L) (.inr (.inl a) :: st) G M Q := op_aload_n (by decide +kernel) rfl
theorem i_287_731 : mj_Rn d 287 731 (l0 :: l1 :: l2 :: .inl x :: L) st G M Q = mj_Rn d 287 732 (l0 :: l1 :: l2 :: .inl x :: L) (.inl x :: st) G M Q := op_iload_n (by decide +kernel) rfl
theorem i_287_732 : mj_Rn d 287 732 L st G M Q = mj_Rn d 287 733 L (.inl 1 :: st) G M Q := op_iconst (by decide +kernel)
theorem i_287_733 : mj_Rn d 287 733 L (.inl y :: .inl x :: st) G M Q = mj_Rn d 287 734 L (.inl (mj_w (x + y)) :: st) G M Q := op_iadd (by decide +kernel)
theorem i_287_734 : mj_Rn d 287 734 L (.inl x :: .inr (.inl a) :: st) G M Q = (∃ len, mj_ai G M a = some len ∧ (0 ≤ x ∧ x < len) ∧ mj_Rn d 287 735 L (.inl (M a x.toNat) :: st) G M Q) := op_iaload (by decide +kernel)
theorem i_287_735 : mj_Rn (d + 1) 287 735 L (.inl x0 :: .inr (.inl a) :: st) G M Q = (st.length ≤ 4 ∧ mj_isO G a 0 = true ∧ mj_Rn d 88 0 [.inr (.inl a), .inl x0, .inr (.inr 0)] [] G M fun r G' M' => mj_Rn (d + 1) 287 738 L (r.toList ++ st) G' M' Q) := op_callV (as := [.inl x0]) (m := 3) (ci := 0) (kd := 0) (Or.inr (Or.inl rfl)) (by decide +kernel) (by decide +kernel) (by decide) (by decide +kernel) rfl rfl
theorem i_287_738 : mj_Rn d 287 738 (l0 :: l1 :: .inr (.inl a) :: L) st G M Q = mj_Rn d 287 739 (l0 :: l1 :: .inr (.inl a) :: L) (.inr (.inl a) :: st) G M Q := op_aload_n (by decide +kernel) rfl
theorem i_287_739 : mj_Rn d 287 739 (.inr (.inl a) :: L) st G M Q = mj_Rn d 287 740 (.inr (.inl a) :: L) (.inr (.inl a) :: st) G M Q := op_aload_n (by decide +kernel) rfl
theorem i_287_740 : mj_Rn d 287 740 (l0 :: l1 :: l2 :: .inl x :: L) st G M Q = mj_Rn d 287 741 (l0 :: l1 :: l2 :: .inl x :: L) (.inl x :: st) G M Q := op_iload_n (by decide +kernel) rfl
theorem i_287_741 : mj_Rn d 287 741 L st G M Q = mj_Rn d 287 742 L (.inl 1 :: st) G M Q := op_iconst (by decide +kernel)
theorem i_287_742 : mj_Rn d 287 742 L (.inl y :: .inl x :: st) G M Q = mj_Rn d 287 743 L (.inl (mj_w (x + y)) :: st) G M Q := op_iadd (by decide +kernel)
theorem i_287_743 : mj_Rn d 287 743 L (.inl x :: .inr (.inl a) :: st) G M Q = (∃ len, mj_ai G M a = some len ∧ (0 ≤ x ∧ x < len) ∧ mj_Rn d 287 744 L (.inl (M a x.toNat) :: st) G M Q) := op_iaload (by decide +kernel)
theorem i_287_744 : mj_Rn (d + 1) 287 744 L (.inl x0 :: .inr (.inl a) :: st) G M Q = (st.length ≤ 4 ∧ mj_isO G a 12 = true ∧ mj_Rn d 247 0 [.inr (.inl a), .inl x0, .inr (.inr 0)] [] G M fun r G' M' => mj_Rn (d + 1) 287 747 L (r.toList ++ st) G' M' Q) := op_callV (as := [.inl x0]) (m := 3) (ci := 12) (kd := 0) (Or.inr (Or.inl rfl)) (by decide +kernel) (by decide +kernel) (by decide) (by decide +kernel) rfl rfl
theorem i_287_747 : mj_Rn d 287 747 L (.inl y :: .inl x :: st) G M Q = ((x = y → mj_Rn d 287 1361 L st G M Q) ∧ (¬ x = y → mj_Rn d 287 750 L st G M Q)) := op_eq (by decide +kernel) (by decide)
theorem i_287_750 : mj_Rn d 287 750 L st G M Q = mj_Rn d 287 751 L (.inl 0 :: st) G M Q := op_iconst (by decide +kernel)
theorem i_287_751 : mj_Rn d 287 751 L [.inl x] G M Q = ((0 ≤ x ∧ x ≤ 1) ∧ Q (some (.inl x)) G M) := op_zret (by decide +kernel) (by decide +kernel)
theorem i_287_752 : mj_Rn d 287 752 (l0 :: .inr (.inl a) :: L) st G M Q = mj_Rn d 287 753 (l0 :: .inr (.inl a) :: L) (.inr (.inl a) :: st) G M Q := op_aload_n (by decide +kernel) rfl
theorem i_287_753 : mj_Rn d 287 753 (.inr (.inl a) :: L) st G M Q = mj_Rn d 287 754 (.inr (.inl a) :: L) (.inr (.inl a) :: st) G M Q := op_aload_n (by decide +kernel) rfl
theorem i_287_754 : mj_Rn d 287 754 (l0 :: l1 :: l2 :: .inl x :: L) st G M Q = mj_Rn d 287 755 (l0 :: l1 :: l2 :: .inl x :: L) (.inl x :: st) G M Q := op_iload_n (by decide +kernel) rfl
theorem i_287_755 : mj_Rn d 287 755 L st G M Q = mj_Rn d 287 756 L (.inl 1 :: st) G M Q := op_iconst (by decide +kernel)
theorem i_287_756 : mj_Rn d 287 756 L (.inl y :: .inl x :: st) G M Q = mj_Rn d 287 757 L (.inl (mj_w (x + y)) :: st) G M Q := op_iadd (by decide +kernel)
theorem i_287_757 : mj_Rn d 287 757 L (.inl x :: .inr (.inl a) :: st) G M Q = (∃ len, mj_ai G M a = some len ∧ (0 ≤ x ∧ x < len) ∧ mj_Rn d 287 758 L (.inl (M a x.toNat) :: st) G M Q) := op_iaload (by decide +kernel)
theorem i_287_758 : mj_Rn (d + 1) 287 758 L (.inl x0 :: .inr (.inl a) :: st) G M Q = (st.length ≤ 4 ∧ mj_isO G a 0 = true ∧ mj_Rn d 90 0 [.inr (.inl a), .inl x0] [] G M fun r G' M' => mj_Rn (d + 1) 287 761 L (r.toList ++ st) G' M' Q) := op_callV (as := [.inl x0]) (m := 2) (ci := 0) (kd := 0) (Or.inr (Or.inl rfl)) (by decide +kernel) (by decide +kernel) (by decide) (by decide +kernel) rfl rfl
theorem i_287_761 : mj_Rn d 287 761 (l0 :: l1 :: .inr (.inl a) :: L) st G M Q = mj_Rn d 287 762 (l0 :: l1 :: .inr (.inl a) :: L) (.inr (.inl a) :: st) G M Q := op_aload_n (by decide +kernel) rfl
theorem i_287_762 : mj_Rn d 287 762 (.inr (.inl a) :: L) st G M Q = mj_Rn d 287 763 (.inr (.inl a) :: L) (.inr (.inl a) :: st) G M Q := op_aload_n (by decide +kernel) rfl
theorem i_287_763 : mj_Rn d 287 763 (l0 :: l1 :: l2 :: .inl x :: L) st G M Q = mj_Rn d 287 764 (l0 :: l1 :: l2 :: .inl x :: L) (.inl x :: st) G M Q := op_iload_n (by decide +kernel) rfl
theorem i_287_764 : mj_Rn d 287 764 L st G M Q = mj_Rn d 287 765 L (.inl 1 :: st) G M Q := op_iconst (by decide +kernel)
theorem i_287_765 : mj_Rn d 287 765 L (.inl y :: .inl x :: st) G M Q = mj_Rn d 287 766 L (.inl (mj_w (x + y)) :: st) G M Q := op_iadd (by decide +kernel)
theorem i_287_766 : mj_Rn d 287 766 L (.inl x :: .inr (.inl a) :: st) G M Q = (∃ len, mj_ai G M a = some len ∧ (0 ≤ x ∧ x < len) ∧ mj_Rn d 287 767 L (.inl (M a x.toNat) :: st) G M Q) := op_iaload (by decide +kernel)
theorem i_287_767 : mj_Rn (d + 1) 287 767 L (.inl x0 :: .inr (.inl a) :: st) G M Q = (st.length ≤ 4 ∧ mj_isO G a 12 = true ∧ mj_Rn d 248 0 [.inr (.inl a), .inl x0, .inr (.inr 0), .inr (.inr 0)] [] G M fun r G' M' => mj_Rn (d + 1) 287 770 L (r.toList ++ st) G' M' Q) := op_callV (as := [.inl x0]) (m := 4) (ci := 12) (kd := 0) (Or.inr (Or.inl rfl)) (by decide +kernel) (by decide +kernel) (by decide) (by decide +kernel) rfl rfl
theorem i_287_770 : mj_Rn d 287 770 L (.inl y :: .inl x :: st) G M Q = ((x = y → mj_Rn d 287 1361 L st G M Q) ∧ (¬ x = y → mj_Rn d 287 773 L st G M Q)) := op_eq (by decide +kernel) (by decide)
theorem i_287_773 : mj_Rn d 287 773 L st G M Q = mj_Rn d 287 774 L (.inl 0 :: st) G M Q := op_iconst (by decide +kernel)
theorem i_287_774 : mj_Rn d 287 774 L [.inl x] G M Q = ((0 ≤ x ∧ x ≤ 1) ∧ Q (some (.inl x)) G M) := op_zret (by decide +kernel) (by decide +kernel)
theorem i_287_775 : mj_Rn d 287 775 (l0 :: .inr (.inl a) :: L) st G M Q = mj_Rn d 287 776 (l0 :: .inr (.inl a) :: L) (.inr (.inl a) :: st) G M Q := op_aload_n (by decide +kernel) rfl
theorem i_287_776 : mj_Rn d 287 776 (.inr (.inl a) :: L) st G M Q = mj_Rn d 287 777 (.inr (.inl a) :: L) (.inr (.inl a) :: st) G M Q := op_aload_n (by decide +kernel) rfl
theorem i_287_777 : mj_Rn d 287 777 (l0 :: l1 :: l2 :: .inl x :: L) st G M Q = mj_Rn d 287 778 (l0 :: l1 :: l2 :: .inl x :: L) (.inl x :: st) G M Q := op_iload_n (by decide +kernel) rfl
theorem i_287_778 : mj_Rn d 287 778 L st G M Q = mj_Rn d 287 779 L (.inl 1 :: st) G M Q := op_iconst (by decide +kernel)
theorem i_287_779 : mj_Rn d 287 779 L (.inl y :: .inl x :: st) G M Q = mj_Rn d 287 780 L (.inl (mj_w (x + y)) :: st) G M Q := op_iadd (by decide +kernel)
theorem i_287_780 : mj_Rn d 287 780 L (.inl x :: .inr (.inl a) :: st) G M Q = (∃ len, mj_ai G M a = some len ∧ (0 ≤ x ∧ x < len) ∧ mj_Rn d 287 781 L (.inl (M a x.toNat) :: st) G M Q) := op_iaload (by decide +kernel)
theorem i_287_781 : mj_Rn d 287 781 (.inr (.inl a) :: L) st G M Q = mj_Rn d 287 782 (.inr (.inl a) :: L) (.inr (.inl a) :: st) G M Q := op_aload_n (by decide +kernel) rfl
theorem i_287_782 : mj_Rn d 287 782 (l0 :: l1 :: l2 :: .inl x :: L) st G M Q = mj_Rn d 287 783 (l0 :: l1 :: l2 :: .inl x :: L) (.inl x :: st) G M Q := op_iload_n (by decide +kernel) rfl
theorem i_287_783 : mj_Rn d 287 783 L st G M Q = mj_Rn d 287 784 L (.inl 2 :: st) G M Q := op_iconst (by decide +kernel)
theorem i_287_784 : mj_Rn d 287 784 L (.inl y :: .inl x :: st) G M Q = mj_Rn d 287 785 L (.inl (mj_w (x + y)) :: st) G M Q := op_iadd (by decide +kernel)
theorem i_287_785 : mj_Rn d 287 785 L (.inl x :: .inr (.inl a) :: st) G M Q = (∃ len, mj_ai G M a = some len ∧ (0 ≤ x ∧ x < len) ∧ mj_Rn d 287 786 L (.inl (M a x.toNat) :: st) G M Q) := op_iaload (by decide +kernel)
theorem i_287_786 : mj_Rn (d + 1) 287 786 L (.inl x1 :: .inl x0 :: .inr (.inl a) :: st) G M Q = (st.length ≤ 4 ∧ mj_isO G a 0 = true ∧ mj_Rn d 91 0 [.inr (.inl a), .inl x0, .inl x1, .inr (.inr 0)] [] G M fun r G' M' => mj_Rn (d + 1) 287 789 L (r.toList ++ st) G' M' Q) := op_callV (as := [.inl x0, .inl x1]) (m := 4) (ci := 0) (kd := 0) (Or.inr (Or.inl rfl)) (by decide +kernel) (by decide +kernel) (by decide) (by decide +kernel) rfl rfl
theorem i_287_789 : mj_Rn d 287 789 (l0 :: l1 :: .inr (.inl a) :: L) st G M Q = mj_Rn d 287 790 (l0 :: l1 :: .inr (.inl a) :: L) (.inr (.inl a) :: st) G M Q := op_aload_n (by decide +kernel) rfl
theorem i_287_790 : mj_Rn d 287 790 (.inr (.inl a) :: L) st G M Q = mj_Rn d 287 791 (.inr (.inl a) :: L) (.inr (.inl a) :: st) G M Q := op_aload_n (by decide +kernel) rfl
theorem i_287_791 : mj_Rn d 287 791 (l0 :: l1 :: l2 :: .inl x :: L) st G M Q = mj_Rn d 287 792 (l0 :: l1 :: l2 :: .inl x :: L) (.inl x :: st) G M Q := op_iload_n (by decide +kernel) rfl
theorem i_287_792 : mj_Rn d 287 792 L st G M Q = mj_Rn d 287 793 L (.inl 1 :: st) G M Q := op_iconst (by decide +kernel)
theorem i_287_793 : mj_Rn d 287 793 L (.inl y :: .inl x :: st) G M Q = mj_Rn d 287 794 L (.inl (mj_w (x + y)) :: st) G M Q := op_iadd (by decide +kernel)
theorem i_287_794 : mj_Rn d 287 794 L (.inl x :: .inr (.inl a) :: st) G M Q = (∃ len, mj_ai G M a = some len ∧ (0 ≤ x ∧ x < len) ∧ mj_Rn d 287 795 L (.inl (M a x.toNat) :: st) G M Q) := op_iaload (by decide +kernel)
theorem i_287_795 : mj_Rn d 287 795 (.inr (.inl a) :: L) st G M Q = mj_Rn d 287 796 (.inr (.inl a) :: L) (.inr (.inl a) :: st) G M Q := op_aload_n (by decide +kernel) rfl
theorem i_287_796 : mj_Rn d 287 796 (l0 :: l1 :: l2 :: .inl x :: L) st G M Q = mj_Rn d 287 797 (l0 :: l1 :: l2 :: .inl x :: L) (.inl x :: st) G M Q := op_iload_n (by decide +kernel) rfl
theorem i_287_797 : mj_Rn d 287 797 L st G M Q = mj_Rn d 287 798 L (.inl 2 :: st) G M Q := op_iconst (by decide +kernel)
theorem i_287_798 : mj_Rn d 287 798 L (.inl y :: .inl x :: st) G M Q = mj_Rn d 287 799 L (.inl (mj_w (x + y)) :: st) G M Q := op_iadd (by decide +kernel)
theorem i_287_799 : mj_Rn d 287 799 L (.inl x :: .inr (.inl a) :: st) G M Q = (∃ len, mj_ai G M a = some len ∧ (0 ≤ x ∧ x < len) ∧ mj_Rn d 287 800 L (.inl (M a x.toNat) :: st) G M Q) := op_iaload (by decide +kernel)
theorem i_287_800 : mj_Rn (d + 1) 287 800 L (.inl x1 :: .inl x0 :: .inr (.inl a) :: st) G M Q = (st.length ≤ 4 ∧ mj_isO G a 12 = true ∧ mj_Rn d 249 0 [.inr (.inl a), .inl x0, .inl x1, .inr (.inr 0), .inr (.inr 0)] [] G M fun r G' M' => mj_Rn (d + 1) 287 803 L (r.toList ++ st) G' M' Q) := op_callV (as := [.inl x0, .inl x1]) (m := 5) (ci := 12) (kd := 0) (Or.inr (Or.inl rfl)) (by decide +kernel) (by decide +kernel) (by decide) (by decide +kernel) rfl rfl
theorem i_287_803 : mj_Rn d 287 803 L (.inl y :: .inl x :: st) G M Q = ((x = y → mj_Rn d 287 1361 L st G M Q) ∧ (¬ x = y → mj_Rn d 287 806 L st G M Q)) := op_eq (by decide +kernel) (by decide)
theorem i_287_806 : mj_Rn d 287 806 L st G M Q = mj_Rn d 287 807 L (.inl 0 :: st) G M Q := op_iconst (by decide +kernel)
theorem i_287_807 : mj_Rn d 287 807 L [.inl x] G M Q = ((0 ≤ x ∧ x ≤ 1) ∧ Q (some (.inl x)) G M) := op_zret (by decide +kernel) (by decide +kernel)
theorem i_287_808 : mj_Rn d 287 808 (l0 :: .inr (.inl a) :: L) st G M Q = mj_Rn d 287 809 (l0 :: .inr (.inl a) :: L) (.inr (.inl a) :: st) G M Q := op_aload_n (by decide +kernel) rfl
theorem i_287_809 : mj_Rn d 287 809 (.inr (.inl a) :: L) st G M Q = mj_Rn d 287 810 (.inr (.inl a) :: L) (.inr (.inl a) :: st) G M Q := op_aload_n (by decide +kernel) rfl
theorem i_287_810 : mj_Rn d 287 810 (l0 :: l1 :: l2 :: .inl x :: L) st G M Q = mj_Rn d 287 811 (l0 :: l1 :: l2 :: .inl x :: L) (.inl x :: st) G M Q := op_iload_n (by decide +kernel) rfl
theorem i_287_811 : mj_Rn d 287 811 L st G M Q = mj_Rn d 287 812 L (.inl 1 :: st) G M Q := op_iconst (by decide +kernel)
theorem i_287_812 : mj_Rn d 287 812 L (.inl y :: .inl x :: st) G M Q = mj_Rn d 287 813 L (.inl (mj_w (x + y)) :: st) G M Q := op_iadd (by decide +kernel)
theorem i_287_813 : mj_Rn d 287 813 L (.inl x :: .inr (.inl a) :: st) G M Q = (∃ len, mj_ai G M a = some len ∧ (0 ≤ x ∧ x < len) ∧ mj_Rn d 287 814 L (.inl (M a x.toNat) :: st) G M Q) := op_iaload (by decide +kernel)
theorem i_287_814 : mj_Rn (d + 1) 287 814 L (.inl x0 :: .inr (.inl a) :: st) G M Q = (st.length ≤ 4 ∧ mj_isO G a 0 = true ∧ mj_Rn d 92 0 [.inr (.inl a), .inl x0, .inr (.inr 0), .inr (.inr 0)] [] G M fun r G' M' => mj_Rn (d + 1) 287 817 L (r.toList ++ st) G' M' Q) := op_callV (as := [.inl x0]) (m := 4) (ci := 0) (kd := 0) (Or.inr (Or.inl rfl)) (by decide +kernel) (by decide +kernel) (by decide) (by decide +kernel) rfl rfl
theorem i_287_817 : mj_Rn d 287 817 (l0 :: l1 :: .inr (.inl a) :: L) st G M Q = mj_Rn d 287 818 (l0 :: l1 :: .inr (.inl a) :: L) (.inr (.inl a) :: st) G M Q := op_aload_n (by decide +kernel) rfl
theorem i_287_818 : mj_Rn d 287 818 (.inr (.inl a) :: L) st G M Q = mj_Rn d 287 819 (.inr (.inl a) :: L) (.inr (.inl a) :: st) G M Q := op_aload_n (by decide +kernel) rfl
theorem i_287_819 : mj_Rn d 287 819 (l0 :: l1 :: l2 :: .inl x :: L) st G M Q = mj_Rn d 287 820 (l0 :: l1 :: l2 :: .inl x :: L) (.inl x :: st) G M Q := op_iload_n (by decide +kernel) rfl
theorem i_287_820 : mj_Rn d 287 820 L st G M Q = mj_Rn d 287 821 L (.inl 1 :: st) G M Q := op_iconst (by decide +kernel)
theorem i_287_821 : mj_Rn d 287 821 L (.inl y :: .inl x :: st) G M Q = mj_Rn d 287 822 L (.inl (mj_w (x + y)) :: st) G M Q := op_iadd (by decide +kernel)
theorem i_287_822 : mj_Rn d 287 822 L (.inl x :: .inr (.inl a) :: st) G M Q = (∃ len, mj_ai G M a = some len ∧ (0 ≤ x ∧ x < len) ∧ mj_Rn d 287 823 L (.inl (M a x.toNat) :: st) G M Q) := op_iaload (by decide +kernel)
theorem i_287_823 : mj_Rn (d + 1) 287 823 L (.inl x0 :: .inr (.inl a) :: st) G M Q = (st.length ≤ 4 ∧ mj_isO G a 12 = true ∧ mj_Rn d 217 0 [.inr (.inl a), .inl x0, .inr (.inr 0), .inr (.inr 0)] [] G M fun r G' M' => mj_Rn (d + 1) 287 826 L (r.toList ++ st) G' M' Q) := op_callV (as := [.inl x0]) (m := 4) (ci := 12) (kd := 0) (Or.inr (Or.inl rfl)) (by decide +kernel) (by decide +kernel) (by decide) (by decide +kernel) rfl rfl
theorem i_287_826 : mj_Rn d 287 826 L (.inl y :: .inl x :: st) G M Q = ((x = y → mj_Rn d 287 1361 L st G M Q) ∧ (¬ x = y → mj_Rn d 287 829 L st G M Q)) := op_eq (by decide +kernel) (by decide)
theorem i_287_829 : mj_Rn d 287 829 L st G M Q = mj_Rn d 287 830 L (.inl 0 :: st) G M Q := op_iconst (by decide +kernel)
theorem i_287_830 : mj_Rn d 287 830 L [.inl x] G M Q = ((0 ≤ x ∧ x ≤ 1) ∧ Q (some (.inl x)) G M) := op_zret (by decide +kernel) (by decide +kernel)
theorem i_287_831 : mj_Rn d 287 831 (l0 :: .inr (.inl a) :: L) st G M Q = mj_Rn d 287 832 (l0 :: .inr (.inl a) :: L) (.inr (.inl a) :: st) G M Q := op_aload_n (by decide +kernel) rfl
theorem i_287_832 : mj_Rn d 287 832 (.inr (.inl a) :: L) st G M Q = mj_Rn d 287 833 (.inr (.inl a) :: L) (.inr (.inl a) :: st) G M Q := op_aload_n (by decide +kernel) rfl
theorem i_287_833 : mj_Rn d 287 833 (l0 :: l1 :: l2 :: .inl x :: L) st G M Q = mj_Rn d 287 834 (l0 :: l1 :: l2 :: .inl x :: L) (.inl x :: st) G M Q := op_iload_n (by decide +kernel) rfl
theorem i_287_834 : mj_Rn d 287 834 L st G M Q = mj_Rn d 287 835 L (.inl 1 :: st) G M Q := op_iconst (by decide +kernel)
theorem i_287_835 : mj_Rn d 287 835 L (.inl y :: .inl x :: st) G M Q = mj_Rn d 287 836 L (.inl (mj_w (x + y)) :: st) G M Q := op_iadd (by decide +kernel)
theorem i_287_836 : mj_Rn d 287 836 L (.inl x :: .inr (.inl a) :: st) G M Q = (∃ len, mj_ai G M a = some len ∧ (0 ≤ x ∧ x < len) ∧ mj_Rn d 287 837 L (.inl (M a x.toNat) :: st) G M Q) := op_iaload (by decide +kernel)
theorem i_287_837 : mj_Rn d 287 837 (.inr (.inl a) :: L) st G M Q = mj_Rn d 287 838 (.inr (.inl a) :: L) (.inr (.inl a) :: st) G M Q := op_aload_n (by decide +kernel) rfl
theorem i_287_838 : mj_Rn d 287 838 (l0 :: l1 :: l2 :: .inl x :: L) st G M Q = mj_Rn d 287 839 (l0 :: l1 :: l2 :: .inl x :: L) (.inl x :: st) G M Q := op_iload_n (by decide +kernel) rfl
theorem i_287_839 : mj_Rn d 287 839 L st G M Q = mj_Rn d 287 840 L (.inl 2 :: st) G M Q := op_iconst (by decide +kernel)
theorem i_287_840 : mj_Rn d 287 840 L (.inl y :: .inl x :: st) G M Q = mj_Rn d 287 841 L (.inl (mj_w (x + y)) :: st) G M Q := op_iadd (by decide +kernel)
theorem i_287_841 : mj_Rn d 287 841 L (.inl x :: .inr (.inl a) :: st) G M Q = (∃ len, mj_ai G M a = some len ∧ (0 ≤ x ∧ x < len) ∧ mj_Rn d 287 842 L (.inl (M a x.toNat) :: st) G M Q) := op_iaload (by decide +kernel)
theorem i_287_842 : mj_Rn d 287 842 (.inr (.inl a) :: L) st G M Q = mj_Rn d 287 843 (.inr (.inl a) :: L) (.inr (.inl a) :: st) G M Q := op_aload_n (by decide +kernel) rfl
theorem i_287_843 : mj_Rn d 287 843 (l0 :: l1 :: l2 :: .inl x :: L) st G M Q = mj_Rn d 287 844 (l0 :: l1 :: l2 :: .inl x :: L) (.inl x :: st) G M Q := op_iload_n (by decide +kernel) rfl
theorem i_287_844 : mj_Rn d 287 844 L st G M Q = mj_Rn d 287 845 L (.inl 3 :: st) G M Q := op_iconst (by decide +kernel)
theorem i_287_845 : mj_Rn d 287 845 L (.inl y :: .inl x :: st) G M Q = mj_Rn d 287 846 L (.inl (mj_w (x + y)) :: st) G M Q := op_iadd (by decide +kernel)
theorem i_287_846 : mj_Rn d 287 846 L (.inl x :: .inr (.inl a) :: st) G M Q = (∃ len, mj_ai G M a = some len ∧ (0 ≤ x ∧ x < len) ∧ mj_Rn d 287 847 L (.inl (M a x.toNat) :: st) G M Q) := op_iaload (by decide +kernel)
theorem i_287_847 : mj_Rn (d + 1) 287 847 L (.inl x2 :: .inl x1 :: .inl x0 :: .inr (.inl a) :: st) G M Q = (st.length ≤ 4 ∧ mj_isO G a 0 = true ∧ mj_Rn d 113 0 [.inr (.inl a), .inl x0, .inl x1, .inl x2, .inr (.inr 0), .inr (.inr 0), .inr (.inr 0), .inr (.inr 0)] [] G M fun r G' M' => mj_Rn (d + 1) 287 850 L (r.toList ++ st) G' M' Q) := op_callV (as := [.inl x0, .inl x1, .inl x2]) (m := 8) (ci := 0) (kd := 0) (Or.inr (Or.inl rfl)) (by decide +kernel) (by decide +kernel) (by decide) (by decide +kernel) rfl rfl
theorem i_287_850 : mj_Rn d 287 850 (l0 :: l1 :: .inr (.inl a) :: L) st G M Q = mj_Rn d 287 851 (l0 :: l1 :: .inr (.inl a) :: L) (.inr (.inl a) :: st) G M Q := op_aload_n (by decide +kernel) rfl
theorem i_287_851 : mj_Rn d 287 851 (.inr (.inl a) :: L) st G M Q = mj_Rn d 287 852 (.inr (.inl a) :: L) (.inr (.inl a) :: st) G M Q := op_aload_n (by decide +kernel) rfl
theorem i_287_852 : mj_Rn d 287 852 (l0 :: l1 :: l2 :: .inl x :: L) st G M Q = mj_Rn d 287 853 (l0 :: l1 :: l2 :: .inl x :: L) (.inl x :: st) G M Q := op_iload_n (by decide +kernel) rfl
theorem i_287_853 : mj_Rn d 287 853 L st G M Q = mj_Rn d 287 854 L (.inl 1 :: st) G M Q := op_iconst (by decide +kernel)
theorem i_287_854 : mj_Rn d 287 854 L (.inl y :: .inl x :: st) G M Q = mj_Rn d 287 855 L (.inl (mj_w (x + y)) :: st) G M Q := op_iadd (by decide +kernel)
theorem i_287_855 : mj_Rn d 287 855 L (.inl x :: .inr (.inl a) :: st) G M Q = (∃ len, mj_ai G M a = some len ∧ (0 ≤ x ∧ x < len) ∧ mj_Rn d 287 856 L (.inl (M a x.toNat) :: st) G M Q) := op_iaload (by decide +kernel)
theorem i_287_856 : mj_Rn d 287 856 (.inr (.inl a) :: L) st G M Q = mj_Rn d 287 857 (.inr (.inl a) :: L) (.inr (.inl a) :: st) G M Q := op_aload_n (by decide +kernel) rfl
theorem i_287_857 : mj_Rn d 287 857 (l0 :: l1 :: l2 :: .inl x :: L) st G M Q = mj_Rn d 287 858 (l0 :: l1 :: l2 :: .inl x :: L) (.inl x :: st) G M Q := op_iload_n (by decide +kernel) rfl
theorem i_287_858 : mj_Rn d 287 858 L st G M Q = mj_Rn d 287 859 L (.inl 2 :: st) G M Q := op_iconst (by decide +kernel)
theorem i_287_859 : mj_Rn d 287 859 L (.inl y :: .inl x :: st) G M Q = mj_Rn d 287 860 L (.inl (mj_w (x + y)) :: st) G M Q := op_iadd (by decide +kernel)
theorem i_287_860 : mj_Rn d 287 860 L (.inl x :: .inr (.inl a) :: st) G M Q = (∃ len, mj_ai G M a = some len ∧ (0 ≤ x ∧ x < len) ∧ mj_Rn d 287 861 L (.inl (M a x.toNat) :: st) G M Q) := op_iaload (by decide +kernel)
theorem i_287_861 : mj_Rn d 287 861 (.inr (.inl a) :: L) st G M Q = mj_Rn d 287 862 (.inr (.inl a) :: L) (.inr (.inl a) :: st) G M Q := op_aload_n (by decide +kernel) rfl
theorem i_287_862 : mj_Rn d 287 862 (l0 :: l1 :: l2 :: .inl x :: L) st G M Q = mj_Rn d 287 863 (l0 :: l1 :: l2 :: .inl x :: L) (.inl x :: st) G M Q := op_iload_n (by decide +kernel) rfl
theorem i_287_863 : mj_Rn d 287 863 L st G M Q = mj_Rn d 287 864 L (.inl 3 :: st) G M Q := op_iconst (by decide +kernel)
theorem i_287_864 : mj_Rn d 287 864 L (.inl y :: .inl x :: st) G M Q = mj_Rn d 287 865 L (.inl (mj_w (x + y)) :: st) G M Q := op_iadd (by decide +kernel)
theorem i_287_865 : mj_Rn d 287 865 L (.inl x :: .inr (.inl a) :: st) G M Q = (∃ len, mj_ai G M a = some len ∧ (0 ≤ x ∧ x < len) ∧ mj_Rn d 287 866 L (.inl (M a x.toNat) :: st) G M Q) := op_iaload (by decide +kernel)
theorem i_287_866 : mj_Rn (d + 1) 287 866 L (.inl x2 :: .inl x1 :: .inl x0 :: .inr (.inl a) :: st) G M Q = (st.length ≤ 4 ∧ mj_isO G a 12 = true ∧ mj_Rn d 250 0 [.inr (.inl a), .inl x0, .inl x1, .inl x2, .inr (.inr 0), .inr (.inr 0), .inr (.inr 0), .inr (.inr 0), .inr (.inr 0), .inr (.inr 0), .inr (.inr 0), .inr (.inr 0), .inr (.inr 0)] [] G M fun r G' M' => mj_Rn (d + 1) 287 869 L (r.toList ++ st) G' M' Q) := op_callV (as := [.inl x0, .inl x1, .inl x2]) (m := 13) (ci := 12) (kd := 0) (Or.inr (Or.inl rfl)) (by decide +kernel) (by decide +kernel) (by decide) (by decide +kernel) rfl rfl
theorem i_287_869 : mj_Rn d 287 869 L (.inl y :: .inl x :: st) G M Q = ((x = y → mj_Rn d 287 1361 L st G M Q) ∧ (¬ x = y → mj_Rn d 287 872 L st G M Q)) := op_eq (by decide +kernel) (by decide)
theorem i_287_872 : mj_Rn d 287 872 L st G M Q = mj_Rn d 287 873 L (.inl 0 :: st) G M Q := op_iconst (by decide +kernel)
theorem i_287_873 : mj_Rn d 287 873 L [.inl x] G M Q = ((0 ≤ x ∧ x ≤ 1) ∧ Q (some (.inl x)) G M) := op_zret (by decide +kernel) (by decide +kernel)
theorem i_287_874 : mj_Rn d 287 874 (l0 :: .inr (.inl a) :: L) st G M Q = mj_Rn d 287 875 (l0 :: .inr (.inl a) :: L) (.inr (.inl a) :: st) G M Q := op_aload_n (by decide +kernel) rfl
theorem i_287_875 : mj_Rn d 287 875 (.inr (.inl a) :: L) st G M Q = mj_Rn d 287 876 (.inr (.inl a) :: L) (.inr (.inl a) :: st) G M Q := op_aload_n (by decide +kernel) rfl
theorem i_287_876 : mj_Rn d 287 876 (l0 :: l1 :: l2 :: .inl x :: L) st G M Q = mj_Rn d 287 877 (l0 :: l1 :: l2 :: .inl x :: L) (.inl x :: st) G M Q := op_iload_n (by decide +kernel) rfl
theorem i_287_877 : mj_Rn d 287 877 L st G M Q = mj_Rn d 287 878 L (.inl 1 :: st) G M Q := op_iconst (by decide +kernel)
theorem i_287_878 : mj_Rn d 287 878 L (.inl y :: .inl x :: st) G M Q = mj_Rn d 287 879 L (.inl (mj_w (x + y)) :: st) G M Q := op_iadd (by decide +kernel)
theorem i_287_879 : mj_Rn d 287 879 L (.inl x :: .inr (.inl a) :: st) G M Q = (∃ len, mj_ai G M a = some len ∧ (0 ≤ x ∧ x < len) ∧ mj_Rn d 287 880 L (.inl (M a x.toNat) :: st) G M Q) := op_iaload (by decide +kernel)
theorem i_287_880 : mj_Rn (d + 1) 287 880 L (.inl x0 :: .inr (.inl a) :: st) G M Q = (st.length ≤ 4 ∧ mj_isO G a 0 = true ∧ mj_Rn d 123 0 [.inr (.inl a), .inl x0] [] G M fun r G' M' => mj_Rn (d + 1) 287 883 L (r.toList ++ st) G' M' Q) := op_callV (as := [.inl x0]) (m := 2) (ci := 0) (kd := 0) (Or.inr (Or.inl rfl)) (by decide +kernel) (by decide +kernel) (by decide) (by decide +kernel) rfl rfl
theorem i_287_883 : mj_Rn d 287 883 (l0 :: l1 :: .inr (.inl a) :: L) st G M Q = mj_Rn d 287 884 (l0 :: l1 :: .inr (.inl a) :: L) (.inr (.inl a) :: st) G M Q := op_aload_n (by decide +kernel) rfl
theorem i_287_884 : mj_Rn d 287 884 (.inr (.inl a) :: L) st G M Q = mj_Rn d 287 885 (.inr (.inl a) :: L) (.inr (.inl a) :: st) G M Q := op_aload_n (by decide +kernel) rfl
theorem i_287_885 : mj_Rn d 287 885 (l0 :: l1 :: l2 :: .inl x :: L) st G M Q = mj_Rn d 287 886 (l0 :: l1 :: l2 :: .inl x :: L) (.inl x :: st) G M Q := op_iload_n (by decide +kernel) rfl
theorem i_287_886 : mj_Rn d 287 886 L st G M Q = mj_Rn d 287 887 L (.inl 1 :: st) G M Q := op_iconst (by decide +kernel)
theorem i_287_887 : mj_Rn d 287 887 L (.inl y :: .inl x :: st) G M Q = mj_Rn d 287 888 L (.inl (mj_w (x + y)) :: st) G M Q := op_iadd (by decide +kernel)
theorem i_287_888 : mj_Rn d 287 888 L (.inl x :: .inr (.inl a) :: st) G M Q = (∃ len, mj_ai G M a = some len ∧ (0 ≤ x ∧ x < len) ∧ mj_Rn d 287 889 L (.inl (M a x.toNat) :: st) G M Q) := op_iaload (by decide +kernel)
theorem i_287_889 : mj_Rn (d + 1) 287 889 L (.inl x0 :: .inr (.inl a) :: st) G M Q = (st.length ≤ 4 ∧ mj_isO G a 12 = true ∧ mj_Rn d 255 0 [.inr (.inl a), .inl x0, .inr (.inr 0), .inr (.inr 0)] [] G M fun r G' M' => mj_Rn (d + 1) 287 892 L (r.toList ++ st) G' M' Q) := op_callV (as := [.inl x0]) (m := 4) (ci := 12) (kd := 0) (Or.inr (Or.inl rfl)) (by decide +kernel) (by decide +kernel) (by decide) (by decide +kernel) rfl rfl
theorem i_287_892 : mj_Rn d 287 892 L (.inl y :: .inl x :: st) G M Q = ((x = y → mj_Rn d 287 1361 L st G M Q) ∧ (¬ x = y → mj_Rn d 287 895 L st G M Q)) := op_eq (by decide +kernel) (by decide)
theorem i_287_895 : mj_Rn d 287 895 L st G M Q = mj_Rn d 287 896 L (.inl 0 :: st) G M Q := op_iconst (by decide +kernel)
theorem i_287_896 : mj_Rn d 287 896 L [.inl x] G M Q = ((0 ≤ x ∧ x ≤ 1) ∧ Q (some (.inl x)) G M) := op_zret (by decide +kernel) (by decide +kernel)
theorem i_287_897 : mj_Rn d 287 897 (l0 :: .inr (.inl a) :: L) st G M Q = mj_Rn d 287 898 (l0 :: .inr (.inl a) :: L) (.inr (.inl a) :: st) G M Q := op_aload_n (by decide +kernel) rfl
theorem i_287_898 : mj_Rn (d + 1) 287 898 L (.inr (.inl a) :: st) G M Q = (st.length ≤ 4 ∧ mj_isO G a 0 = true ∧ mj_Rn d 125 0 [.inr (.inl a)] [] G M fun r G' M' => mj_Rn (d + 1) 287 901 L (r.toList ++ st) G' M' Q) := op_callV (as := []) (m := 1) (ci := 0) (kd := 0) (Or.inr (Or.inl rfl)) (by decide +kernel) (by decide +kernel) (by decide) (by decide +kernel) rfl rfl
theorem i_287_901 : mj_Rn d 287 901 (l0 :: l1 :: .inr (.inl a) :: L) st G M Q = mj_Rn d 287 902 (l0 :: l1 :: .inr (.inl a) :: L) (.inr (.inl a) :: st) G M Q := op_aload_n (by decide +kernel) rfl
theorem i_287_902 : mj_Rn (d + 1) 287 902 L (.inr (.inl a) :: st) G M Q = (st.length ≤ 4 ∧ mj_isO G a 12 = true ∧ mj_Rn d 256 0 [.inr (.inl a), .inr (.inr 0), .inr (.inr 0)] [] G M fun r G' M' => mj_Rn (d + 1) 287 905 L (r.toList ++ st) G' M' Q) := op_callV (as := []) (m := 3) (ci := 12) (kd := 0) (Or.inr (Or.inl rfl)) (by decide +kernel) (by decide +kernel) (by decide) (by decide +kernel) rfl rfl
theorem i_287_905 : mj_Rn d 287 905 L (.inl y :: .inl x :: st) G M Q = ((x = y → mj_Rn d 287 1361 L st G M Q) ∧ (¬ x = y → mj_Rn d 287 908 L st G M Q)) := op_eq (by decide +kernel) (by decide)
theorem i_287_908 : mj_Rn d 287 908 L st G M Q = mj_Rn d 287 909 L (.inl 0 :: st) G M Q := op_iconst (by decide +kernel)
theorem i_287_909 : mj_Rn d 287 909 L [.inl x] G M Q = ((0 ≤ x ∧ x ≤ 1) ∧ Q (some (.inl x)) G M) := op_zret (by decide +kernel) (by decide +kernel)
theorem i_287_910 : mj_Rn d 287 910 (l0 :: .inr (.inl a) :: L) st G M Q = mj_Rn d 287 911 (l0 :: .inr (.inl a) :: L) (.inr (.inl a) :: st) G M Q := op_aload_n (by decide +kernel) rfl
theorem i_287_911 : mj_Rn d 287 911 (.inr (.inl a) :: L) st G M Q = mj_Rn d 287 912 (.inr (.inl a) :: L) (.inr (.inl a) :: st) G M Q := op_aload_n (by decide +kernel) rfl
theorem i_287_912 : mj_Rn d 287 912 (l0 :: l1 :: l2 :: .inl x :: L) st G M Q = mj_Rn d 287 913 (l0 :: l1 :: l2 :: .inl x :: L) (.inl x :: st) G M Q := op_iload_n (by decide +kernel) rfl
theorem i_287_913 : mj_Rn d 287 913 L st G M Q = mj_Rn d 287 914 L (.inl 1 :: st) G M Q := op_iconst (by decide +kernel)
theorem i_287_914 : mj_Rn d 287 914 L (.inl y :: .inl x :: st) G M Q = mj_Rn d 287 915 L (.inl (mj_w (x + y)) :: st) G M Q := op_iadd (by decide +kernel)
theorem i_287_915 : mj_Rn d 287 915 L (.inl x :: .inr (.inl a) :: st) G M Q = (∃ len, mj_ai G M a = some len ∧ (0 ≤ x ∧ x < len) ∧ mj_Rn d 287 916 L (.inl (M a x.toNat) :: st) G M Q) := op_iaload (by decide +kernel)
theorem i_287_916 : mj_Rn d 287 916 (.inr (.inl a) :: L) st G M Q = mj_Rn d 287 917 (.inr (.inl a) :: L) (.inr (.inl a) :: st) G M Q := op_aload_n (by decide +kernel) rfl
theorem i_287_917 : mj_Rn d 287 917 (l0 :: l1 :: l2 :: .inl x :: L) st G M Q = mj_Rn d 287 918 (l0 :: l1 :: l2 :: .inl x :: L) (.inl x :: st) G M Q := op_iload_n (by decide +kernel) rfl
theorem i_287_918 : mj_Rn d 287 918 L st G M Q = mj_Rn d 287 919 L (.inl 2 :: st) G M Q := op_iconst (by decide +kernel)
theorem i_287_919 : mj_Rn d 287 919 L (.inl y :: .inl x :: st) G M Q = mj_Rn d 287 920 L (.inl (mj_w (x + y)) :: st) G M Q := op_iadd (by decide +kernel)
theorem i_287_920 : mj_Rn d 287 920 L (.inl x :: .inr (.inl a) :: st) G M Q = (∃ len, mj_ai G M a = some len ∧ (0 ≤ x ∧ x < len) ∧ mj_Rn d 287 921 L (.inl (M a x.toNat) :: st) G M Q) := op_iaload (by decide +kernel)
theorem i_287_921 : mj_Rn (d + 1) 287 921 L (.inl x1 :: .inl x0 :: .inr (.inl a) :: st) G M Q = (st.length ≤ 4 ∧ mj_isO G a 0 = true ∧ mj_Rn d 127 0 [.inr (.inl a), .inl x0, .inl x1] [] G M fun r G' M' => mj_Rn (d + 1) 287 924 L (r.toList ++ st) G' M' Q) := op_callV (as := [.inl x0, .inl x1]) (m := 3) (ci := 0) (kd := 0) (Or.inr (Or.inl rfl)) (by decide +kernel) (by decide +kernel) (by decide) (by decide +kernel) rfl rfl
theorem i_287_924 : mj_Rn d 287 924 (l0 :: l1 :: .inr (.inl a) :: L) st G M Q = mj_Rn d 287 925 (l0 :: l1 :: .inr (.inl a) :: L) (.inr (.inl a) :: st) G M Q := op_aload_n (by decide +kernel) rfl
theorem i_287_925 : mj_Rn d 287 925 (.inr (.inl a) :: L) st G M Q = mj_Rn d 287 926 (.inr (.inl a) :: L) (.inr (.inl a) :: st) G M Q := op_aload_n (by decide +kernel) rfl
theorem i_287_926 : mj_Rn d 287 926 (l0 :: l1 :: l2 :: .inl x :: L) st G M Q = mj_Rn d 287 927 (l0 :: l1 :: l2 :: .inl x :: L) (.inl x :: st) G M Q := op_iload_n (by decide +kernel) rfl
theorem i_287_927 : mj_Rn d 287 927 L st G M Q = mj_Rn d 287 928 L (.inl 1 :: st) G M Q := op_iconst (by decide +kernel)
theorem i_287_928 : mj_Rn d 287 928 L (.inl y :: .inl x :: st) G M Q = mj_Rn d 287 929 L (.inl (mj_w (x + y)) :: st) G M Q := op_iadd (by decide +kernel)
theorem i_287_929 : mj_Rn d 287 929 L (.inl x :: .inr (.inl a) :: st) G M Q = (∃ len, mj_ai G M a = some len ∧ (0 ≤ x ∧ x < len) ∧ mj_Rn d 287 930 L (.inl (M a x.toNat) :: st) G M Q) := op_iaload (by decide +kernel)
theorem i_287_930 : mj_Rn d 287 930 (.inr (.inl a) :: L) st G M Q = mj_Rn d 287 931 (.inr (.inl a) :: L) (.inr (.inl a) :: st) G M Q := op_aload_n (by decide +kernel) rfl
theorem i_287_931 : mj_Rn d 287 931 (l0 :: l1 :: l2 :: .inl x :: L) st G M Q = mj_Rn d 287 932 (l0 :: l1 :: l2 :: .inl x :: L) (.inl x :: st) G M Q := op_iload_n (by decide +kernel) rfl
theorem i_287_932 : mj_Rn d 287 932 L st G M Q = mj_Rn d 287 933 L (.inl 2 :: st) G M Q := op_iconst (by decide +kernel)
theorem i_287_933 : mj_Rn d 287 933 L (.inl y :: .inl x :: st) G M Q = mj_Rn d 287 934 L (.inl (mj_w (x + y)) :: st) G M Q := op_iadd (by decide +kernel)
theorem i_287_934 : mj_Rn d 287 934 L (.inl x :: .inr (.inl a) :: st) G M Q = (∃ len, mj_ai G M a = some len ∧ (0 ≤ x ∧ x < len) ∧ mj_Rn d 287 935 L (.inl (M a x.toNat) :: st) G M Q) := op_iaload (by decide +kernel)
theorem i_287_935 : mj_Rn (d + 1) 287 935 L (.inl x1 :: .inl x0 :: .inr (.inl a) :: st) G M Q = (st.length ≤ 4 ∧ mj_isO G a 12 = true ∧ mj_Rn d 257 0 [.inr (.inl a), .inl x0, .inl x1, .inr (.inr 0)] [] G M fun r G' M' => mj_Rn (d + 1) 287 938 L (r.toList ++ st) G' M' Q) := op_callV (as := [.inl x0, .inl x1]) (m := 4) (ci := 12) (kd := 0) (Or.inr (Or.inl rfl)) (by decide +kernel) (by decide +kernel) (by decide) (by decide +kernel) rfl rfl
theorem i_287_938 : mj_Rn d 287 938 L (.inl y :: .inl x :: st) G M Q = ((x = y → mj_Rn d 287 1361 L st G M Q) ∧ (¬ x = y → mj_Rn d 287 941 L st G M Q)) := op_eq (by decide +kernel) (by decide)
theorem i_287_941 : mj_Rn d 287 941 L st G M Q = mj_Rn d 287 942 L (.inl 0 :: st) G M Q := op_iconst (by decide +kernel)
theorem i_287_942 : mj_Rn d 287 942 L [.inl x] G M Q = ((0 ≤ x ∧ x ≤ 1) ∧ Q (some (.inl x)) G M) := op_zret (by decide +kernel) (by decide +kernel)
theorem i_287_943 : mj_Rn d 287 943 (l0 :: .inr (.inl a) :: L) st G M Q = mj_Rn d 287 944 (l0 :: .inr (.inl a) :: L) (.inr (.inl a) :: st) G M Q := op_aload_n (by decide +kernel) rfl
theorem i_287_944 : mj_Rn d 287 944 (.inr (.inl a) :: L) st G M Q = mj_Rn d 287 945 (.inr (.inl a) :: L) (.inr (.inl a) :: st) G M Q := op_aload_n (by decide +kernel) rfl
theorem i_287_945 : mj_Rn d 287 945 (l0 :: l1 :: l2 :: .inl x :: L) st G M Q = mj_Rn d 287 946 (l0 :: l1 :: l2 :: .inl x :: L) (.inl x :: st) G M Q := op_iload_n (by decide +kernel) rfl
theorem i_287_946 : mj_Rn d 287 946 L st G M Q = mj_Rn d 287 947 L (.inl 1 :: st) G M Q := op_iconst (by decide +kernel)
theorem i_287_947 : mj_Rn d 287 947 L (.inl y :: .inl x :: st) G M Q = mj_Rn d 287 948 L (.inl (mj_w (x + y)) :: st) G M Q := op_iadd (by decide +kernel)
theorem i_287_948 : mj_Rn d 287 948 L (.inl x :: .inr (.inl a) :: st) G M Q = (∃ len, mj_ai G M a = some len ∧ (0 ≤ x ∧ x < len) ∧ mj_Rn d 287 949 L (.inl (M a x.toNat) :: st) G M Q) := op_iaload (by decide +kernel)
theorem i_287_949 : mj_Rn d 287 949 (.inr (.inl a) :: L) st G M Q = mj_Rn d 287 950 (.inr (.inl a) :: L) (.inr (.inl a) :: st) G M Q := op_aload_n (by decide +kernel) rfl
theorem i_287_950 : mj_Rn d 287 950 (l0 :: l1 :: l2 :: .inl x :: L) st G M Q = mj_Rn d 287 951 (l0 :: l1 :: l2 :: .inl x :: L) (.inl x :: st) G M Q := op_iload_n (by decide +kernel) rfl
theorem i_287_951 : mj_Rn d 287 951 L st G M Q = mj_Rn d 287 952 L (.inl 2 :: st) G M Q := op_iconst (by decide +kernel)
theorem i_287_952 : mj_Rn d 287 952 L (.inl y :: .inl x :: st) G M Q = mj_Rn d 287 953 L (.inl (mj_w (x + y)) :: st) G M Q := op_iadd (by decide +kernel)
theorem i_287_953 : mj_Rn d 287 953 L (.inl x :: .inr (.inl a) :: st) G M Q = (∃ len, mj_ai G M a = some len ∧ (0 ≤ x ∧ x < len) ∧ mj_Rn d 287 954 L (.inl (M a x.toNat) :: st) G M Q) := op_iaload (by decide +kernel)
theorem i_287_954 : mj_Rn d 287 954 (.inr (.inl a) :: L) st G M Q = mj_Rn d 287 955 (.inr (.inl a) :: L) (.inr (.inl a) :: st) G M Q := op_aload_n (by decide +kernel) rfl
theorem i_287_955 : mj_Rn d 287 955 (l0 :: l1 :: l2 :: .inl x :: L) st G M Q = mj_Rn d 287 956 (l0 :: l1 :: l2 :: .inl x :: L) (.inl x :: st) G M Q := op_iload_n (by decide +kernel) rfl
theorem i_287_956 : mj_Rn d 287 956 L st G M Q = mj_Rn d 287 957 L (.inl 3 :: st) G M Q := op_iconst (by decide +kernel)
theorem i_287_957 : mj_Rn d 287 957 L (.inl y :: .inl x :: st) G M Q = mj_Rn d 287 958 L (.inl (mj_w (x + y)) :: st) G M Q := op_iadd (by decide +kernel)
theorem i_287_958 : mj_Rn d 287 958 L (.inl x :: .inr (.inl a) :: st) G M Q = (∃ len, mj_ai G M a = some len ∧ (0 ≤ x ∧ x < len) ∧ mj_Rn d 287 959 L (.inl (M a x.toNat) :: st) G M Q) := op_iaload (by decide +kernel)
theorem i_287_959 : mj_Rn (d + 1) 287 959 L (.inl x2 :: .inl x1 :: .inl x0 :: .inr (.inl a) :: st) G M Q = (st.length ≤ 4 ∧ mj_isO G a 0 = true ∧ mj_Rn d 136 0 [.inr (.inl a), .inl x0, .inl x1, .inl x2] [] G M fun r G' M' => mj_Rn (d + 1) 287 962 L (r.toList ++ st) G' M' Q) := op_callV (as := [.inl x0, .inl x1, .inl x2]) (m := 4) (ci := 0) (kd := 0) (Or.inr (Or.inl rfl)) (by decide +kernel) (by decide +kernel) (by decide) (by decide +kernel) rfl rfl
theorem i_287_962 : mj_Rn d 287 962 (l0 :: l1 :: .inr (.inl a) :: L) st G M Q = mj_Rn d 287 963 (l0 :: l1 :: .inr (.inl a) :: L) (.inr (.inl a) :: st) G M Q := op_aload_n (by decide +kernel) rfl
theorem i_287_963 : mj_Rn d 287 963 (.inr (.inl a) :: L) st G M Q = mj_Rn d 287 964 (.inr (.inl a) :: L) (.inr (.inl a) :: st) G M Q := op_aload_n (by decide +kernel) rfl
theorem i_287_964 : mj_Rn d 287 964 (l0 :: l1 :: l2 :: .inl x :: L) st G M Q = mj_Rn d 287 965 (l0 :: l1 :: l2 :: .inl x :: L) (.inl x :: st) G M Q := op_iload_n (by decide +kernel) rfl
theorem i_287_965 : mj_Rn d 287 965 L st G M Q = mj_Rn d 287 966 L (.inl 1 :: st) G M Q := op_iconst (by decide +kernel)
theorem i_287_966 : mj_Rn d 287 966 L (.inl y :: .inl x :: st) G M Q = mj_Rn d 287 967 L (.inl (mj_w (x + y)) :: st) G M Q := op_iadd (by decide +kernel)
theorem i_287_967 : mj_Rn d 287 967 L (.inl x :: .inr (.inl a) :: st) G M Q = (∃ len, mj_ai G M a = some len ∧ (0 ≤ x ∧ x < len) ∧ mj_Rn d 287 968 L (.inl (M a x.toNat) :: st) G M Q) := op_iaload (by decide +kernel)
theorem i_287_968 : mj_Rn d 287 968 (.inr (.inl a) :: L) st G M Q = mj_Rn d 287 969 (.inr (.inl a) :: L) (.inr (.inl a) :: st) G M Q := op_aload_n (by decide +kernel) rfl
theorem i_287_969 : mj_Rn d 287 969 (l0 :: l1 :: l2 :: .inl x :: L) st G M Q = mj_Rn d 287 970 (l0 :: l1 :: l2 :: .inl x :: L) (.inl x :: st) G M Q := op_iload_n (by decide +kernel) rfl
theorem i_287_970 : mj_Rn d 287 970 L st G M Q = mj_Rn d 287 971 L (.inl 2 :: st) G M Q := op_iconst (by decide +kernel)
theorem i_287_971 : mj_Rn d 287 971 L (.inl y :: .inl x :: st) G M Q = mj_Rn d 287 972 L (.inl (mj_w (x + y)) :: st) G M Q := op_iadd (by decide +kernel)
theorem i_287_972 : mj_Rn d 287 972 L (.inl x :: .inr (.inl a) :: st) G M Q = (∃ len, mj_ai G M a = some len ∧ (0 ≤ x ∧ x < len) ∧ mj_Rn d 287 973 L (.inl (M a x.toNat) :: st) G M Q) := op_iaload (by decide +kernel)
theorem i_287_973 : mj_Rn d 287 973 (.inr (.inl a) :: L) st G M Q = mj_Rn d 287 974 (.inr (.inl a) :: L) (.inr (.inl a) :: st) G M Q := op_aload_n (by decide +kernel) rfl
theorem i_287_974 : mj_Rn d 287 974 (l0 :: l1 :: l2 :: .inl x :: L) st G M Q = mj_Rn d 287 975 (l0 :: l1 :: l2 :: .inl x :: L) (.inl x :: st) G M Q := op_iload_n (by decide +kernel) rfl
theorem i_287_975 : mj_Rn d 287 975 L st G M Q = mj_Rn d 287 976 L (.inl 3 :: st) G M Q := op_iconst (by decide +kernel)
theorem i_287_976 : mj_Rn d 287 976 L (.inl y :: .inl x :: st) G M Q = mj_Rn d 287 977 L (.inl (mj_w (x + y)) :: st) G M Q := op_iadd (by decide +kernel)
theorem i_287_977 : mj_Rn d 287 977 L (.inl x :: .inr (.inl a) :: st) G M Q = (∃ len, mj_ai G M a = some len ∧ (0 ≤ x ∧ x < len) ∧ mj_Rn d 287 978 L (.inl (M a x.toNat) :: st) G M Q) := op_iaload (by decide +kernel)
theorem i_287_978 : mj_Rn (d + 1) 287 978 L (.inl x2 :: .inl x1 :: .inl x0 :: .inr (.inl a) :: st) G M Q = (st.length ≤ 4 ∧ mj_isO G a 12 = true ∧ mj_Rn d 261 0 [.inr (.inl a), .inl x0, .inl x1, .inl x2, .inr (.inr 0), .inr (.inr 0)] [] G M fun r G' M' => mj_Rn (d + 1) 287 981 L (r.toList ++ st) G' M' Q) := op_callV (as := [.inl x0, .inl x1, .inl x2]) (m := 6) (ci := 12) (kd := 0) (Or.inr (Or.inl rfl)) (by decide +kernel) (by decide +kernel) (by decide) (by decide +kernel) rfl rfl
theorem i_287_981 : mj_Rn d 287 981 L (.inl y :: .inl x :: st) G M Q = ((x = y → mj_Rn d 287 1361 L st G M Q) ∧ (¬ x = y → mj_Rn d 287 984 L st G M Q)) := op_eq (by decide +kernel) (by decide)
theorem i_287_984 : mj_Rn d 287 984 L st G M Q = mj_Rn d 287 985 L (.inl 0 :: st) G M Q := op_iconst (by decide +kernel)
theorem i_287_985 : mj_Rn d 287 985 L [.inl x] G M Q = ((0 ≤ x ∧ x ≤ 1) ∧ Q (some (.inl x)) G M) := op_zret (by decide +kernel) (by decide +kernel)
theorem i_287_986 : mj_Rn d 287 986 (l0 :: .inr (.inl a) :: L) st G M Q = mj_Rn d 287 987 (l0 :: .inr (.inl a) :: L) (.inr (.inl a) :: st) G M Q := op_aload_n (by decide +kernel) rfl
theorem i_287_987 : mj_Rn d 287 987 (.inr (.inl a) :: L) st G M Q = mj_Rn d 287 988 (.inr (.inl a) :: L) (.inr (.inl a) :: st) G M Q := op_aload_n (by decide +kernel) rfl
theorem i_287_988 : mj_Rn d 287 988 (l0 :: l1 :: l2 :: .inl x :: L) st G M Q = mj_Rn d 287 989 (l0 :: l1 :: l2 :: .inl x :: L) (.inl x :: st) G M Q := op_iload_n (by decide +kernel) rfl
theorem i_287_989 : mj_Rn d 287 989 L st G M Q = mj_Rn d 287 990 L (.inl 1 :: st) G M Q := op_iconst (by decide +kernel)
theorem i_287_990 : mj_Rn d 287 990 L (.inl y :: .inl x :: st) G M Q = mj_Rn d 287 991 L (.inl (mj_w (x + y)) :: st) G M Q := op_iadd (by decide +kernel)
theorem i_287_991 : mj_Rn d 287 991 L (.inl x :: .inr (.inl a) :: st) G M Q = (∃ len, mj_ai G M a = some len ∧ (0 ≤ x ∧ x < len) ∧ mj_Rn d 287 992 L (.inl (M a x.toNat) :: st) G M Q) := op_iaload (by decide +kernel)
theorem i_287_992 : mj_Rn (d + 1) 287 992 L (.inl x0 :: .inr (.inl a) :: st) G M Q = (st.length ≤ 4 ∧ mj_isO G a 0 = true ∧ mj_Rn d 138 0 [.inr (.inl a), .inl x0] [] G M fun r G' M' => mj_Rn (d + 1) 287 995 L (r.toList ++ st) G' M' Q) := op_callV (as := [.inl x0]) (m := 2) (ci := 0) (kd := 0) (Or.inr (Or.inl rfl)) (by decide +kernel) (by decide +kernel) (by decide) (by decide +kernel) rfl rfl
theorem i_287_995 : mj_Rn d 287 995 (l0 :: l1 :: .inr (.inl a) :: L) st G M Q = mj_Rn d 287 996 (l0 :: l1 :: .inr (.inl a) :: L) (.inr (.inl a) :: st) G M Q := op_aload_n (by decide +kernel) rfl
theorem i_287_996 : mj_Rn d 287 996 (.inr (.inl a) :: L) st G M Q = mj_Rn d 287 997 (.inr (.inl a) :: L) (.inr (.inl a) :: st) G M Q := op_aload_n (by decide +kernel) rfl
theorem i_287_997 : mj_Rn d 287 997 (l0 :: l1 :: l2 :: .inl x :: L) st G M Q = mj_Rn d 287 998 (l0 :: l1 :: l2 :: .inl x :: L) (.inl x :: st) G M Q := op_iload_n (by decide +kernel) rfl
theorem i_287_998 : mj_Rn d 287 998 L st G M Q = mj_Rn d 287 999 L (.inl 1 :: st) G M Q := op_iconst (by decide +kernel)
theorem i_287_999 : mj_Rn d 287 999 L (.inl y :: .inl x :: st) G M Q = mj_Rn d 287 1000 L (.inl (mj_w (x + y)) :: st) G M Q := op_iadd (by decide +kernel)
theorem i_287_1000 : mj_Rn d 287 1000 L (.inl x :: .inr (.inl a) :: st) G M Q = (∃ len, mj_ai G M a = some len ∧ (0 ≤ x ∧ x < len) ∧ mj_Rn d 287 1001 L (.inl (M a x.toNat) :: st) G M Q) := op_iaload (by decide +kernel)
theorem i_287_1001 : mj_Rn (d + 1) 287 1001 L (.inl x0 :: .inr (.inl a) :: st) G M Q = (st.length ≤ 4 ∧ mj_isO G a 12 = true ∧ mj_Rn d 262 0 [.inr (.inl a), .inl x0, .inr (.inr 0), .inr (.inr 0)] [] G M fun r G' M' => mj_Rn (d + 1) 287 1004 L (r.toList ++ st) G' M' Q) := op_callV (as := [.inl x0]) (m := 4) (ci := 12) (kd := 0) (Or.inr (Or.inl rfl)) (by decide +kernel) (by decide +kernel) (by decide) (by decide +kernel) rfl rfl
theorem i_287_1004 : mj_Rn d 287 1004 L (.inl y :: .inl x :: st) G M Q = ((x = y → mj_Rn d 287 1361 L st G M Q) ∧ (¬ x = y → mj_Rn d 287 1007 L st G M Q)) := op_eq (by decide +kernel) (by decide)
theorem i_287_1007 : mj_Rn d 287 1007 L st G M Q = mj_Rn d 287 1008 L (.inl 0 :: st) G M Q := op_iconst (by decide +kernel)
theorem i_287_1008 : mj_Rn d 287 1008 L [.inl x] G M Q = ((0 ≤ x ∧ x ≤ 1) ∧ Q (some (.inl x)) G M) := op_zret (by decide +kernel) (by decide +kernel)
theorem i_287_1009 : mj_Rn d 287 1009 (l0 :: .inr (.inl a) :: L) st G M Q = mj_Rn d 287 1010 (l0 :: .inr (.inl a) :: L) (.inr (.inl a) :: st) G M Q := op_aload_n (by decide +kernel) rfl
theorem i_287_1010 : mj_Rn d 287 1010 (.inr (.inl a) :: L) st G M Q = mj_Rn d 287 1011 (.inr (.inl a) :: L) (.inr (.inl a) :: st) G M Q := op_aload_n (by decide +kernel) rfl
theorem i_287_1011 : mj_Rn d 287 1011 (l0 :: l1 :: l2 :: .inl x :: L) st G M Q = mj_Rn d 287 1012 (l0 :: l1 :: l2 :: .inl x :: L) (.inl x :: st) G M Q := op_iload_n (by decide +kernel) rfl
theorem i_287_1012 : mj_Rn d 287 1012 L st G M Q = mj_Rn d 287 1013 L (.inl 1 :: st) G M Q := op_iconst (by decide +kernel)
theorem i_287_1013 : mj_Rn d 287 1013 L (.inl y :: .inl x :: st) G M Q = mj_Rn d 287 1014 L (.inl (mj_w (x + y)) :: st) G M Q := op_iadd (by decide +kernel)
theorem i_287_1014 : mj_Rn d 287 1014 L (.inl x :: .inr (.inl a) :: st) G M Q = (∃ len, mj_ai G M a = some len ∧ (0 ≤ x ∧ x < len) ∧ mj_Rn d 287 1015 L (.inl (M a x.toNat) :: st) G M Q) := op_iaload (by decide +kernel)
theorem i_287_1015 : mj_Rn d 287 1015 (.inr (.inl a) :: L) st G M Q = mj_Rn d 287 1016 (.inr (.inl a) :: L) (.inr (.inl a) :: st) G M Q := op_aload_n (by decide +kernel) rfl
theorem i_287_1016 : mj_Rn d 287 1016 (l0 :: l1 :: l2 :: .inl x :: L) st G M Q = mj_Rn d 287 1017 (l0 :: l1 :: l2 :: .inl x :: L) (.inl x :: st) G M Q := op_iload_n (by decide +kernel) rfl
theorem i_287_1017 : mj_Rn d 287 1017 L st G M Q = mj_Rn d 287 1018 L (.inl 2 :: st) G M Q := op_iconst (by decide +kernel)
theorem i_287_1018 : mj_Rn d 287 1018 L (.inl y :: .inl x :: st) G M Q = mj_Rn d 287 1019 L (.inl (mj_w (x + y)) :: st) G M Q := op_iadd (by decide +kernel)
theorem i_287_1019 : mj_Rn d 287 1019 L (.inl x :: .inr (.inl a) :: st) G M Q = (∃ len, mj_ai G M a = some len ∧ (0 ≤ x ∧ x < len) ∧ mj_Rn d 287 1020 L (.inl (M a x.toNat) :: st) G M Q) := op_iaload (by decide +kernel)
theorem i_287_1020 : mj_Rn (d + 1) 287 1020 L (.inl x1 :: .inl x0 :: .inr (.inl a) :: st) G M Q = (st.length ≤ 4 ∧ mj_isO G a 0 = true ∧ mj_Rn d 141 0 [.inr (.inl a), .inl x0, .inl x1, .inr (.inr 0)] [] G M fun r G' M' => mj_Rn (d + 1) 287 1023 L (r.toList ++ st) G' M' Q) := op_callV (as := [.inl x0, .inl x1]) (m := 4) (ci := 0) (kd := 0) (Or.inr (Or.inl rfl)) (by decide +kernel) (by decide +kernel) (by decide) (by decide +kernel) rfl rfl
theorem i_287_1023 : mj_Rn d 287 1023 (l0 :: l1 :: .inr (.inl a) :: L) st G M Q = mj_Rn d 287 1024 (l0 :: l1 :: .inr (.inl a) :: L) (.inr (.inl a) :: st) G M Q := op_aload_n (by decide +kernel) rfl
theorem i_287_1024 : mj_Rn d 287 1024 (.inr (.inl a) :: L) st G M Q = mj_Rn d 287 1025 (.inr (.inl a) :: L) (.inr (.inl a) :: st) G M Q := op_aload_n (by decide +kernel) rfl
theorem i_287_1025 : mj_Rn d 287 1025 (l0 :: l1 :: l2 :: .inl x :: L) st G M Q = mj_Rn d 287 1026 (l0 :: l1 :: l2 :: .inl x :: L) (.inl x :: st) G M Q := op_iload_n (by decide +kernel) rfl
theorem i_287_1026 : mj_Rn d 287 1026 L st G M Q = mj_Rn d 287 1027 L (.inl 1 :: st) G M Q := op_iconst (by decide +kernel)
theorem i_287_1027 : mj_Rn d 287 1027 L (.inl y :: .inl x :: st) G M Q = mj_Rn d 287 1028 L (.inl (mj_w (x + y)) :: st) G M Q := op_iadd (by decide +kernel)
theorem i_287_1028 : mj_Rn d 287 1028 L (.inl x :: .inr (.inl a) :: st) G M Q = (∃ len, mj_ai G M a = some len ∧ (0 ≤ x ∧ x < len) ∧ mj_Rn d 287 1029 L (.inl (M a x.toNat) :: st) G M Q) := op_iaload (by decide +kernel)
theorem i_287_1029 : mj_Rn d 287 1029 (.inr (.inl a) :: L) st G M Q = mj_Rn d 287 1030 (.inr (.inl a) :: L) (.inr (.inl a) :: st) G M Q := op_aload_n (by decide +kernel) rfl
theorem i_287_1030 : mj_Rn d 287 1030 (l0 :: l1 :: l2 :: .inl x :: L) st G M Q = mj_Rn d 287 1031 (l0 :: l1 :: l2 :: .inl x :: L) (.inl x :: st) G M Q := op_iload_n (by decide +kernel) rfl
theorem i_287_1031 : mj_Rn d 287 1031 L st G M Q = mj_Rn d 287 1032 L (.inl 2 :: st) G M Q := op_iconst (by decide +kernel)
theorem i_287_1032 : mj_Rn d 287 1032 L (.inl y :: .inl x :: st) G M Q = mj_Rn d 287 1033 L (.inl (mj_w (x + y)) :: st) G M Q := op_iadd (by decide +kernel)
theorem i_287_1033 : mj_Rn d 287 1033 L (.inl x :: .inr (.inl a) :: st) G M Q = (∃ len, mj_ai G M a = some len ∧ (0 ≤ x ∧ x < len) ∧ mj_Rn d 287 1034 L (.inl (M a x.toNat) :: st) G M Q) := op_iaload (by decide +kernel)
theorem i_287_1034 : mj_Rn (d + 1) 287 1034 L (.inl x1 :: .inl x0 :: .inr (.inl a) :: st) G M Q = (st.length ≤ 4 ∧ mj_isO G a 12 = true ∧ mj_Rn d 265 0 [.inr (.inl a), .inl x0, .inl x1, .inr (.inr 0)] [] G M fun r G' M' => mj_Rn (d + 1) 287 1037 L (r.toList ++ st) G' M' Q) := op_callV (as := [.inl x0, .inl x1]) (m := 4) (ci := 12) (kd := 0) (Or.inr (Or.inl rfl)) (by decide +kernel) (by decide +kernel) (by decide) (by decide +kernel) rfl rfl
theorem i_287_1037 : mj_Rn d 287 1037 L (.inl y :: .inl x :: st) G M Q = ((x = y → mj_Rn d 287 1361 L st G M Q) ∧ (¬ x = y → mj_Rn d 287 1040 L st G M Q)) := op_eq (by decide +kernel) (by decide)
theorem i_287_1040 : mj_Rn d 287 1040 L st G M Q = mj_Rn d 287 1041 L (.inl 0 :: st) G M Q := op_iconst (by decide +kernel)
theorem i_287_1041 : mj_Rn d 287 1041 L [.inl x] G M Q = ((0 ≤ x ∧ x ≤ 1) ∧ Q (some (.inl x)) G M) := op_zret (by decide +kernel) (by decide +kernel)
theorem i_287_1042 : mj_Rn d 287 1042 (l0 :: .inr (.inl a) :: L) st G M Q = mj_Rn d 287 1043 (l0 :: .inr (.inl a) :: L) (.inr (.inl a) :: st) G M Q := op_aload_n (by decide +kernel) rfl
theorem i_287_1043 : mj_Rn (d + 1) 287 1043 L (.inr (.inl a) :: st) G M Q = (st.length ≤ 4 ∧ mj_isO G a 0 = true ∧ mj_Rn d 142 0 [.inr (.inl a), .inr (.inr 0)] [] G M fun r G' M' => mj_Rn (d + 1) 287 1046 L (r.toList ++ st) G' M' Q) := op_callV (as := []) (m := 2) (ci := 0) (kd := 0) (Or.inr (Or.inl rfl)) (by decide +kernel) (by decide +kernel) (by decide) (by decide +kernel) rfl rfl
theorem i_287_1046 : mj_Rn d 287 1046 (l0 :: l1 :: .inr (.inl a) :: L) st G M Q = mj_Rn d 287 1047 (l0 :: l1 :: .inr (.inl a) :: L) (.inr (.inl a) :: st) G M Q := op_aload_n (by decide +kernel) rfl
theorem i_287_1047 : mj_Rn (d + 1) 287 1047 L (.inr (.inl a) :: st) G M Q = (st.length ≤ 4 ∧ mj_isO G a 12 = true ∧ mj_Rn d 266 0 [.inr (.inl a), .inr (.inr 0)] [] G M fun r G' M' => mj_Rn (d + 1) 287 1050 L (r.toList ++ st) G' M' Q) := op_callV (as := []) (m := 2) (ci := 12) (kd := 0) (Or.inr (Or.inl rfl)) (by decide +kernel) (by decide +kernel) (by decide) (by decide +kernel) rfl rfl
theorem i_287_1050 : mj_Rn d 287 1050 L (.inl y :: .inl x :: st) G M Q = ((x = y → mj_Rn d 287 1361 L st G M Q) ∧ (¬ x = y → mj_Rn d 287 1053 L st G M Q)) := op_eq (by decide +kernel) (by decide)
theorem i_287_1053 : mj_Rn d 287 1053 L st G M Q = mj_Rn d 287 1054 L (.inl 0 :: st) G M Q := op_iconst (by decide +kernel)
theorem i_287_1054 : mj_Rn d 287 1054 L [.inl x] G M Q = ((0 ≤ x ∧ x ≤ 1) ∧ Q (some (.inl x)) G M) := op_zret (by decide +kernel) (by decide +kernel)
theorem i_287_1055 : mj_Rn d 287 1055 (l0 :: .inr (.inl a) :: L) st G M Q = mj_Rn d 287 1056 (l0 :: .inr (.inl a) :: L) (.inr (.inl a) :: st) G M Q := op_aload_n (by decide +kernel) rfl
theorem i_287_1056 : mj_Rn (d + 1) 287 1056 L (.inr (.inl a) :: st) G M Q = (st.length ≤ 4 ∧ mj_isO G a 0 = true ∧ mj_Rn d 143 0 [.inr (.inl a), .inr (.inr 0)] [] G M fun r G' M' => mj_Rn (d + 1) 287 1059 L (r.toList ++ st) G' M' Q) := op_callV (as := []) (m := 2) (ci := 0) (kd := 0) (Or.inr (Or.inl rfl)) (by decide +kernel) (by decide +kernel) (by decide) (by decide +kernel) rfl rfl
theorem i_287_1059 : mj_Rn d 287 1059 (l0 :: l1 :: .inr (.inl a) :: L) st G M Q = mj_Rn d 287 1060 (l0 :: l1 :: .inr (.inl a) :: L) (.inr (.inl a) :: st) G M Q := op_aload_n (by decide +kernel) rfl
theorem i_287_1060 : mj_Rn (d + 1) 287 1060 L (.inr (.inl a) :: st) G M Q = (st.length ≤ 4 ∧ mj_isO G a 12 = true ∧ mj_Rn d 267 0 [.inr (.inl a), .inr (.inr 0), .inr (.inr 0)] [] G M fun r G' M' => mj_Rn (d + 1) 287 1063 L (r.toList ++ st) G' M' Q) := op_callV (as := []) (m := 3) (ci := 12) (kd := 0) (Or.inr (Or.inl rfl)) (by decide +kernel) (by decide +kernel) (by decide) (by decide +kernel) rfl rfl
theorem i_287_1063 : mj_Rn d 287 1063 L (.inl y :: .inl x :: st) G M Q = ((x = y → mj_Rn d 287 1361 L st G M Q) ∧ (¬ x = y → mj_Rn d 287 1066 L st G M Q)) := op_eq (by decide +kernel) (by decide)
theorem i_287_1066 : mj_Rn d 287 1066 L st G M Q = mj_Rn d 287 1067 L (.inl 0 :: st) G M Q := op_iconst (by decide +kernel)
theorem i_287_1067 : mj_Rn d 287 1067 L [.inl x] G M Q = ((0 ≤ x ∧ x ≤ 1) ∧ Q (some (.inl x)) G M) := op_zret (by decide +kernel) (by decide +kernel)
theorem i_287_1068 : mj_Rn d 287 1068 (l0 :: .inr (.inl a) :: L) st G M Q = mj_Rn d 287 1069 (l0 :: .inr (.inl a) :: L) (.inr (.inl a) :: st) G M Q := op_aload_n (by decide +kernel) rfl
theorem i_287_1069 : mj_Rn d 287 1069 (.inr (.inl a) :: L) st G M Q = mj_Rn d 287 1070 (.inr (.inl a) :: L) (.inr (.inl a) :: st) G M Q := op_aload_n (by decide +kernel) rfl
theorem i_287_1070 : mj_Rn d 287 1070 (l0 :: l1 :: l2 :: .inl x :: L) st G M Q = mj_Rn d 287 1071 (l0 :: l1 :: l2 :: .inl x :: L) (.inl x :: st) G M Q := op_iload_n (by decide +kernel) rfl
theorem i_287_1071 : mj_Rn d 287 1071 L st G M Q = mj_Rn d 287 1072 L (.inl 1 :: st) G M Q := op_iconst (by decide +kernel)
theorem i_287_1072 : mj_Rn d 287 1072 L (.inl y :: .inl x :: st) G M Q = mj_Rn d 287 1073 L (.inl (mj_w (x + y)) :: st) G M Q := op_iadd (by decide +kernel)
theorem i_287_1073 : mj_Rn d 287 1073 L (.inl x :: .inr (.inl a) :: st) G M Q = (∃ len, mj_ai G M a = some len ∧ (0 ≤ x ∧ x < len) ∧ mj_Rn d 287 1074 L (.inl (M a x.toNat) :: st) G M Q) := op_iaload (by decide +kernel)
theorem i_287_1074 : mj_Rn (d + 1) 287 1074 L (.inl x0 :: .inr (.inl a) :: st) G M Q = (st.length ≤ 4 ∧ mj_isO G a 0 = true ∧ mj_Rn d 156 0 [.inr (.inl a), .inl x0] [] G M fun r G' M' => mj_Rn (d + 1) 287 1077 L (r.toList ++ st) G' M' Q) := op_callV (as := [.inl x0]) (m := 2) (ci := 0) (kd := 0) (Or.inr (Or.inl rfl)) (by decide +kernel) (by decide +kernel) (by decide) (by decide +kernel) rfl rfl
theorem i_287_1077 : mj_Rn d 287 1077 (l0 :: l1 :: .inr (.inl a) :: L) st G M Q = mj_Rn d 287 1078 (l0 :: l1 :: .inr (.inl a) :: L) (.inr (.inl a) :: st) G M Q := op_aload_n (by decide +kernel) rfl
theorem i_287_1078 : mj_Rn d 287 1078 (.inr (.inl a) :: L) st G M Q = mj_Rn d 287 1079 (.inr (.inl a) :: L) (.inr (.inl a) :: st) G M Q := op_aload_n (by decide +kernel) rfl
theorem i_287_1079 : mj_Rn d 287 1079 (l0 :: l1 :: l2 :: .inl x :: L) st G M Q = mj_Rn d 287 1080 (l0 :: l1 :: l2 :: .inl x :: L) (.inl x :: st) G M Q := op_iload_n (by decide +kernel) rfl
theorem i_287_1080 : mj_Rn d 287 1080 L st G M Q = mj_Rn d 287 1081 L (.inl 1 :: st) G M Q := op_iconst (by decide +kernel)
theorem i_287_1081 : mj_Rn d 287 1081 L (.inl y :: .inl x :: st) G M Q = mj_Rn d 287 1082 L (.inl (mj_w (x + y)) :: st) G M Q := op_iadd (by decide +kernel)
theorem i_287_1082 : mj_Rn d 287 1082 L (.inl x :: .inr (.inl a) :: st) G M Q = (∃ len, mj_ai G M a = some len ∧ (0 ≤ x ∧ x < len) ∧ mj_Rn d 287 1083 L (.inl (M a x.toNat) :: st) G M Q) := op_iaload (by decide +kernel)
theorem i_287_1083 : mj_Rn (d + 1) 287 1083 L (.inl x0 :: .inr (.inl a) :: st) G M Q = (st.length ≤ 4 ∧ mj_isO G a 12 = true ∧ mj_Rn d 277 0 [.inr (.inl a), .inl x0, .inr (.inr 0), .inr (.inr 0)] [] G M fun r G' M' => mj_Rn (d + 1) 287 1086 L (r.toList ++ st) G' M' Q) := op_callV (as := [.inl x0]) (m := 4) (ci := 12) (kd := 0) (Or.inr (Or.inl rfl)) (by decide +kernel) (by decide +kernel) (by decide) (by decide +kernel) rfl rfl
theorem i_287_1086 : mj_Rn d 287 1086 L (.inl y :: .inl x :: st) G M Q = ((x = y → mj_Rn d 287 1361 L st G M Q) ∧ (¬ x = y → mj_Rn d 287 1089 L st G M Q)) := op_eq (by decide +kernel) (by decide)
theorem i_287_1089 : mj_Rn d 287 1089 L st G M Q = mj_Rn d 287 1090 L (.inl 0 :: st) G M Q := op_iconst (by decide +kernel)
theorem i_287_1090 : mj_Rn d 287 1090 L [.inl x] G M Q = ((0 ≤ x ∧ x ≤ 1) ∧ Q (some (.inl x)) G M) := op_zret (by decide +kernel) (by decide +kernel)
theorem i_287_1091 : mj_Rn d 287 1091 (l0 :: .inr (.inl a) :: L) st G M Q = mj_Rn d 287 1092 (l0 :: .inr (.inl a) :: L) (.inr (.inl a) :: st) G M Q := op_aload_n (by decide +kernel) rfl
theorem i_287_1092 : mj_Rn (d + 1) 287 1092 L (.inr (.inl a) :: st) G M Q = (st.length ≤ 4 ∧ mj_isO G a 0 = true ∧ mj_Rn d 160 0 [.inr (.inl a)] [] G M fun r G' M' => mj_Rn (d + 1) 287 1095 L (r.toList ++ st) G' M' Q) := op_callV (as := []) (m := 1) (ci := 0) (kd := 0) (Or.inr (Or.inl rfl)) (by decide +kernel) (by decide +kernel) (by decide) (by decide +kernel) rfl rfl
theorem i_287_1095 : mj_Rn d 287 1095 (l0 :: l1 :: .inr (.inl a) :: L) st G M Q = mj_Rn d 287 1096 (l0 :: l1 :: .inr (.inl a) :: L) (.inr (.inl a) :: st) G M Q := op_aload_n (by decide +kernel) rfl
theorem i_287_1096 : mj_Rn (d + 1) 287 1096 L (.inr (.inl a) :: st) G M Q = (st.length ≤ 4 ∧ mj_isO G a 12 = true ∧ mj_Rn d 278 0 [.inr (.inl a), .inr (.inr 0)] [] G M fun r G' M' => mj_Rn (d + 1) 287 1099 L (r.toList ++ st) G' M' Q) := op_callV (as := []) (m := 2) (ci := 12) (kd := 0) (Or.inr (Or.inl rfl)) (by decide +kernel) (by decide +kernel) (by decide) (by decide +kernel) rfl rfl
theorem i_287_1099 : mj_Rn d 287 1099 L (.inl y :: .inl x :: st) G M Q = ((x = y → mj_Rn d 287 1361 L st G M Q) ∧ (¬ x = y → mj_Rn d 287 1102 L st G M Q)) := op_eq (by decide +kernel) (by decide)
theorem i_287_1102 : mj_Rn d 287 1102 L st G M Q = mj_Rn d 287 1103 L (.inl 0 :: st) G M Q := op_iconst (by decide +kernel)
theorem i_287_1103 : mj_Rn d 287 1103 L [.inl x] G M Q = ((0 ≤ x ∧ x ≤ 1) ∧ Q (some (.inl x)) G M) := op_zret (by decide +kernel) (by decide +kernel)
theorem i_287_1104 : mj_Rn d 287 1104 (l0 :: .inr (.inl a) :: L) st G M Q = mj_Rn d 287 1105 (l0 :: .inr (.inl a) :: L) (.inr (.inl a) :: st) G M Q := op_aload_n (by decide +kernel) rfl
theorem i_287_1105 : mj_Rn (d + 1) 287 1105 L (.inr (.inl a) :: st) G M Q = (st.length ≤ 4 ∧ mj_isO G a 0 = true ∧ mj_Rn d 161 0 [.inr (.inl a)] [] G M fun r G' M' => mj_Rn (d + 1) 287 1108 L (r.toList ++ st) G' M' Q) := op_callV (as := []) (m := 1) (ci := 0) (kd := 0) (Or.inr (Or.inl rfl)) (by decide +kernel) (by decide +kernel) (by decide) (by decide +kernel) rfl rfl
theorem i_287_1108 : mj_Rn d 287 1108 (l0 :: l1 :: .inr (.inl a) :: L) st G M Q = mj_Rn d 287 1109 (l0 :: l1 :: .inr (.inl a) :: L) (.inr (.inl a) :: st) G M Q := op_aload_n (by decide +kernel) rfl
theorem i_287_1109 : mj_Rn (d + 1) 287 1109 L (.inr (.inl a) :: st) G M Q = (st.length ≤ 4 ∧ mj_isO G a 12 = true ∧ mj_Rn d 279 0 [.inr (.inl a), .inr (.inr 0)] [] G M fun r G' M' => mj_Rn (d + 1) 287 1112 L (r.toList ++ st) G' M' Q) := op_callV (as := []) (m := 2) (ci := 12) (kd := 0) (Or.inr (Or.inl rfl)) (by decide +kernel) (by decide +kernel) (by decide) (by decide +kernel) rfl rfl
theorem i_287_1112 : mj_Rn d 287 1112 L (.inl y :: .inl x :: st) G M Q = ((x = y → mj_Rn d 287 1361 L st G M Q) ∧ (¬ x = y → mj_Rn d 287 1115 L st G M Q)) := op_eq (by decide +kernel) (by decide)
theorem i_287_1115 : mj_Rn d 287 1115 L st G M Q = mj_Rn d 287 1116 L (.inl 0 :: st) G M Q := op_iconst (by decide +kernel)
theorem i_287_1116 : mj_Rn d 287 1116 L [.inl x] G M Q = ((0 ≤ x ∧ x ≤ 1) ∧ Q (some (.inl x)) G M) := op_zret (by decide +kernel) (by decide +kernel)
theorem i_287_1117 : mj_Rn d 287 1117 (l0 :: .inr (.inl a) :: L) st G M Q = mj_Rn d 287 1118 (l0 :: .inr (.inl a) :: L) (.inr (.inl a) :: st) G M Q := op_aload_n (by decide +kernel) rfl
theorem i_287_1118 : mj_Rn d 287 1118 (.inr (.inl a) :: L) st G M Q = mj_Rn d 287 1119 (.inr (.inl a) :: L) (.inr (.inl a) :: st) G M Q := op_aload_n (by decide +kernel) rfl
theorem i_287_1119 : mj_Rn d 287 1119 (l0 :: l1 :: l2 :: .inl x :: L) st G M Q = mj_Rn d 287 1120 (l0 :: l1 :: l2 :: .inl x :: L) (.inl x :: st) G M Q := op_iload_n (by decide +kernel) rfl
theorem i_287_1120 : mj_Rn d 287 1120 L st G M Q = mj_Rn d 287 1121 L (.inl 1 :: st) G M Q := op_iconst (by decide +kernel)
theorem i_287_1121 : mj_Rn d 287 1121 L (.inl y :: .inl x :: st) G M Q = mj_Rn d 287 1122 L (.inl (mj_w (x + y)) :: st) G M Q := op_iadd (by decide +kernel)
theorem i_287_1122 : mj_Rn d 287 1122 L (.inl x :: .inr (.inl a) :: st) G M Q = (∃ len, mj_ai G M a = some len ∧ (0 ≤ x ∧ x < len) ∧ mj_Rn d 287 1123 L (.inl (M a x.toNat) :: st) G M Q) := op_iaload (by decide +kernel)
theorem i_287_1123 : mj_Rn d 287 1123 (.inr (.inl a) :: L) st G M Q = mj_Rn d 287 1124 (.inr (.inl a) :: L) (.inr (.inl a) :: st) G M Q := op_aload_n (by decide +kernel) rfl
theorem i_287_1124 : mj_Rn d 287 1124 (l0 :: l1 :: l2 :: .inl x :: L) st G M Q = mj_Rn d 287 1125 (l0 :: l1 :: l2 :: .inl x :: L) (.inl x :: st) G M Q := op_iload_n (by decide +kernel) rfl
theorem i_287_1125 : mj_Rn d 287 1125 L st G M Q = mj_Rn d 287 1126 L (.inl 2 :: st) G M Q := op_iconst (by decide +kernel)
theorem i_287_1126 : mj_Rn d 287 1126 L (.inl y :: .inl x :: st) G M Q = mj_Rn d 287 1127 L (.inl (mj_w (x + y)) :: st) G M Q := op_iadd (by decide +kernel)
theorem i_287_1127 : mj_Rn d 287 1127 L (.inl x :: .inr (.inl a) :: st) G M Q = (∃ len, mj_ai G M a = some len ∧ (0 ≤ x ∧ x < len) ∧ mj_Rn d 287 1128 L (.inl (M a x.toNat) :: st) G M Q) := op_iaload (by decide +kernel)
theorem i_287_1128 : mj_Rn (d + 1) 287 1128 L (.inl x1 :: .inl x0 :: .inr (.inl a) :: st) G M Q = (st.length ≤ 4 ∧ mj_isO G a 0 = true ∧ mj_Rn d 162 0 [.inr (.inl a), .inl x0, .inl x1] [] G M fun r G' M' => mj_Rn (d + 1) 287 1131 L (r.toList ++ st) G' M' Q) := op_callV (as := [.inl x0, .inl x1]) (m := 3) (ci := 0) (kd := 0) (Or.inr (Or.inl rfl)) (by decide +kernel) (by decide +kernel) (by decide) (by decide +kernel) rfl rfl
theorem i_287_1131 : mj_Rn d 287 1131 (l0 :: l1 :: .inr (.inl a) :: L) st G M Q = mj_Rn d 287 1132 (l0 :: l1 :: .inr (.inl a) :: L) (.inr (.inl a) :: st) G M Q := op_aload_n (by decide +kernel) rfl
theorem i_287_1132 : mj_Rn d 287 1132 (.inr (.inl a) :: L) st G M Q = mj_Rn d 287 1133 (.inr (.inl a) :: L) (.inr (.inl a) :: st) G M Q := op_aload_n (by decide +kernel) rfl
theorem i_287_1133 : mj_Rn d 287 1133 (l0 :: l1 :: l2 :: .inl x :: L) st G M Q = mj_Rn d 287 1134 (l0 :: l1 :: l2 :: .inl x :: L) (.inl x :: st) G M Q := op_iload_n (by decide +kernel) rfl
theorem i_287_1134 : mj_Rn d 287 1134 L st G M Q = mj_Rn d 287 1135 L (.inl 1 :: st) G M Q := op_iconst (by decide +kernel)
theorem i_287_1135 : mj_Rn d 287 1135 L (.inl y :: .inl x :: st) G M Q = mj_Rn d 287 1136 L (.inl (mj_w (x + y)) :: st) G M Q := op_iadd (by decide +kernel)
theorem i_287_1136 : mj_Rn d 287 1136 L (.inl x :: .inr (.inl a) :: st) G M Q = (∃ len, mj_ai G M a = some len ∧ (0 ≤ x ∧ x < len) ∧ mj_Rn d 287 1137 L (.inl (M a x.toNat) :: st) G M Q) := op_iaload (by decide +kernel)
theorem i_287_1137 : mj_Rn d 287 1137 (.inr (.inl a) :: L) st G M Q = mj_Rn d 287 1138 (.inr (.inl a) :: L) (.inr (.inl a) :: st) G M Q := op_aload_n (by decide +kernel) rfl
theorem i_287_1138 : mj_Rn d 287 1138 (l0 :: l1 :: l2 :: .inl x :: L) st G M Q = mj_Rn d 287 1139 (l0 :: l1 :: l2 :: .inl x :: L) (.inl x :: st) G M Q := op_iload_n (by decide +kernel) rfl
theorem i_287_1139 : mj_Rn d 287 1139 L st G M Q = mj_Rn d 287 1140 L (.inl 2 :: st) G M Q := op_iconst (by decide +kernel)
theorem i_287_1140 : mj_Rn d 287 1140 L (.inl y :: .inl x :: st) G M Q = mj_Rn d 287 1141 L (.inl (mj_w (x + y)) :: st) G M Q := op_iadd (by decide +kernel)
theorem i_287_1141 : mj_Rn d 287 1141 L (.inl x :: .inr (.inl a) :: st) G M Q = (∃ len, mj_ai G M a = some len ∧ (0 ≤ x ∧ x < len) ∧ mj_Rn d 287 1142 L (.inl (M a x.toNat) :: st) G M Q) := op_iaload (by decide +kernel)
theorem i_287_1142 : mj_Rn (d + 1) 287 1142 L (.inl x1 :: .inl x0 :: .inr (.inl a) :: st) G M Q = (st.length ≤ 4 ∧ mj_isO G a 12 = true ∧ mj_Rn d 280 0 [.inr (.inl a), .inl x0, .inl x1, .inr (.inr 0)] [] G M fun r G' M' => mj_Rn (d + 1) 287 1145 L (r.toList ++ st) G' M' Q) := op_callV (as := [.inl x0, .inl x1]) (m := 4) (ci := 12) (kd := 0) (Or.inr (Or.inl rfl)) (by decide +kernel) (by decide +kernel) (by decide) (by decide +kernel) rfl rfl
theorem i_287_1145 : mj_Rn d 287 1145 L (.inl y :: .inl x :: st) G M Q = ((x = y → mj_Rn d 287 1361 L st G M Q) ∧ (¬ x = y → mj_Rn d 287 1148 L st G M Q)) := op_eq (by decide +kernel) (by decide)
theorem i_287_1148 : mj_Rn d 287 1148 L st G M Q = mj_Rn d 287 1149 L (.inl 0 :: st) G M Q := op_iconst (by decide +kernel)
theorem i_287_1149 : mj_Rn d 287 1149 L [.inl x] G M Q = ((0 ≤ x ∧ x ≤ 1) ∧ Q (some (.inl x)) G M) := op_zret (by decide +kernel) (by decide +kernel)
theorem i_287_1150 : mj_Rn d 287 1150 (l0 :: .inr (.inl a) :: L) st G M Q = mj_Rn d 287 1151 (l0 :: .inr (.inl a) :: L) (.inr (.inl a) :: st) G M Q := op_aload_n (by decide +kernel) rfl
theorem i_287_1151 : mj_Rn d 287 1151 (.inr (.inl a) :: L) st G M Q = mj_Rn d 287 1152 (.inr (.inl a) :: L) (.inr (.inl a) :: st) G M Q := op_aload_n (by decide +kernel) rfl
theorem i_287_1152 : mj_Rn d 287 1152 (l0 :: l1 :: l2 :: .inl x :: L) st G M Q = mj_Rn d 287 1153 (l0 :: l1 :: l2 :: .inl x :: L) (.inl x :: st) G M Q := op_iload_n (by decide +kernel) rfl
theorem i_287_1153 : mj_Rn d 287 1153 L st G M Q = mj_Rn d 287 1154 L (.inl 1 :: st) G M Q := op_iconst (by decide +kernel)
theorem i_287_1154 : mj_Rn d 287 1154 L (.inl y :: .inl x :: st) G M Q = mj_Rn d 287 1155 L (.inl (mj_w (x + y)) :: st) G M Q := op_iadd (by decide +kernel)
theorem i_287_1155 : mj_Rn d 287 1155 L (.inl x :: .inr (.inl a) :: st) G M Q = (∃ len, mj_ai G M a = some len ∧ (0 ≤ x ∧ x < len) ∧ mj_Rn d 287 1156 L (.inl (M a x.toNat) :: st) G M Q) := op_iaload (by decide +kernel)
theorem i_287_1156 : mj_Rn d 287 1156 (.inr (.inl a) :: L) st G M Q = mj_Rn d 287 1157 (.inr (.inl a) :: L) (.inr (.inl a) :: st) G M Q := op_aload_n (by decide +kernel) rfl
theorem i_287_1157 : mj_Rn d 287 1157 (l0 :: l1 :: l2 :: .inl x :: L) st G M Q = mj_Rn d 287 1158 (l0 :: l1 :: l2 :: .inl x :: L) (.inl x :: st) G M Q := op_iload_n (by decide +kernel) rfl
theorem i_287_1158 : mj_Rn d 287 1158 L st G M Q = mj_Rn d 287 1159 L (.inl 2 :: st) G M Q := op_iconst (by decide +kernel)
theorem i_287_1159 : mj_Rn d 287 1159 L (.inl y :: .inl x :: st) G M Q = mj_Rn d 287 1160 L (.inl (mj_w (x + y)) :: st) G M Q := op_iadd (by decide +kernel)
theorem i_287_1160 : mj_Rn d 287 1160 L (.inl x :: .inr (.inl a) :: st) G M Q = (∃ len, mj_ai G M a = some len ∧ (0 ≤ x ∧ x < len) ∧ mj_Rn d 287 1161 L (.inl (M a x.toNat) :: st) G M Q) := op_iaload (by decide +kernel)
theorem i_287_1161 : mj_Rn d 287 1161 (.inr (.inl a) :: L) st G M Q = mj_Rn d 287 1162 (.inr (.inl a) :: L) (.inr (.inl a) :: st) G M Q := op_aload_n (by decide +kernel) rfl
theorem i_287_1162 : mj_Rn d 287 1162 (l0 :: l1 :: l2 :: .inl x :: L) st G M Q = mj_Rn d 287 1163 (l0 :: l1 :: l2 :: .inl x :: L) (.inl x :: st) G M Q := op_iload_n (by decide +kernel) rfl
theorem i_287_1163 : mj_Rn d 287 1163 L st G M Q = mj_Rn d 287 1164 L (.inl 3 :: st) G M Q := op_iconst (by decide +kernel)
theorem i_287_1164 : mj_Rn d 287 1164 L (.inl y :: .inl x :: st) G M Q = mj_Rn d 287 1165 L (.inl (mj_w (x + y)) :: st) G M Q := op_iadd (by decide +kernel)
theorem i_287_1165 : mj_Rn d 287 1165 L (.inl x :: .inr (.inl a) :: st) G M Q = (∃ len, mj_ai G M a = some len ∧ (0 ≤ x ∧ x < len) ∧ mj_Rn d 287 1166 L (.inl (M a x.toNat) :: st) G M Q) := op_iaload (by decide +kernel)
theorem i_287_1166 : mj_Rn (d + 1) 287 1166 L (.inl x2 :: .inl x1 :: .inl x0 :: .inr (.inl a) :: st) G M Q = (st.length ≤ 4 ∧ mj_isO G a 0 = true ∧ mj_Rn d 163 0 [.inr (.inl a), .inl x0, .inl x1, .inl x2, .inr (.inr 0)] [] G M fun r G' M' => mj_Rn (d + 1) 287 1169 L (r.toList ++ st) G' M' Q) := op_callV (as := [.inl x0, .inl x1, .inl x2]) (m := 5) (ci := 0) (kd := 0) (Or.inr (Or.inl rfl)) (by decide +kernel) (by decide +kernel) (by decide) (by decide +kernel) rfl rfl
theorem i_287_1169 : mj_Rn d 287 1169 (l0 :: l1 :: .inr (.inl a) :: L) st G M Q = mj_Rn d 287 1170 (l0 :: l1 :: .inr (.inl a) :: L) (.inr (.inl a) :: st) G M Q := op_aload_n (by decide +kernel) rfl
theorem i_287_1170 : mj_Rn d 287 1170 (.inr (.inl a) :: L) st G M Q = mj_Rn d 287 1171 (.inr (.inl a) :: L) (.inr (.inl a) :: st) G M Q := op_aload_n (by decide +kernel) rfl
theorem i_287_1171 : mj_Rn d 287 1171 (l0 :: l1 :: l2 :: .inl x :: L) st G M Q = mj_Rn d 287 1172 (l0 :: l1 :: l2 :: .inl x :: L) (.inl x :: st) G M Q := op_iload_n (by decide +kernel) rfl
theorem i_287_1172 : mj_Rn d 287 1172 L st G M Q = mj_Rn d 287 1173 L (.inl 1 :: st) G M Q := op_iconst (by decide +kernel)
theorem i_287_1173 : mj_Rn d 287 1173 L (.inl y :: .inl x :: st) G M Q = mj_Rn d 287 1174 L (.inl (mj_w (x + y)) :: st) G M Q := op_iadd (by decide +kernel)
theorem i_287_1174 : mj_Rn d 287 1174 L (.inl x :: .inr (.inl a) :: st) G M Q = (∃ len, mj_ai G M a = some len ∧ (0 ≤ x ∧ x < len) ∧ mj_Rn d 287 1175 L (.inl (M a x.toNat) :: st) G M Q) := op_iaload (by decide +kernel)
theorem i_287_1175 : mj_Rn d 287 1175 (.inr (.inl a) :: L) st G M Q = mj_Rn d 287 1176 (.inr (.inl a) :: L) (.inr (.inl a) :: st) G M Q := op_aload_n (by decide +kernel) rfl
theorem i_287_1176 : mj_Rn d 287 1176 (l0 :: l1 :: l2 :: .inl x :: L) st G M Q = mj_Rn d 287 1177 (l0 :: l1 :: l2 :: .inl x :: L) (.inl x :: st) G M Q := op_iload_n (by decide +kernel) rfl
theorem i_287_1177 : mj_Rn d 287 1177 L st G M Q = mj_Rn d 287 1178 L (.inl 2 :: st) G M Q := op_iconst (by decide +kernel)
theorem i_287_1178 : mj_Rn d 287 1178 L (.inl y :: .inl x :: st) G M Q = mj_Rn d 287 1179 L (.inl (mj_w (x + y)) :: st) G M Q := op_iadd (by decide +kernel)
theorem i_287_1179 : mj_Rn d 287 1179 L (.inl x :: .inr (.inl a) :: st) G M Q = (∃ len, mj_ai G M a = some len ∧ (0 ≤ x ∧ x < len) ∧ mj_Rn d 287 1180 L (.inl (M a x.toNat) :: st) G M Q) := op_iaload (by decide +kernel)
theorem i_287_1180 : mj_Rn d 287 1180 (.inr (.inl a) :: L) st G M Q = mj_Rn d 287 1181 (.inr (.inl a) :: L) (.inr (.inl a) :: st) G M Q := op_aload_n (by decide +kernel) rfl
theorem i_287_1181 : mj_Rn d 287 1181 (l0 :: l1 :: l2 :: .inl x :: L) st G M Q = mj_Rn d 287 1182 (l0 :: l1 :: l2 :: .inl x :: L) (.inl x :: st) G M Q := op_iload_n (by decide +kernel) rfl
theorem i_287_1182 : mj_Rn d 287 1182 L st G M Q = mj_Rn d 287 1183 L (.inl 3 :: st) G M Q := op_iconst (by decide +kernel)
theorem i_287_1183 : mj_Rn d 287 1183 L (.inl y :: .inl x :: st) G M Q = mj_Rn d 287 1184 L (.inl (mj_w (x + y)) :: st) G M Q := op_iadd (by decide +kernel)
theorem i_287_1184 : mj_Rn d 287 1184 L (.inl x :: .inr (.inl a) :: st) G M Q = (∃ len, mj_ai G M a = some len ∧ (0 ≤ x ∧ x < len) ∧ mj_Rn d 287 1185 L (.inl (M a x.toNat) :: st) G M Q) := op_iaload (by decide +kernel)
theorem i_287_1185 : mj_Rn (d + 1) 287 1185 L (.inl x2 :: .inl x1 :: .inl x0 :: .inr (.inl a) :: st) G M Q = (st.length ≤ 4 ∧ mj_isO G a 12 = true ∧ mj_Rn d 281 0 [.inr (.inl a), .inl x0, .inl x1, .inl x2, .inr (.inr 0)] [] G M fun r G' M' => mj_Rn (d + 1) 287 1188 L (r.toList ++ st) G' M' Q) := op_callV (as := [.inl x0, .inl x1, .inl x2]) (m := 5) (ci := 12) (kd := 0) (Or.inr (Or.inl rfl)) (by decide +kernel) (by decide +kernel) (by decide) (by decide +kernel) rfl rfl
theorem i_287_1188 : mj_Rn d 287 1188 L (.inl y :: .inl x :: st) G M Q = ((x = y → mj_Rn d 287 1361 L st G M Q) ∧ (¬ x = y → mj_Rn d 287 1191 L st G M Q)) := op_eq (by decide +kernel) (by decide)
theorem i_287_1191 : mj_Rn d 287 1191 L st G M Q = mj_Rn d 287 1192 L (.inl 0 :: st) G M Q := op_iconst (by decide +kernel)
theorem i_287_1192 : mj_Rn d 287 1192 L [.inl x] G M Q = ((0 ≤ x ∧ x ≤ 1) ∧ Q (some (.inl x)) G M) := op_zret (by decide +kernel) (by decide +kernel)
theorem i_287_1193 : mj_Rn d 287 1193 (l0 :: .inr (.inl a) :: L) st G M Q = mj_Rn d 287 1194 (l0 :: .inr (.inl a) :: L) (.inr (.inl a) :: st) G M Q := op_aload_n (by decide +kernel) rfl
theorem i_287_1194 : mj_Rn d 287 1194 (.inr (.inl a) :: L) st G M Q = mj_Rn d 287 1195 (.inr (.inl a) :: L) (.inr (.inl a) :: st) G M Q := op_aload_n (by decide +kernel) rfl
theorem i_287_1195 : mj_Rn d 287 1195 (l0 :: l1 :: l2 :: .inl x :: L) st G M Q = mj_Rn d 287 1196 (l0 :: l1 :: l2 :: .inl x :: L) (.inl x :: st) G M Q := op_iload_n (by decide +kernel) rfl
theorem i_287_1196 : mj_Rn d 287 1196 L st G M Q = mj_Rn d 287 1197 L (.inl 1 :: st) G M Q := op_iconst (by decide +kernel)
theorem i_287_1197 : mj_Rn d 287 1197 L (.inl y :: .inl x :: st) G M Q = mj_Rn d 287 1198 L (.inl (mj_w (x + y)) :: st) G M Q := op_iadd (by decide +kernel)
theorem i_287_1198 : mj_Rn d 287 1198 L (.inl x :: .inr (.inl a) :: st) G M Q = (∃ len, mj_ai G M a = some len ∧ (0 ≤ x ∧ x < len) ∧ mj_Rn d 287 1199 L (.inl (M a x.toNat) :: st) G M Q) := op_iaload (by decide +kernel)
theorem i_287_1199 : mj_Rn (d + 1) 287 1199 L (.inl x0 :: .inr (.inl a) :: st) G M Q = (st.length ≤ 4 ∧ mj_isO G a 0 = true ∧ mj_Rn d 164 0 [.inr (.inl a), .inl x0] [] G M fun r G' M' => mj_Rn (d + 1) 287 1202 L (r.toList ++ st) G' M' Q) := op_callV (as := [.inl x0]) (m := 2) (ci := 0) (kd := 0) (Or.inr (Or.inl rfl)) (by decide +kernel) (by decide +kernel) (by decide) (by decide +kernel) rfl rfl
theorem i_287_1202 : mj_Rn d 287 1202 (l0 :: l1 :: .inr (.inl a) :: L) st G M Q = mj_Rn d 287 1203 (l0 :: l1 :: .inr (.inl a) :: L) (.inr (.inl a) :: st) G M Q := op_aload_n (by decide +kernel) rfl
theorem i_287_1203 : mj_Rn d 287 1203 (.inr (.inl a) :: L) st G M Q = mj_Rn d 287 1204 (.inr (.inl a) :: L) (.inr (.inl a) :: st) G M Q := op_aload_n (by decide +kernel) rfl
theorem i_287_1204 : mj_Rn d 287 1204 (l0 :: l1 :: l2 :: .inl x :: L) st G M Q = mj_Rn d 287 1205 (l0 :: l1 :: l2 :: .inl x :: L) (.inl x :: st) G M Q := op_iload_n (by decide +kernel) rfl
theorem i_287_1205 : mj_Rn d 287 1205 L st G M Q = mj_Rn d 287 1206 L (.inl 1 :: st) G M Q := op_iconst (by decide +kernel)
theorem i_287_1206 : mj_Rn d 287 1206 L (.inl y :: .inl x :: st) G M Q = mj_Rn d 287 1207 L (.inl (mj_w (x + y)) :: st) G M Q := op_iadd (by decide +kernel)
theorem i_287_1207 : mj_Rn d 287 1207 L (.inl x :: .inr (.inl a) :: st) G M Q = (∃ len, mj_ai G M a = some len ∧ (0 ≤ x ∧ x < len) ∧ mj_Rn d 287 1208 L (.inl (M a x.toNat) :: st) G M Q) := op_iaload (by decide +kernel)
theorem i_287_1208 : mj_Rn (d + 1) 287 1208 L (.inl x0 :: .inr (.inl a) :: st) G M Q = (st.length ≤ 4 ∧ mj_isO G a 12 = true ∧ mj_Rn d 282 0 [.inr (.inl a), .inl x0, .inr (.inr 0)] [] G M fun r G' M' => mj_Rn (d + 1) 287 1211 L (r.toList ++ st) G' M' Q) := op_callV (as := [.inl x0]) (m := 3) (ci := 12) (kd := 0) (Or.inr (Or.inl rfl)) (by decide +kernel) (by decide +kernel) (by decide) (by decide +kernel) rfl rfl
theorem i_287_1211 : mj_Rn d 287 1211 L (.inl y :: .inl x :: st) G M Q = ((x = y → mj_Rn d 287 1361 L st G M Q) ∧ (¬ x = y → mj_Rn d 287 1214 L st G M Q)) := op_eq (by decide +kernel) (by decide)
theorem i_287_1214 : mj_Rn d 287 1214 L st G M Q = mj_Rn d 287 1215 L (.inl 0 :: st) G M Q := op_iconst (by decide +kernel)
theorem i_287_1215 : mj_Rn d 287 1215 L [.inl x] G M Q = ((0 ≤ x ∧ x ≤ 1) ∧ Q (some (.inl x)) G M) := op_zret (by decide +kernel) (by decide +kernel)
theorem i_287_1216 : mj_Rn d 287 1216 (l0 :: .inr (.inl a) :: L) st G M Q = mj_Rn d 287 1217 (l0 :: .inr (.inl a) :: L) (.inr (.inl a) :: st) G M Q := op_aload_n (by decide +kernel) rfl
theorem i_287_1217 : mj_Rn d 287 1217 (.inr (.inl a) :: L) st G M Q = mj_Rn d 287 1218 (.inr (.inl a) :: L) (.inr (.inl a) :: st) G M Q := op_aload_n (by decide +kernel) rfl
theorem i_287_1218 : mj_Rn d 287 1218 (l0 :: l1 :: l2 :: .inl x :: L) st G M Q = mj_Rn d 287 1219 (l0 :: l1 :: l2 :: .inl x :: L) (.inl x :: st) G M Q := op_iload_n (by decide +kernel) rfl
theorem i_287_1219 : mj_Rn d 287 1219 L st G M Q = mj_Rn d 287 1220 L (.inl 1 :: st) G M Q := op_iconst (by decide +kernel)
theorem i_287_1220 : mj_Rn d 287 1220 L (.inl y :: .inl x :: st) G M Q = mj_Rn d 287 1221 L (.inl (mj_w (x + y)) :: st) G M Q := op_iadd (by decide +kernel)
theorem i_287_1221 : mj_Rn d 287 1221 L (.inl x :: .inr (.inl a) :: st) G M Q = (∃ len, mj_ai G M a = some len ∧ (0 ≤ x ∧ x < len) ∧ mj_Rn d 287 1222 L (.inl (M a x.toNat) :: st) G M Q) := op_iaload (by decide +kernel)
theorem i_287_1222 : mj_Rn d 287 1222 (.inr (.inl a) :: L) st G M Q = mj_Rn d 287 1223 (.inr (.inl a) :: L) (.inr (.inl a) :: st) G M Q := op_aload_n (by decide +kernel) rfl
theorem i_287_1223 : mj_Rn d 287 1223 (l0 :: l1 :: l2 :: .inl x :: L) st G M Q = mj_Rn d 287 1224 (l0 :: l1 :: l2 :: .inl x :: L) (.inl x :: st) G M Q := op_iload_n (by decide +kernel) rfl
theorem i_287_1224 : mj_Rn d 287 1224 L st G M Q = mj_Rn d 287 1225 L (.inl 2 :: st) G M Q := op_iconst (by decide +kernel)
theorem i_287_1225 : mj_Rn d 287 1225 L (.inl y :: .inl x :: st) G M Q = mj_Rn d 287 1226 L (.inl (mj_w (x + y)) :: st) G M Q := op_iadd (by decide +kernel)
theorem i_287_1226 : mj_Rn d 287 1226 L (.inl x :: .inr (.inl a) :: st) G M Q = (∃ len, mj_ai G M a = some len ∧ (0 ≤ x ∧ x < len) ∧ mj_Rn d 287 1227 L (.inl (M a x.toNat) :: st) G M Q) := op_iaload (by decide +kernel)
theorem i_287_1227 : mj_Rn (d + 1) 287 1227 L (.inl x1 :: .inl x0 :: .inr (.inl a) :: st) G M Q = (st.length ≤ 4 ∧ mj_isO G a 0 = true ∧ mj_Rn d 165 0 [.inr (.inl a), .inl x0, .inl x1, .inr (.inr 0)] [] G M fun r G' M' => mj_Rn (d + 1) 287 1230 L (r.toList ++ st) G' M' Q) := op_callV (as := [.inl x0, .inl x1]) (m := 4) (ci := 0) (kd := 0) (Or.inr (Or.inl rfl)) (by decide +kernel) (by decide +kernel) (by decide) (by decide +kernel) rfl rfl
theorem i_287_1230 : mj_Rn d 287 1230 (l0 :: l1 :: .inr (.inl a) :: L) st G M Q = mj_Rn d 287 1231 (l0 :: l1 :: .inr (.inl a) :: L) (.inr (.inl a) :: st) G M Q := op_aload_n (by decide +kernel) rfl
theorem i_287_1231 : mj_Rn d 287 1231 (.inr (.inl a) :: L) st G M Q = mj_Rn d 287 1232 (.inr (.inl a) :: L) (.inr (.inl a) :: st) G M Q := op_aload_n (by decide +kernel) rfl
theorem i_287_1232 : mj_Rn d 287 1232 (l0 :: l1 :: l2 :: .inl x :: L) st G M Q = mj_Rn d 287 1233 (l0 :: l1 :: l2 :: .inl x :: L) (.inl x :: st) G M Q := op_iload_n (by decide +kernel) rfl
theorem i_287_1233 : mj_Rn d 287 1233 L st G M Q = mj_Rn d 287 1234 L (.inl 1 :: st) G M Q := op_iconst (by decide +kernel)
theorem i_287_1234 : mj_Rn d 287 1234 L (.inl y :: .inl x :: st) G M Q = mj_Rn d 287 1235 L (.inl (mj_w (x + y)) :: st) G M Q := op_iadd (by decide +kernel)
theorem i_287_1235 : mj_Rn d 287 1235 L (.inl x :: .inr (.inl a) :: st) G M Q = (∃ len, mj_ai G M a = some len ∧ (0 ≤ x ∧ x < len) ∧ mj_Rn d 287 1236 L (.inl (M a x.toNat) :: st) G M Q) := op_iaload (by decide +kernel)
theorem i_287_1236 : mj_Rn d 287 1236 (.inr (.inl a) :: L) st G M Q = mj_Rn d 287 1237 (.inr (.inl a) :: L) (.inr (.inl a) :: st) G M Q := op_aload_n (by decide +kernel) rfl
theorem i_287_1237 : mj_Rn d 287 1237 (l0 :: l1 :: l2 :: .inl x :: L) st G M Q = mj_Rn d 287 1238 (l0 :: l1 :: l2 :: .inl x :: L) (.inl x :: st) G M Q := op_iload_n (by decide +kernel) rfl
theorem i_287_1238 : mj_Rn d 287 1238 L st G M Q = mj_Rn d 287 1239 L (.inl 2 :: st) G M Q := op_iconst (by decide +kernel)
theorem i_287_1239 : mj_Rn d 287 1239 L (.inl y :: .inl x :: st) G M Q = mj_Rn d 287 1240 L (.inl (mj_w (x + y)) :: st) G M Q := op_iadd (by decide +kernel)
theorem i_287_1240 : mj_Rn d 287 1240 L (.inl x :: .inr (.inl a) :: st) G M Q = (∃ len, mj_ai G M a = some len ∧ (0 ≤ x ∧ x < len) ∧ mj_Rn d 287 1241 L (.inl (M a x.toNat) :: st) G M Q) := op_iaload (by decide +kernel)
theorem i_287_1241 : mj_Rn (d + 1) 287 1241 L (.inl x1 :: .inl x0 :: .inr (.inl a) :: st) G M Q = (st.length ≤ 4 ∧ mj_isO G a 12 = true ∧ mj_Rn d 283 0 [.inr (.inl a), .inl x0, .inl x1, .inr (.inr 0)] [] G M fun r G' M' => mj_Rn (d + 1) 287 1244 L (r.toList ++ st) G' M' Q) := op_callV (as := [.inl x0, .inl x1]) (m := 4) (ci := 12) (kd := 0) (Or.inr (Or.inl rfl)) (by decide +kernel) (by decide +kernel) (by decide) (by decide +kernel) rfl rfl
theorem i_287_1244 : mj_Rn d 287 1244 L (.inl y :: .inl x :: st) G M Q = ((x = y → mj_Rn d 287 1361 L st G M Q) ∧ (¬ x = y → mj_Rn d 287 1247 L st G M Q)) := op_eq (by decide +kernel) (by decide)
theorem i_287_1247 : mj_Rn d 287 1247 L st G M Q = mj_Rn d 287 1248 L (.inl 0 :: st) G M Q := op_iconst (by decide +kernel)
theorem i_287_1248 : mj_Rn d 287 1248 L [.inl x] G M Q = ((0 ≤ x ∧ x ≤ 1) ∧ Q (some (.inl x)) G M) := op_zret (by decide +kernel) (by decide +kernel)
theorem i_287_1249 : mj_Rn d 287 1249 (l0 :: .inr (.inl a) :: L) st G M Q = mj_Rn d 287 1250 (l0 :: .inr (.inl a) :: L) (.inr (.inl a) :: st) G M Q := op_aload_n (by decide +kernel) rfl
theorem i_287_1250 : mj_Rn (d + 1) 287 1250 L (.inr (.inl a) :: st) G M Q = (st.length ≤ 4 ∧ mj_isO G a 0 = true ∧ mj_Rn d 166 0 [.inr (.inl a), .inr (.inr 0)] [] G M fun r G' M' => mj_Rn (d + 1) 287 1253 L (r.toList ++ st) G' M' Q) := op_callV (as := []) (m := 2) (ci := 0) (kd := 0) (Or.inr (Or.inl rfl)) (by decide +kernel) (by decide +kernel) (by decide) (by decide +kernel) rfl rfl
theorem i_287_1253 : mj_Rn d 287 1253 (l0 :: l1 :: .inr (.inl a) :: L) st G M Q = mj_Rn d 287 1254 (l0 :: l1 :: .inr (.inl a) :: L) (.inr (.inl a) :: st) G M Q := op_aload_n (by decide +kernel) rfl
theorem i_287_1254 : mj_Rn (d + 1) 287 1254 L (.inr (.inl a) :: st) G M Q = (st.length ≤ 4 ∧ mj_isO G a 12 = true ∧ mj_Rn d 284 0 [.inr (.inl a), .inr (.inr 0)] [] G M fun r G' M' => mj_Rn (d + 1) 287 1257 L (r.toList ++ st) G' M' Q) := op_callV (as := []) (m := 2) (ci := 12) (kd := 0) (Or.inr (Or.inl rfl)) (by decide +kernel) (by decide +kernel) (by decide) (by decide +kernel) rfl rfl
theorem i_287_1257 : mj_Rn d 287 1257 L (.inl y :: .inl x :: st) G M Q = ((x = y → mj_Rn d 287 1361 L st G M Q) ∧ (¬ x = y → mj_Rn d 287 1260 L st G M Q)) := op_eq (by decide +kernel) (by decide)
theorem i_287_1260 : mj_Rn d 287 1260 L st G M Q = mj_Rn d 287 1261 L (.inl 0 :: st) G M Q := op_iconst (by decide +kernel)
theorem i_287_1261 : mj_Rn d 287 1261 L [.inl x] G M Q = ((0 ≤ x ∧ x ≤ 1) ∧ Q (some (.inl x)) G M) := op_zret (by decide +kernel) (by decide +kernel)
theorem i_287_1262 : mj_Rn d 287 1262 (l0 :: .inr (.inl a) :: L) st G M Q = mj_Rn d 287 1263 (l0 :: .inr (.inl a) :: L) (.inr (.inl a) :: st) G M Q := op_aload_n (by decide +kernel) rfl
theorem i_287_1263 : mj_Rn d 287 1263 (.inr (.inl a) :: L) st G M Q = mj_Rn d 287 1264 (.inr (.inl a) :: L) (.inr (.inl a) :: st) G M Q := op_aload_n (by decide +kernel) rfl
theorem i_287_1264 : mj_Rn d 287 1264 (l0 :: l1 :: l2 :: .inl x :: L) st G M Q = mj_Rn d 287 1265 (l0 :: l1 :: l2 :: .inl x :: L) (.inl x :: st) G M Q := op_iload_n (by decide +kernel) rfl
theorem i_287_1265 : mj_Rn d 287 1265 L st G M Q = mj_Rn d 287 1266 L (.inl 1 :: st) G M Q := op_iconst (by decide +kernel)
theorem i_287_1266 : mj_Rn d 287 1266 L (.inl y :: .inl x :: st) G M Q = mj_Rn d 287 1267 L (.inl (mj_w (x + y)) :: st) G M Q := op_iadd (by decide +kernel)
theorem i_287_1267 : mj_Rn d 287 1267 L (.inl x :: .inr (.inl a) :: st) G M Q = (∃ len, mj_ai G M a = some len ∧ (0 ≤ x ∧ x < len) ∧ mj_Rn d 287 1268 L (.inl (M a x.toNat) :: st) G M Q) := op_iaload (by decide +kernel)
theorem i_287_1268 : mj_Rn (d + 1) 287 1268 L (.inl x0 :: .inr (.inl a) :: st) G M Q = (st.length ≤ 4 ∧ mj_isO G a 0 = true ∧ mj_Rn d 167 0 [.inr (.inl a), .inl x0] [] G M fun r G' M' => mj_Rn (d + 1) 287 1271 L (r.toList ++ st) G' M' Q) := op_callV (as := [.inl x0]) (m := 2) (ci := 0) (kd := 0) (Or.inr (Or.inl rfl)) (by decide +kernel) (by decide +kernel) (by decide) (by decide +kernel) rfl rfl
theorem i_287_1271 : mj_Rn d 287 1271 (l0 :: l1 :: .inr (.inl a) :: L) st G M Q = mj_Rn d 287 1272 (l0 :: l1 :: .inr (.inl a) :: L) (.inr (.inl a) :: st) G M Q := op_aload_n (by decide +kernel) rfl
theorem i_287_1272 : mj_Rn d 287 1272 (.inr (.inl a) :: L) st G M Q = mj_Rn d 287 1273 (.inr (.inl a) :: L) (.inr (.inl a) :: st) G M Q := op_aload_n (by decide +kernel) rfl
theorem i_287_1273 : mj_Rn d 287 1273 (l0 :: l1 :: l2 :: .inl x :: L) st G M Q = mj_Rn d 287 1274 (l0 :: l1 :: l2 :: .inl x :: L) (.inl x :: st) G M Q := op_iload_n (by decide +kernel) rfl
theorem i_287_1274 : mj_Rn d 287 1274 L st G M Q = mj_Rn d 287 1275 L (.inl 1 :: st) G M Q := op_iconst (by decide +kernel)
theorem i_287_1275 : mj_Rn d 287 1275 L (.inl y :: .inl x :: st) G M Q = mj_Rn d 287 1276 L (.inl (mj_w (x + y)) :: st) G M Q := op_iadd (by decide +kernel)
theorem i_287_1276 : mj_Rn d 287 1276 L (.inl x :: .inr (.inl a) :: st) G M Q = (∃ len, mj_ai G M a = some len ∧ (0 ≤ x ∧ x < len) ∧ mj_Rn d 287 1277 L (.inl (M a x.toNat) :: st) G M Q) := op_iaload (by decide +kernel)
theorem i_287_1277 : mj_Rn (d + 1) 287 1277 L (.inl x0 :: .inr (.inl a) :: st) G M Q = (st.length ≤ 4 ∧ mj_isO G a 12 = true ∧ mj_Rn d 285 0 [.inr (.inl a), .inl x0] [] G M fun r G' M' => mj_Rn (d + 1) 287 1280 L (r.toList ++ st) G' M' Q) := op_callV (as := [.inl x0]) (m := 2) (ci := 12) (kd := 0) (Or.inr (Or.inl rfl)) (by decide +kernel) (by decide +kernel) (by decide) (by decide +kernel) rfl rfl
theorem i_287_1280 : mj_Rn d 287 1280 L (.inl y :: .inl x :: st) G M Q = ((x = y → mj_Rn d 287 1361 L st G M Q) ∧ (¬ x = y → mj_Rn d 287 1283 L st G M Q)) := op_eq (by decide +kernel) (by decide)
theorem i_287_1283 : mj_Rn d 287 1283 L st G M Q = mj_Rn d 287 1284 L (.inl 0 :: st) G M Q := op_iconst (by decide +kernel)
theorem i_287_1284 : mj_Rn d 287 1284 L [.inl x] G M Q = ((0 ≤ x ∧ x ≤ 1) ∧ Q (some (.inl x)) G M) := op_zret (by decide +kernel) (by decide +kernel)
theorem i_287_1285 : mj_Rn d 287 1285 (l0 :: .inr (.inl a) :: L) st G M Q = mj_Rn d 287 1286 (l0 :: .inr (.inl a) :: L) (.inr (.inl a) :: st) G M Q := op_aload_n (by decide +kernel) rfl
theorem i_287_1286 : mj_Rn d 287 1286 (.inr (.inl a) :: L) st G M Q = mj_Rn d 287 1287 (.inr (.inl a) :: L) (.inr (.inl a) :: st) G M Q := op_aload_n (by decide +kernel) rfl
theorem i_287_1287 : mj_Rn d 287 1287 (l0 :: l1 :: l2 :: .inl x :: L) st G M Q = mj_Rn d 287 1288 (l0 :: l1 :: l2 :: .inl x :: L) (.inl x :: st) G M Q := op_iload_n (by decide +kernel) rfl
theorem i_287_1288 : mj_Rn d 287 1288 L st G M Q = mj_Rn d 287 1289 L (.inl 1 :: st) G M Q := op_iconst (by decide +kernel)
theorem i_287_1289 : mj_Rn d 287 1289 L (.inl y :: .inl x :: st) G M Q = mj_Rn d 287 1290 L (.inl (mj_w (x + y)) :: st) G M Q := op_iadd (by decide +kernel)
theorem i_287_1290 : mj_Rn d 287 1290 L (.inl x :: .inr (.inl a) :: st) G M Q = (∃ len, mj_ai G M a = some len ∧ (0 ≤ x ∧ x < len) ∧ mj_Rn d 287 1291 L (.inl (M a x.toNat) :: st) G M Q) := op_iaload (by decide +kernel)
theorem i_287_1291 : mj_Rn d 287 1291 (.inr (.inl a) :: L) st G M Q = mj_Rn d 287 1292 (.inr (.inl a) :: L) (.inr (.inl a) :: st) G M Q := op_aload_n (by decide +kernel) rfl
theorem i_287_1292 : mj_Rn d 287 1292 (l0 :: l1 :: l2 :: .inl x :: L) st G M Q = mj_Rn d 287 1293 (l0 :: l1 :: l2 :: .inl x :: L) (.inl x :: st) G M Q := op_iload_n (by decide +kernel) rfl
theorem i_287_1293 : mj_Rn d 287 1293 L st G M Q = mj_Rn d 287 1294 L (.inl 2 :: st) G M Q := op_iconst (by decide +kernel)
theorem i_287_1294 : mj_Rn d 287 1294 L (.inl y :: .inl x :: st) G M Q = mj_Rn d 287 1295 L (.inl (mj_w (x + y)) :: st) G M Q := op_iadd (by decide +kernel)
theorem i_287_1295 : mj_Rn d 287 1295 L (.inl x :: .inr (.inl a) :: st) G M Q = (∃ len, mj_ai G M a = some len ∧ (0 ≤ x ∧ x < len) ∧ mj_Rn d 287 1296 L (.inl (M a x.toNat) :: st) G M Q) := op_iaload (by decide +kernel)
theorem i_287_1296 : mj_Rn d 287 1296 (.inr (.inl a) :: L) st G M Q = mj_Rn d 287 1297 (.inr (.inl a) :: L) (.inr (.inl a) :: st) G M Q := op_aload_n (by decide +kernel) rfl
theorem i_287_1297 : mj_Rn d 287 1297 (l0 :: l1 :: l2 :: .inl x :: L) st G M Q = mj_Rn d 287 1298 (l0 :: l1 :: l2 :: .inl x :: L) (.inl x :: st) G M Q := op_iload_n (by decide +kernel) rfl
theorem i_287_1298 : mj_Rn d 287 1298 L st G M Q = mj_Rn d 287 1299 L (.inl 3 :: st) G M Q := op_iconst (by decide +kernel)
theorem i_287_1299 : mj_Rn d 287 1299 L (.inl y :: .inl x :: st) G M Q = mj_Rn d 287 1300 L (.inl (mj_w (x + y)) :: st) G M Q := op_iadd (by decide +kernel)
theorem i_287_1300 : mj_Rn d 287 1300 L (.inl x :: .inr (.inl a) :: st) G M Q = (∃ len, mj_ai G M a = some len ∧ (0 ≤ x ∧ x < len) ∧ mj_Rn d 287 1301 L (.inl (M a x.toNat) :: st) G M Q) := op_iaload (by decide +kernel)
theorem i_287_1301 : mj_Rn d 287 1301 (.inr (.inl a) :: L) st G M Q = mj_Rn d 287 1302 (.inr (.inl a) :: L) (.inr (.inl a) :: st) G M Q := op_aload_n (by decide +kernel) rfl
theorem i_287_1302 : mj_Rn d 287 1302 (l0 :: l1 :: l2 :: .inl x :: L) st G M Q = mj_Rn d 287 1303 (l0 :: l1 :: l2 :: .inl x :: L) (.inl x :: st) G M Q := op_iload_n (by decide +kernel) rfl
theorem i_287_1303 : mj_Rn d 287 1303 L st G M Q = mj_Rn d 287 1304 L (.inl 4 :: st) G M Q := op_iconst (by decide +kernel)
theorem i_287_1304 : mj_Rn d 287 1304 L (.inl y :: .inl x :: st) G M Q = mj_Rn d 287 1305 L (.inl (mj_w (x + y)) :: st) G M Q := op_iadd (by decide +kernel)
theorem i_287_1305 : mj_Rn d 287 1305 L (.inl x :: .inr (.inl a) :: st) G M Q = (∃ len, mj_ai G M a = some len ∧ (0 ≤ x ∧ x < len) ∧ mj_Rn d 287 1306 L (.inl (M a x.toNat) :: st) G M Q) := op_iaload (by decide +kernel)
theorem i_287_1306 : mj_Rn (d + 1) 287 1306 L (.inl x3 :: .inl x2 :: .inl x1 :: .inl x0 :: .inr (.inl a) :: st) G M Q = (st.length ≤ 4 ∧ mj_isO G a 0 = true ∧ mj_Rn d 168 0 [.inr (.inl a), .inl x0, .inl x1, .inl x2, .inl x3] [] G M fun r G' M' => mj_Rn (d + 1) 287 1309 L (r.toList ++ st) G' M' Q) := op_callV (as := [.inl x0, .inl x1, .inl x2, .inl x3]) (m := 5) (ci := 0) (kd := 0) (Or.inr (Or.inl rfl)) (by decide +kernel) (by decide +kernel) (by decide) (by decide +kernel) rfl rfl
theorem i_287_1309 : mj_Rn d 287 1309 (l0 :: l1 :: .inr (.inl a) :: L) st G M Q = mj_Rn d 287 1310 (l0 :: l1 :: .inr (.inl a) :: L) (.inr (.inl a) :: st) G M Q := op_aload_n (by decide +kernel) rfl
theorem i_287_1310 : mj_Rn d 287 1310 (.inr (.inl a) :: L) st G M Q = mj_Rn d 287 1311 (.inr (.inl a) :: L) (.inr (.inl a) :: st) G M Q := op_aload_n (by decide +kernel) rfl
theorem i_287_1311 : mj_Rn d 287 1311 (l0 :: l1 :: l2 :: .inl x :: L) st G M Q = mj_Rn d 287 1312 (l0 :: l1 :: l2 :: .inl x :: L) (.inl x :: st) G M Q := op_iload_n (by decide +kernel) rfl
theorem i_287_1312 : mj_Rn d 287 1312 L st G M Q = mj_Rn d 287 1313 L (.inl 1 :: st) G M Q := op_iconst (by decide +kernel)
theorem i_287_1313 : mj_Rn d 287 1313 L (.inl y :: .inl x :: st) G M Q = mj_Rn d 287 1314 L (.inl (mj_w (x + y)) :: st) G M Q := op_iadd (by decide +kernel)
theorem i_287_1314 : mj_Rn d 287 1314 L (.inl x :: .inr (.inl a) :: st) G M Q = (∃ len, mj_ai G M a = some len ∧ (0 ≤ x ∧ x < len) ∧ mj_Rn d 287 1315 L (.inl (M a x.toNat) :: st) G M Q) := op_iaload (by decide +kernel)
theorem i_287_1315 : mj_Rn d 287 1315 (.inr (.inl a) :: L) st G M Q = mj_Rn d 287 1316 (.inr (.inl a) :: L) (.inr (.inl a) :: st) G M Q := op_aload_n (by decide +kernel) rfl
theorem i_287_1316 : mj_Rn d 287 1316 (l0 :: l1 :: l2 :: .inl x :: L) st G M Q = mj_Rn d 287 1317 (l0 :: l1 :: l2 :: .inl x :: L) (.inl x :: st) G M Q := op_iload_n (by decide +kernel) rfl
theorem i_287_1317 : mj_Rn d 287 1317 L st G M Q = mj_Rn d 287 1318 L (.inl 2 :: st) G M Q := op_iconst (by decide +kernel)
theorem i_287_1318 : mj_Rn d 287 1318 L (.inl y :: .inl x :: st) G M Q = mj_Rn d 287 1319 L (.inl (mj_w (x + y)) :: st) G M Q := op_iadd (by decide +kernel)
theorem i_287_1319 : mj_Rn d 287 1319 L (.inl x :: .inr (.inl a) :: st) G M Q = (∃ len, mj_ai G M a = some len ∧ (0 ≤ x ∧ x < len) ∧ mj_Rn d 287 1320 L (.inl (M a x.toNat) :: st) G M Q) := op_iaload (by decide +kernel)
theorem i_287_1320 : mj_Rn d 287 1320 (.inr (.inl a) :: L) st G M Q = mj_Rn d 287 1321 (.inr (.inl a) :: L) (.inr (.inl a) :: st) G M Q := op_aload_n (by decide +kernel) rfl
theorem i_287_1321 : mj_Rn d 287 1321 (l0 :: l1 :: l2 :: .inl x :: L) st G M Q = mj_Rn d 287 1322 (l0 :: l1 :: l2 :: .inl x :: L) (.inl x :: st) G M Q := op_iload_n (by decide +kernel) rfl
theorem i_287_1322 : mj_Rn d 287 1322 L st G M Q = mj_Rn d 287 1323 L (.inl 3 :: st) G M Q := op_iconst (by decide +kernel)
theorem i_287_1323 : mj_Rn d 287 1323 L (.inl y :: .inl x :: st) G M Q = mj_Rn d 287 1324 L (.inl (mj_w (x + y)) :: st) G M Q := op_iadd (by decide +kernel)
theorem i_287_1324 : mj_Rn d 287 1324 L (.inl x :: .inr (.inl a) :: st) G M Q = (∃ len, mj_ai G M a = some len ∧ (0 ≤ x ∧ x < len) ∧ mj_Rn d 287 1325 L (.inl (M a x.toNat) :: st) G M Q) := op_iaload (by decide +kernel)
theorem i_287_1325 : mj_Rn d 287 1325 (.inr (.inl a) :: L) st G M Q = mj_Rn d 287 1326 (.inr (.inl a) :: L) (.inr (.inl a) :: st) G M Q := op_aload_n (by decide +kernel) rfl
theorem i_287_1326 : mj_Rn d 287 1326 (l0 :: l1 :: l2 :: .inl x :: L) st G M Q = mj_Rn d 287 1327 (l0 :: l1 :: l2 :: .inl x :: L) (.inl x :: st) G M Q := op_iload_n (by decide +kernel) rfl
theorem i_287_1327 : mj_Rn d 287 1327 L st G M Q = mj_Rn d 287 1328 L (.inl 4 :: st) G M Q := op_iconst (by decide +kernel)
theorem i_287_1328 : mj_Rn d 287 1328 L (.inl y :: .inl x :: st) G M Q = mj_Rn d 287 1329 L (.inl (mj_w (x + y)) :: st) G M Q := op_iadd (by decide +kernel)
theorem i_287_1329 : mj_Rn d 287 1329 L (.inl x :: .inr (.inl a) :: st) G M Q = (∃ len, mj_ai G M a = some len ∧ (0 ≤ x ∧ x < len) ∧ mj_Rn d 287 1330 L (.inl (M a x.toNat) :: st) G M Q) := op_iaload (by decide +kernel)
theorem i_287_1330 : mj_Rn (d + 1) 287 1330 L (.inl x3 :: .inl x2 :: .inl x1 :: .inl x0 :: .inr (.inl a) :: st) G M Q = (st.length ≤ 4 ∧ mj_isO G a 12 = true ∧ mj_Rn d 286 0 [.inr (.inl a), .inl x0, .inl x1, .inl x2, .inl x3, .inr (.inr 0)] [] G M fun r G' M' => mj_Rn (d + 1) 287 1333 L (r.toList ++ st) G' M' Q) := op_callV (as := [.inl x0, .inl x1, .inl x2, .inl x3]) (m := 6) (ci := 12) (kd := 0) (Or.inr (Or.inl rfl)) (by decide +kernel) (by decide +kernel) (by decide) (by decide +kernel) rfl rfl
theorem i_287_1333 : mj_Rn d 287 1333 L (.inl y :: .inl x :: st) G M Q = ((x = y → mj_Rn d 287 1361 L st G M Q) ∧ (¬ x = y → mj_Rn d 287 1336 L st G M Q)) := op_eq (by decide +kernel) (by decide)
theorem i_287_1336 : mj_Rn d 287 1336 L st G M Q = mj_Rn d 287 1337 L (.inl 0 :: st) G M Q := op_iconst (by decide +kernel)
theorem i_287_1337 : mj_Rn d 287 1337 L [.inl x] G M Q = ((0 ≤ x ∧ x ≤ 1) ∧ Q (some (.inl x)) G M) := op_zret (by decide +kernel) (by decide +kernel)
theorem i_287_1338 : mj_Rn d 287 1338 (l0 :: .inr (.inl a) :: L) st G M Q = mj_Rn d 287 1339 (l0 :: .inr (.inl a) :: L) (.inr (.inl a) :: st) G M Q := op_aload_n (by decide +kernel) rfl
theorem i_287_1339 : mj_Rn d 287 1339 (.inr (.inl a) :: L) st G M Q = mj_Rn d 287 1340 (.inr (.inl a) :: L) (.inr (.inl a) :: st) G M Q := op_aload_n (by decide +kernel) rfl
theorem i_287_1340 : mj_Rn d 287 1340 (l0 :: l1 :: l2 :: .inl x :: L) st G M Q = mj_Rn d 287 1341 (l0 :: l1 :: l2 :: .inl x :: L) (.inl x :: st) G M Q := op_iload_n (by decide +kernel) rfl
theorem i_287_1341 : mj_Rn d 287 1341 L st G M Q = mj_Rn d 287 1342 L (.inl 1 :: st) G M Q := op_iconst (by decide +kernel)
theorem i_287_1342 : mj_Rn d 287 1342 L (.inl y :: .inl x :: st) G M Q = mj_Rn d 287 1343 L (.inl (mj_w (x + y)) :: st) G M Q := op_iadd (by decide +kernel)
theorem i_287_1343 : mj_Rn d 287 1343 L (.inl x :: .inr (.inl a) :: st) G M Q = (∃ len, mj_ai G M a = some len ∧ (0 ≤ x ∧ x < len) ∧ mj_Rn d 287 1344 L (.inl (M a x.toNat) :: st) G M Q) := op_iaload (by decide +kernel)
theorem i_287_1344 : mj_Rn (d + 1) 287 1344 L (.inl x0 :: .inr (.inl a) :: st) G M Q = (st.length ≤ 4 ∧ mj_isO G a 0 = true ∧ mj_Rn d 169 0 [.inr (.inl a), .inl x0] [] G M fun r G' M' => mj_Rn (d + 1) 287 1347 L (r.toList ++ st) G' M' Q) := op_callV (as := [.inl x0]) (m := 2) (ci := 0) (kd := 0) (Or.inr (Or.inl rfl)) (by decide +kernel) (by decide +kernel) (by decide) (by decide +kernel) rfl rfl
theorem i_287_1347 : mj_Rn d 287 1347 (l0 :: l1 :: .inr (.inl a) :: L) st G M Q = mj_Rn d 287 1348 (l0 :: l1 :: .inr (.inl a) :: L) (.inr (.inl a) :: st) G M Q := op_aload_n (by decide +kernel) rfl
theorem i_287_1348 : mj_Rn d 287 1348 (.inr (.inl a) :: L) st G M Q = mj_Rn d 287 1349 (.inr (.inl a) :: L) (.inr (.inl a) :: st) G M Q := op_aload_n (by decide +kernel) rfl
theorem i_287_1349 : mj_Rn d 287 1349 (l0 :: l1 :: l2 :: .inl x :: L) st G M Q = mj_Rn d 287 1350 (l0 :: l1 :: l2 :: .inl x :: L) (.inl x :: st) G M Q := op_iload_n (by decide +kernel) rfl
theorem i_287_1350 : mj_Rn d 287 1350 L st G M Q = mj_Rn d 287 1351 L (.inl 1 :: st) G M Q := op_iconst (by decide +kernel)
theorem i_287_1351 : mj_Rn d 287 1351 L (.inl y :: .inl x :: st) G M Q = mj_Rn d 287 1352 L (.inl (mj_w (x + y)) :: st) G M Q := op_iadd (by decide +kernel)
theorem i_287_1352 : mj_Rn d 287 1352 L (.inl x :: .inr (.inl a) :: st) G M Q = (∃ len, mj_ai G M a = some len ∧ (0 ≤ x ∧ x < len) ∧ mj_Rn d 287 1353 L (.inl (M a x.toNat) :: st) G M Q) := op_iaload (by decide +kernel)
theorem i_287_1353 : mj_Rn (d + 1) 287 1353 L (.inl x0 :: .inr (.inl a) :: st) G M Q = (st.length ≤ 4 ∧ mj_isO G a 12 = true ∧ mj_Rn d 177 0 [.inr (.inl a), .inl x0] [] G M fun r G' M' => mj_Rn (d + 1) 287 1356 L (r.toList ++ st) G' M' Q) := op_callV (as := [.inl x0]) (m := 2) (ci := 12) (kd := 0) (Or.inr (Or.inl rfl)) (by decide +kernel) (by decide +kernel) (by decide) (by decide +kernel) rfl rfl
theorem i_287_1356 : mj_Rn d 287 1356 L (.inl y :: .inl x :: st) G M Q = ((x = y → mj_Rn d 287 1361 L st G M Q) ∧ (¬ x = y → mj_Rn d 287 1359 L st G M Q)) := op_eq (by decide +kernel) (by decide)
theorem i_287_1359 : mj_Rn d 287 1359 L st G M Q = mj_Rn d 287 1360 L (.inl 0 :: st) G M Q := op_iconst (by decide +kernel)
theorem i_287_1360 : mj_Rn d 287 1360 L [.inl x] G M Q = ((0 ≤ x ∧ x ≤ 1) ∧ Q (some (.inl x)) G M) := op_zret (by decide +kernel) (by decide +kernel)
theorem i_287_1361 : mj_Rn d 287 1361 (l0 :: l1 :: l2 :: .inl x :: L) st G M Q = mj_Rn d 287 1364 (l0 :: l1 :: l2 :: .inl (mj_w (x + 5)) :: L) st G M Q := op_iinc (by decide +kernel) rfl
theorem i_287_1364 : mj_Rn d 287 1364 L st G M Q = mj_Rn d 287 18 L st G M Q := op_goto (by decide +kernel) (by decide)
theorem i_287_1367 : mj_Rn d 287 1367 L st G M Q = mj_Rn d 287 1368 L (.inl 1 :: st) G M Q := op_iconst (by decide +kernel)
theorem i_287_1368 : mj_Rn d 287 1368 L [.inl x] G M Q = ((0 ≤ x ∧ x ≤ 1) ∧ Q (some (.inl x)) G M) := op_zret (by decide +kernel) (by decide +kernel)
end ins3
