section sp80
variable {x : Nat} {M : mj_M} {Q : Option mj_V → mj_G → mj_M → Prop} {d : Nat}
/-! the model's row of numbers, seen as rows like the class's own -/
def v_dec (i : Nat) : Nat × Nat :=
  if i < 32 then
    (if i = 0 then (1, 7) else if i = 1 then (1, 8) else if i = 2 then (22, 13) else if i = 3 then (36, 5) else if i = 4 then (1, 9)
     else if i = 5 then (1, 10) else if i = 6 then (1, 11) else if i = 7 then (1, 6) else if i = 8 then (201, 0) else if i = 9 then (201, 1)
     else if i < 26 then (43, i - 10) else (202, i))
  else if i < 2752 then
    (if (i - 32) % 68 = 0 then (210, (i - 32) / 68) else if (i - 32) % 68 = 1 then (14, (i - 32) / 68) else if (i - 32) % 68 = 2 then (15, (i - 32) / 68)
     else if (i - 32) % 68 = 3 then (16, (i - 32) / 68) else if (i - 32) % 68 = 4 then (17, (i - 32) / 68) else if (i - 32) % 68 = 5 then (19, (i - 32) / 68)
     else if (i - 32) % 68 = 6 then (18, (i - 32) / 68) else if (i - 32) % 68 = 7 then (211, (i - 32) / 68)
     else if (i - 32) % 68 < 38 then (20, 30 * ((i - 32) / 68) + ((i - 32) % 68 - 8)) else (21, 30 * ((i - 32) / 68) + ((i - 32) % 68 - 38)))
  else if i < 3152 then (42, i - 2752)
  else if i < 4592 then
    (if (i - 3152) % 12 = 0 then (212, (i - 3152) / 12) else if (i - 3152) % 12 = 11 then (131, (i - 3152) / 12) else ((i - 3152) % 12 + 2, (i - 3152) / 12))
  else if i < 6032 then
    (if (i - 4592) % 180 < 12 then (23 + (i - 4592) % 180, (i - 4592) / 180) else if (i - 4592) % 180 < 20 then (213, 20 * ((i - 4592) / 180) + (i - 4592) % 180)
     else (35, 160 * ((i - 4592) / 180) + ((i - 4592) % 180 - 20)))
  else if i < 6172 then
    (if (i - 6032) % 7 < 4 then (37 + (i - 6032) % 7, (i - 6032) / 7) else (210 + (i - 6032) % 7, (i - 6032) / 7))
  else (217, i)
def v_cod (a i : Nat) : Nat :=
  if a = 1 then (if i = 7 then 0 else if i = 8 then 1 else if i = 9 then 4 else if i = 10 then 5 else if i = 11 then 6 else 7)
  else if a = 22 then 2 else if a = 36 then 3 else if a = 201 then 8 + i else if a = 43 then 10 + i else if a = 202 then i
  else if a = 210 then 32 + 68 * i else if a = 14 then 33 + 68 * i else if a = 15 then 34 + 68 * i else if a = 16 then 35 + 68 * i else if a = 17 then 36 + 68 * i
  else if a = 19 then 37 + 68 * i else if a = 18 then 38 + 68 * i else if a = 211 then 39 + 68 * i
  else if a = 20 then 40 + 68 * (i / 30) + i % 30 else if a = 21 then 70 + 68 * (i / 30) + i % 30
  else if a = 42 then 2752 + i
  else if a = 212 then 3152 + 12 * i else if a = 131 then 3163 + 12 * i else if 3 ≤ a ∧ a ≤ 12 then 3150 + 12 * i + a
  else if 23 ≤ a ∧ a ≤ 34 then 4592 + 180 * i + (a - 23) else if a = 213 then 4592 + 180 * (i / 20) + i % 20 else if a = 35 then 4612 + 180 * (i / 160) + i % 160
  else if 37 ≤ a ∧ a ≤ 40 then 6032 + 7 * i + (a - 37) else if 214 ≤ a ∧ a ≤ 216 then 6032 + 7 * i + (a - 210) else i
theorem vc_3 {n : Nat} : v_cod 3 n = 3150 + 12 * n + 3 := rfl
theorem vc_4 {n : Nat} : v_cod 4 n = 3150 + 12 * n + 4 := rfl
theorem vc_5 {n : Nat} : v_cod 5 n = 3150 + 12 * n + 5 := rfl
theorem vc_6 {n : Nat} : v_cod 6 n = 3150 + 12 * n + 6 := rfl
theorem vc_7 {n : Nat} : v_cod 7 n = 3150 + 12 * n + 7 := rfl
theorem vc_8 {n : Nat} : v_cod 8 n = 3150 + 12 * n + 8 := rfl
theorem vc_9 {n : Nat} : v_cod 9 n = 3150 + 12 * n + 9 := rfl
theorem vc_10 {n : Nat} : v_cod 10 n = 3150 + 12 * n + 10 := rfl
theorem vc_11 {n : Nat} : v_cod 11 n = 3150 + 12 * n + 11 := rfl
theorem vc_12 {n : Nat} : v_cod 12 n = 3150 + 12 * n + 12 := rfl
theorem vc_14 {n : Nat} : v_cod 14 n = 33 + 68 * n := rfl
theorem vc_15 {n : Nat} : v_cod 15 n = 34 + 68 * n := rfl
theorem vc_16 {n : Nat} : v_cod 16 n = 35 + 68 * n := rfl
theorem vc_17 {n : Nat} : v_cod 17 n = 36 + 68 * n := rfl
theorem vc_18 {n : Nat} : v_cod 18 n = 38 + 68 * n := rfl
theorem vc_19 {n : Nat} : v_cod 19 n = 37 + 68 * n := rfl
theorem vc_20 {n : Nat} : v_cod 20 n = 40 + 68 * (n / 30) + n % 30 := rfl
theorem vc_21 {n : Nat} : v_cod 21 n = 70 + 68 * (n / 30) + n % 30 := rfl
theorem vc_23 {n : Nat} : v_cod 23 n = 4592 + 180 * n + (23 - 23) := rfl
theorem vc_24 {n : Nat} : v_cod 24 n = 4592 + 180 * n + (24 - 23) := rfl
theorem vc_25 {n : Nat} : v_cod 25 n = 4592 + 180 * n + (25 - 23) := rfl
theorem vc_26 {n : Nat} : v_cod 26 n = 4592 + 180 * n + (26 - 23) := rfl
theorem vc_27 {n : Nat} : v_cod 27 n = 4592 + 180 * n + (27 - 23) := rfl
theorem vc_28 {n : Nat} : v_cod 28 n = 4592 + 180 * n + (28 - 23) := rfl
theorem vc_29 {n : Nat} : v_cod 29 n = 4592 + 180 * n + (29 - 23) := rfl
theorem vc_30 {n : Nat} : v_cod 30 n = 4592 + 180 * n + (30 - 23) := rfl
theorem vc_31 {n : Nat} : v_cod 31 n = 4592 + 180 * n + (31 - 23) := rfl
theorem vc_32 {n : Nat} : v_cod 32 n = 4592 + 180 * n + (32 - 23) := rfl
theorem vc_33 {n : Nat} : v_cod 33 n = 4592 + 180 * n + (33 - 23) := rfl
theorem vc_34 {n : Nat} : v_cod 34 n = 4592 + 180 * n + (34 - 23) := rfl
theorem vc_35 {n : Nat} : v_cod 35 n = 4612 + 180 * (n / 160) + n % 160 := rfl
theorem vc_37 {n : Nat} : v_cod 37 n = 6032 + 7 * n + (37 - 37) := rfl
theorem vc_38 {n : Nat} : v_cod 38 n = 6032 + 7 * n + (38 - 37) := rfl
theorem vc_39 {n : Nat} : v_cod 39 n = 6032 + 7 * n + (39 - 37) := rfl
theorem vc_40 {n : Nat} : v_cod 40 n = 6032 + 7 * n + (40 - 37) := rfl
theorem vc_42 {n : Nat} : v_cod 42 n = 2752 + n := rfl
theorem vc_43 {n : Nat} : v_cod 43 n = 10 + n := rfl
theorem vc_131 {n : Nat} : v_cod 131 n = 3163 + 12 * n := rfl
theorem vc_202 {n : Nat} : v_cod 202 n = n := rfl
theorem vc_210 {n : Nat} : v_cod 210 n = 32 + 68 * n := rfl
theorem vc_211 {n : Nat} : v_cod 211 n = 39 + 68 * n := rfl
theorem vc_212 {n : Nat} : v_cod 212 n = 3152 + 12 * n := rfl
theorem vc_213 {n : Nat} : v_cod 213 n = 4592 + 180 * (n / 20) + n % 20 := rfl
theorem vc_214 {n : Nat} : v_cod 214 n = 6032 + 7 * n + (214 - 210) := rfl
theorem vc_215 {n : Nat} : v_cod 215 n = 6032 + 7 * n + (215 - 210) := rfl
theorem vc_216 {n : Nat} : v_cod 216 n = 6032 + 7 * n + (216 - 210) := rfl
theorem vc_217 {n : Nat} : v_cod 217 n = n := rfl
theorem v_cod_dec (i : Nat) : v_cod (v_dec i).1 (v_dec i).2 = i := by
  unfold v_dec
  by_cases r1 : i < 32
  · rw [if_pos r1]
    by_cases c0 : i = 0
    · subst c0; rfl
    rw [if_neg c0]
    by_cases c1 : i = 1
    · subst c1; rfl
    rw [if_neg c1]
    by_cases c2 : i = 2
    · subst c2; rfl
    rw [if_neg c2]
    by_cases c3 : i = 3
    · subst c3; rfl
    rw [if_neg c3]
    by_cases c4 : i = 4
    · subst c4; rfl
    rw [if_neg c4]
    by_cases c5 : i = 5
    · subst c5; rfl
    rw [if_neg c5]
    by_cases c6 : i = 6
    · subst c6; rfl
    rw [if_neg c6]
    by_cases c7 : i = 7
    · subst c7; rfl
    rw [if_neg c7]
    by_cases c8 : i = 8
    · subst c8; rfl
    rw [if_neg c8]
    by_cases c9 : i = 9
    · subst c9; rfl
    rw [if_neg c9]
    by_cases c10 : i < 26
    · rw [if_pos c10, vc_43]; omega
    rw [if_neg c10, vc_202]
  rw [if_neg r1]
  by_cases r2 : i < 2752
  · rw [if_pos r2]
    by_cases c0 : (i - 32) % 68 = 0
    · rw [if_pos c0, vc_210]; omega
    rw [if_neg c0]
    by_cases c1 : (i - 32) % 68 = 1
    · rw [if_pos c1, vc_14]; omega
    rw [if_neg c1]
    by_cases c2 : (i - 32) % 68 = 2
    · rw [if_pos c2, vc_15]; omega
    rw [if_neg c2]
    by_cases c3 : (i - 32) % 68 = 3
    · rw [if_pos c3, vc_16]; omega
    rw [if_neg c3]
    by_cases c4 : (i - 32) % 68 = 4
    · rw [if_pos c4, vc_17]; omega
    rw [if_neg c4]
    by_cases c5 : (i - 32) % 68 = 5
    · rw [if_pos c5, vc_19]; omega
    rw [if_neg c5]
    by_cases c6 : (i - 32) % 68 = 6
    · rw [if_pos c6, vc_18]; omega
    rw [if_neg c6]
    by_cases c7 : (i - 32) % 68 = 7
    · rw [if_pos c7, vc_211]; omega
    rw [if_neg c7]
    by_cases c8 : (i - 32) % 68 < 38
    · rw [if_pos c8, vc_20]; omega
    rw [if_neg c8, vc_21]; omega
  rw [if_neg r2]
  by_cases r3 : i < 3152
  · rw [if_pos r3, vc_42]; omega
  rw [if_neg r3]
  by_cases r4 : i < 4592
  · rw [if_pos r4]
    by_cases c0 : (i - 3152) % 12 = 0
    · rw [if_pos c0, vc_212]; omega
    rw [if_neg c0]
    by_cases c11 : (i - 3152) % 12 = 11
    · rw [if_pos c11, vc_131]; omega
    rw [if_neg c11]
    by_cases d1 : (i - 3152) % 12 = 1
    · rw [d1, vc_3]; omega
    by_cases d2 : (i - 3152) % 12 = 2
    · rw [d2, vc_4]; omega
    by_cases d3 : (i - 3152) % 12 = 3
    · rw [d3, vc_5]; omega
    by_cases d4 : (i - 3152) % 12 = 4
    · rw [d4, vc_6]; omega
    by_cases d5 : (i - 3152) % 12 = 5
    · rw [d5, vc_7]; omega
    by_cases d6 : (i - 3152) % 12 = 6
    · rw [d6, vc_8]; omega
    by_cases d7 : (i - 3152) % 12 = 7
    · rw [d7, vc_9]; omega
    by_cases d8 : (i - 3152) % 12 = 8
    · rw [d8, vc_10]; omega
    by_cases d9 : (i - 3152) % 12 = 9
    · rw [d9, vc_11]; omega
    by_cases d10 : (i - 3152) % 12 = 10
    · rw [d10, vc_12]; omega
    omega
  rw [if_neg r4]
  by_cases r5 : i < 6032
  · rw [if_pos r5]
    by_cases c12 : (i - 4592) % 180 < 12
    · rw [if_pos c12]
      by_cases d0 : (i - 4592) % 180 = 0
      · rw [d0, vc_23]; omega
      by_cases d1 : (i - 4592) % 180 = 1
      · rw [d1, vc_24]; omega
      by_cases d2 : (i - 4592) % 180 = 2
      · rw [d2, vc_25]; omega
      by_cases d3 : (i - 4592) % 180 = 3
      · rw [d3, vc_26]; omega
      by_cases d4 : (i - 4592) % 180 = 4
      · rw [d4, vc_27]; omega
      by_cases d5 : (i - 4592) % 180 = 5
      · rw [d5, vc_28]; omega
      by_cases d6 : (i - 4592) % 180 = 6
      · rw [d6, vc_29]; omega
      by_cases d7 : (i - 4592) % 180 = 7
      · rw [d7, vc_30]; omega
      by_cases d8 : (i - 4592) % 180 = 8
      · rw [d8, vc_31]; omega
      by_cases d9 : (i - 4592) % 180 = 9
      · rw [d9, vc_32]; omega
      by_cases d10 : (i - 4592) % 180 = 10
      · rw [d10, vc_33]; omega
      by_cases d11 : (i - 4592) % 180 = 11
      · rw [d11, vc_34]; omega
      omega
    rw [if_neg c12]
    by_cases c20 : (i - 4592) % 180 < 20
    · rw [if_pos c20, vc_213]; omega
    rw [if_neg c20, vc_35]; omega
  rw [if_neg r5]
  by_cases r6 : i < 6172
  · rw [if_pos r6]
    by_cases c4 : (i - 6032) % 7 < 4
    · rw [if_pos c4]
      by_cases d0 : (i - 6032) % 7 = 0
      · rw [d0, vc_37]; omega
      by_cases d1 : (i - 6032) % 7 = 1
      · rw [d1, vc_38]; omega
      by_cases d2 : (i - 6032) % 7 = 2
      · rw [d2, vc_39]; omega
      by_cases d3 : (i - 6032) % 7 = 3
      · rw [d3, vc_40]; omega
      omega
    rw [if_neg c4]
    by_cases d4 : (i - 6032) % 7 = 4
    · rw [d4, vc_214]; omega
    by_cases d5 : (i - 6032) % 7 = 5
    · rw [d5, vc_215]; omega
    by_cases d6 : (i - 6032) % 7 = 6
    · rw [d6, vc_216]; omega
    omega
  rw [if_neg r6, vc_217]
theorem v_dec_inj {i j : Nat} (h : v_dec i = v_dec j) : i = j := by rw [← v_cod_dec i, ← v_cod_dec j, h]
def v_enc (V : mj_M) : Nat → Int := fun i => V (v_dec i).1 (v_dec i).2
def v_st (V M : mj_M) : mj_M := mj_upr M 173 (v_enc V)
theorem v_st_ne {V : mj_M} {a : Nat} (h : a ≠ 173) : v_st V M a = M a := by unfold v_st mj_upr; rw [if_neg h]
theorem v_rd {V : mj_M} {i : Nat} : v_st V M 173 i = V (v_dec i).1 (v_dec i).2 := by unfold v_st mj_upr; rw [if_pos rfl]; rfl
theorem v_up {V : mj_M} {i : Nat} {v : Int} : mj_up (v_st V M) 173 i v = v_st (mj_up V (v_dec i).1 (v_dec i).2 v) M := by
  funext b j
  unfold v_st mj_up mj_upr
  by_cases hb : b = 173
  · subst hb
    simp only [if_true]
    unfold v_enc
    by_cases hj : j = i
    · subst hj; simp
    · rw [if_neg hj]
      show V (v_dec j).1 (v_dec j).2 = if (v_dec j).1 = (v_dec i).1 then (if (v_dec j).2 = (v_dec i).2 then v else V (v_dec i).1 (v_dec j).2) else V (v_dec j).1 (v_dec j).2
      by_cases h1 : (v_dec j).1 = (v_dec i).1
      · rw [if_pos h1]
        by_cases h2 : (v_dec j).2 = (v_dec i).2
        · exact absurd (v_dec_inj (Prod.ext h1 h2)) hj
        · rw [if_neg h2, h1]
      · rw [if_neg h1]
  · simp [hb]
theorem v_up_ne {V : mj_M} {a i : Nat} {v : Int} (h : a ≠ 173) : mj_up (v_st V M) a i v = v_st V (mj_up M a i v) := by
  funext b j
  unfold v_st mj_up mj_upr
  by_cases hb : b = 173
  · subst hb; rw [if_neg (by omega)]; simp
  · by_cases ha : b = a
    · simp [ha, h]
    · simp [ha, hb]
def v_thF (f : Nat) : Nat := [210, 14, 15, 16, 17, 19, 18, 211].getD f 0
theorem v_thA {y f : Int} {o : Nat} (h : 0 ≤ y ∧ y < 40) (hf : 0 ≤ f ∧ f < 8) (ho : v_thF f.toNat = o) : v_dec (32 + 68 * y + f).toNat = (o, y.toNat) := by
  have e1 : ((32 + 68 * y + f).toNat - 32) % 68 = f.toNat := by omega
  have e2 : ((32 + 68 * y + f).toNat - 32) / 68 = y.toNat := by omega
  unfold v_dec
  rw [if_neg (by omega), if_pos (by omega), e1, e2]
  have hk : f.toNat < 8 := by omega
  revert ho hk
  generalize f.toNat = k
  intro ho hk
  match k, hk with
  | 0, _ => subst ho; rfl
  | 1, _ => subst ho; rfl
  | 2, _ => subst ho; rfl
  | 3, _ => subst ho; rfl
  | 4, _ => subst ho; rfl
  | 5, _ => subst ho; rfl
  | 6, _ => subst ho; rfl
  | 7, _ => subst ho; rfl
def v_tkF (f : Nat) : Nat := if f = 0 then 212 else if f = 11 then 131 else f + 2
theorem v_tkA {t f : Int} {o : Nat} (h : 0 ≤ t ∧ t < 120) (hf : 0 ≤ f ∧ f < 12) (ho : v_tkF f.toNat = o) : v_dec (3152 + 12 * t + f).toNat = (o, t.toNat) := by
  have e1 : ((3152 + 12 * t + f).toNat - 3152) % 12 = f.toNat := by omega
  have e2 : ((3152 + 12 * t + f).toNat - 3152) / 12 = t.toNat := by omega
  unfold v_dec
  rw [if_neg (by omega), if_neg (by omega), if_neg (by omega), if_pos (by omega), e1, e2, ← ho]
  unfold v_tkF
  split
  · rfl
  · split <;> rfl
theorem v_rnA {r f : Int} {o : Nat} (h : 0 ≤ r ∧ r < 8) (hf : 0 ≤ f ∧ f < 12) (ho : 23 + f.toNat = o) : v_dec (4592 + 180 * r + f).toNat = (o, r.toNat) := by
  have e1 : ((4592 + 180 * r + f).toNat - 4592) % 180 = f.toNat := by omega
  have e2 : ((4592 + 180 * r + f).toNat - 4592) / 180 = r.toNat := by omega
  unfold v_dec
  rw [if_neg (by omega), if_neg (by omega), if_neg (by omega), if_neg (by omega), if_pos (by omega), e1, e2, ← ho, if_pos (by omega)]
def v_wsF (f : Nat) : Nat := if f < 4 then 37 + f else 210 + f
theorem v_wsA {r f : Int} {o : Nat} (h : 0 ≤ r ∧ r < 20) (hf : 0 ≤ f ∧ f < 7) (ho : v_wsF f.toNat = o) : v_dec (6032 + 7 * r + f).toNat = (o, r.toNat) := by
  have e1 : ((6032 + 7 * r + f).toNat - 6032) % 7 = f.toNat := by omega
  have e2 : ((6032 + 7 * r + f).toNat - 6032) / 7 = r.toNat := by omega
  unfold v_dec
  rw [if_neg (by omega), if_neg (by omega), if_neg (by omega), if_neg (by omega), if_neg (by omega), if_pos (by omega), e1, e2, ← ho]
  unfold v_wsF
  split <;> rfl
theorem v_ow {y k : Int} (h : (0 ≤ y ∧ y < 40) ∧ 0 ≤ k ∧ k < 30) : v_dec (32 + 68 * y + 8 + k).toNat = (20, (30 * y + k).toNat) := by
  have e1 : ((32 + 68 * y + 8 + k).toNat - 32) % 68 = (8 + k).toNat := by omega
  have e2 : ((32 + 68 * y + 8 + k).toNat - 32) / 68 = y.toNat := by omega
  unfold v_dec
  rw [if_neg (by omega), if_pos (by omega), e1, e2]
  rw [if_neg (by omega), if_neg (by omega), if_neg (by omega), if_neg (by omega), if_neg (by omega), if_neg (by omega), if_neg (by omega), if_neg (by omega), if_pos (by omega)]
  congr 1; omega
theorem v_ow2 {y k : Int} (h : (0 ≤ y ∧ y < 40) ∧ 0 ≤ k ∧ k < 30) : v_dec (32 + 68 * y + (8 + k)).toNat = (20, (30 * y + k).toNat) := by
  rw [← Int.add_assoc]; exact v_ow h
theorem v_iw {y k : Int} (h : (0 ≤ y ∧ y < 40) ∧ 0 ≤ k ∧ k < 30) : v_dec (32 + 68 * y + 38 + k).toNat = (21, (30 * y + k).toNat) := by
  have e1 : ((32 + 68 * y + 38 + k).toNat - 32) % 68 = (38 + k).toNat := by omega
  have e2 : ((32 + 68 * y + 38 + k).toNat - 32) / 68 = y.toNat := by omega
  unfold v_dec
  rw [if_neg (by omega), if_pos (by omega), e1, e2]
  rw [if_neg (by omega), if_neg (by omega), if_neg (by omega), if_neg (by omega), if_neg (by omega), if_neg (by omega), if_neg (by omega), if_neg (by omega), if_neg (by omega)]
  congr 1; omega
theorem v_tb {b s : Int} (h : (0 ≤ b ∧ b < 40) ∧ 0 ≤ s ∧ s < 10) : v_dec (2752 + 10 * b + s).toNat = (42, (10 * b + s).toNat) := by
  unfold v_dec
  have e : (2752 + 10 * b + s).toNat - 2752 = (10 * b + s).toNat := by omega
  rw [if_neg (by omega), if_neg (by omega), if_pos (by omega), e]
theorem v_tb0 {k : Int} (h : 0 ≤ k ∧ k < 400) : v_dec (2752 + k).toNat = (42, k.toNat) := by
  unfold v_dec
  have e : (2752 + k).toNat - 2752 = k.toNat := by omega
  rw [if_neg (by omega), if_neg (by omega), if_pos (by omega), e]
theorem v_tm {k : Int} (h : 0 ≤ k ∧ k < 16) : v_dec (10 + k).toNat = (43, k.toNat) := by
  unfold v_dec
  rw [if_pos (by omega), if_neg (by omega), if_neg (by omega), if_neg (by omega), if_neg (by omega), if_neg (by omega), if_neg (by omega), if_neg (by omega), if_neg (by omega), if_neg (by omega), if_neg (by omega), if_pos (by omega), show (10 + k).toNat - 10 = k.toNat by omega]
theorem v_pg {r k : Int} (h : (0 ≤ r ∧ r < 8) ∧ 0 ≤ k ∧ k < 160) : v_dec (4592 + 180 * r + 20 + k).toNat = (35, (160 * r + k).toNat) := by
  have e1 : ((4592 + 180 * r + 20 + k).toNat - 4592) % 180 = (20 + k).toNat := by omega
  have e2 : ((4592 + 180 * r + 20 + k).toNat - 4592) / 180 = r.toNat := by omega
  unfold v_dec
  rw [if_neg (by omega), if_neg (by omega), if_neg (by omega), if_neg (by omega), if_pos (by omega), e1, e2, if_neg (by omega), if_neg (by omega), show 160 * r.toNat + ((20 + k).toNat - 20) = (160 * r + k).toNat by omega]
theorem v_th0 {y : Int} (h : 0 ≤ y ∧ y < 40) : v_dec (32 + 68 * y + 0).toNat = (210, y.toNat) := v_thA (f := 0) h (by omega) rfl
theorem v_th1 {y : Int} (h : 0 ≤ y ∧ y < 40) : v_dec (32 + 68 * y + 1).toNat = (14, y.toNat) := v_thA (f := 1) h (by omega) rfl
theorem v_th2 {y : Int} (h : 0 ≤ y ∧ y < 40) : v_dec (32 + 68 * y + 2).toNat = (15, y.toNat) := v_thA (f := 2) h (by omega) rfl
theorem v_th3 {y : Int} (h : 0 ≤ y ∧ y < 40) : v_dec (32 + 68 * y + 3).toNat = (16, y.toNat) := v_thA (f := 3) h (by omega) rfl
theorem v_th4 {y : Int} (h : 0 ≤ y ∧ y < 40) : v_dec (32 + 68 * y + 4).toNat = (17, y.toNat) := v_thA (f := 4) h (by omega) rfl
theorem v_th5 {y : Int} (h : 0 ≤ y ∧ y < 40) : v_dec (32 + 68 * y + 5).toNat = (19, y.toNat) := v_thA (f := 5) h (by omega) rfl
theorem v_th6 {y : Int} (h : 0 ≤ y ∧ y < 40) : v_dec (32 + 68 * y + 6).toNat = (18, y.toNat) := v_thA (f := 6) h (by omega) rfl
theorem v_th7 {y : Int} (h : 0 ≤ y ∧ y < 40) : v_dec (32 + 68 * y + 7).toNat = (211, y.toNat) := v_thA (f := 7) h (by omega) rfl
theorem v_tk0 {t : Int} (h : 0 ≤ t ∧ t < 120) : v_dec (3152 + 12 * t + 0).toNat = (212, t.toNat) := v_tkA (f := 0) h (by omega) rfl
theorem v_tk1 {t : Int} (h : 0 ≤ t ∧ t < 120) : v_dec (3152 + 12 * t + 1).toNat = (3, t.toNat) := v_tkA (f := 1) h (by omega) rfl
theorem v_tk2 {t : Int} (h : 0 ≤ t ∧ t < 120) : v_dec (3152 + 12 * t + 2).toNat = (4, t.toNat) := v_tkA (f := 2) h (by omega) rfl
theorem v_tk3 {t : Int} (h : 0 ≤ t ∧ t < 120) : v_dec (3152 + 12 * t + 3).toNat = (5, t.toNat) := v_tkA (f := 3) h (by omega) rfl
theorem v_tk4 {t : Int} (h : 0 ≤ t ∧ t < 120) : v_dec (3152 + 12 * t + 4).toNat = (6, t.toNat) := v_tkA (f := 4) h (by omega) rfl
theorem v_tk5 {t : Int} (h : 0 ≤ t ∧ t < 120) : v_dec (3152 + 12 * t + 5).toNat = (7, t.toNat) := v_tkA (f := 5) h (by omega) rfl
theorem v_tk6 {t : Int} (h : 0 ≤ t ∧ t < 120) : v_dec (3152 + 12 * t + 6).toNat = (8, t.toNat) := v_tkA (f := 6) h (by omega) rfl
theorem v_tk7 {t : Int} (h : 0 ≤ t ∧ t < 120) : v_dec (3152 + 12 * t + 7).toNat = (9, t.toNat) := v_tkA (f := 7) h (by omega) rfl
theorem v_tk8 {t : Int} (h : 0 ≤ t ∧ t < 120) : v_dec (3152 + 12 * t + 8).toNat = (10, t.toNat) := v_tkA (f := 8) h (by omega) rfl
theorem v_tk9 {t : Int} (h : 0 ≤ t ∧ t < 120) : v_dec (3152 + 12 * t + 9).toNat = (11, t.toNat) := v_tkA (f := 9) h (by omega) rfl
theorem v_tk10 {t : Int} (h : 0 ≤ t ∧ t < 120) : v_dec (3152 + 12 * t + 10).toNat = (12, t.toNat) := v_tkA (f := 10) h (by omega) rfl
theorem v_tk11 {t : Int} (h : 0 ≤ t ∧ t < 120) : v_dec (3152 + 12 * t + 11).toNat = (131, t.toNat) := v_tkA (f := 11) h (by omega) rfl
theorem v_rn0 {r : Int} (h : 0 ≤ r ∧ r < 8) : v_dec (4592 + 180 * r + 0).toNat = (23, r.toNat) := v_rnA (f := 0) h (by omega) rfl
theorem v_rn1 {r : Int} (h : 0 ≤ r ∧ r < 8) : v_dec (4592 + 180 * r + 1).toNat = (24, r.toNat) := v_rnA (f := 1) h (by omega) rfl
theorem v_rn2 {r : Int} (h : 0 ≤ r ∧ r < 8) : v_dec (4592 + 180 * r + 2).toNat = (25, r.toNat) := v_rnA (f := 2) h (by omega) rfl
theorem v_rn3 {r : Int} (h : 0 ≤ r ∧ r < 8) : v_dec (4592 + 180 * r + 3).toNat = (26, r.toNat) := v_rnA (f := 3) h (by omega) rfl
theorem v_rn4 {r : Int} (h : 0 ≤ r ∧ r < 8) : v_dec (4592 + 180 * r + 4).toNat = (27, r.toNat) := v_rnA (f := 4) h (by omega) rfl
theorem v_rn5 {r : Int} (h : 0 ≤ r ∧ r < 8) : v_dec (4592 + 180 * r + 5).toNat = (28, r.toNat) := v_rnA (f := 5) h (by omega) rfl
theorem v_rn6 {r : Int} (h : 0 ≤ r ∧ r < 8) : v_dec (4592 + 180 * r + 6).toNat = (29, r.toNat) := v_rnA (f := 6) h (by omega) rfl
theorem v_rn7 {r : Int} (h : 0 ≤ r ∧ r < 8) : v_dec (4592 + 180 * r + 7).toNat = (30, r.toNat) := v_rnA (f := 7) h (by omega) rfl
theorem v_rn8 {r : Int} (h : 0 ≤ r ∧ r < 8) : v_dec (4592 + 180 * r + 8).toNat = (31, r.toNat) := v_rnA (f := 8) h (by omega) rfl
theorem v_rn9 {r : Int} (h : 0 ≤ r ∧ r < 8) : v_dec (4592 + 180 * r + 9).toNat = (32, r.toNat) := v_rnA (f := 9) h (by omega) rfl
theorem v_rn10 {r : Int} (h : 0 ≤ r ∧ r < 8) : v_dec (4592 + 180 * r + 10).toNat = (33, r.toNat) := v_rnA (f := 10) h (by omega) rfl
theorem v_rn11 {r : Int} (h : 0 ≤ r ∧ r < 8) : v_dec (4592 + 180 * r + 11).toNat = (34, r.toNat) := v_rnA (f := 11) h (by omega) rfl
theorem v_ws0 {r : Int} (h : 0 ≤ r ∧ r < 20) : v_dec (6032 + 7 * r + 0).toNat = (37, r.toNat) := v_wsA (f := 0) h (by omega) rfl
theorem v_ws1 {r : Int} (h : 0 ≤ r ∧ r < 20) : v_dec (6032 + 7 * r + 1).toNat = (38, r.toNat) := v_wsA (f := 1) h (by omega) rfl
theorem v_ws2 {r : Int} (h : 0 ≤ r ∧ r < 20) : v_dec (6032 + 7 * r + 2).toNat = (39, r.toNat) := v_wsA (f := 2) h (by omega) rfl
theorem v_ws3 {r : Int} (h : 0 ≤ r ∧ r < 20) : v_dec (6032 + 7 * r + 3).toNat = (40, r.toNat) := v_wsA (f := 3) h (by omega) rfl
theorem v_ws4 {r : Int} (h : 0 ≤ r ∧ r < 20) : v_dec (6032 + 7 * r + 4).toNat = (214, r.toNat) := v_wsA (f := 4) h (by omega) rfl
theorem v_ws5 {r : Int} (h : 0 ≤ r ∧ r < 20) : v_dec (6032 + 7 * r + 5).toNat = (215, r.toNat) := v_wsA (f := 5) h (by omega) rfl
theorem v_ws6 {r : Int} (h : 0 ≤ r ∧ r < 20) : v_dec (6032 + 7 * r + 6).toNat = (216, r.toNat) := v_wsA (f := 6) h (by omega) rfl
theorem v_gl0 : v_dec (Int.toNat 0) = (1, 7) := rfl
theorem v_gl1 : v_dec (Int.toNat 1) = (1, 8) := rfl
theorem v_gl2 : v_dec (Int.toNat 2) = (22, 13) := rfl
theorem v_gl3 : v_dec (Int.toNat 3) = (36, 5) := rfl
theorem v_gl4 : v_dec (Int.toNat 4) = (1, 9) := rfl
theorem v_gl5 : v_dec (Int.toNat 5) = (1, 10) := rfl
theorem v_gl6 : v_dec (Int.toNat 6) = (1, 11) := rfl
theorem v_gl7 : v_dec (Int.toNat 7) = (1, 6) := rfl
theorem v_gl8 : v_dec (Int.toNat 8) = (201, 0) := rfl
theorem v_gl9 : v_dec (Int.toNat 9) = (201, 1) := rfl
end sp80
