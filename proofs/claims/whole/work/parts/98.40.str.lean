section str
variable {p : Program} {l : Launch} {e : Env} {R : Room} {s : State} {m : MethodId} {args : Array Value} {below : List Frame} {meth : Method} {c : Code} {H : Heap} {locs : List Loc} {cells slots : Nat} {Q : State → Prop} {X : mj_Cx}
/-! lengths and letters of the four texts that are read, over the machine -/
def so_Pc (X : mj_Cx) (av : List Value) : Array Value → State → Prop := va_Pc av fun U => mj_sf_q X U
def so_Pt (X : mj_Cx) (av : List Value) (t n : Nat) (f : Nat → Value) : Array Value → State → Prop := va_Pc av fun U => mj_sf_q X U ∧ va_T .byte t n f (mj_A X) U U.heap
def so_Qc (v : Option Value) : Array Value → State → Outcome → State → Prop := fun _ st oc t => oc = .returned v ∧ t.heap = st.heap
def so_rm (d : Nat) : Room := { frames := d, cells := 0, slots := 0, locals := 32 * d }
def so_no : Addr → Prop := fun _ => False
theorem so_Pc_blind {av : List Value} : FrameBlind (so_Pc X av) := by
  intro a U g mk h
  obtain ⟨h1, h2⟩ := h
  exact ⟨h1, mj_sf_mv_q h2 (State.WarmedH.refl U) (fun _ _ _ => rfl)⟩
theorem so_Pt_blind {av : List Value} {t n : Nat} {f : Nat → Value} : FrameBlind (so_Pt X av t n f) := by
  intro a U g mk h
  obtain ⟨h1, h2, h3⟩ := h
  exact ⟨h1, mj_sf_mv_q h2 (State.WarmedH.refl U) (fun _ _ _ => rfl), (h3.kept (H1 := U.heap) (fun _ _ _ => rfl)).moved (State.WarmedH.refl U).alike⟩
theorem so_run {pc : Nat} {ls : Array Slot} {st1 rest : List Value} {r : Option Value} {a : Array Value} (hr : va_Run p l e R s m args below meth c H locs cells slots 0 0 (F0 m pc ls st1) rest (so_Qc r a) so_no)
    (kk : W p l e R s m args below meth c H locs cells slots Q (F0 m (pc + 3) ls (r.toList ++ rest))) : W p l e R s m args below meth c H locs cells slots Q (F0 m pc ls st1) := by
  intro T hT X'
  obtain ⟨v, st₀, t, T', L', h0, X2, hL', e1, e2, ⟨q1, q2⟩, hgo⟩ := hr T hT X'
  cases q1
  have hL : L' = [] := List.eq_nil_iff_forall_not_mem.mpr (fun q hq => hL' q hq)
  subst hL
  rw [List.append_nil] at X2
  obtain ⟨t2, a1, a2⟩ := kk T' (e1.trans (q2.trans h0)) X2
  exact ⟨t2, hgo t2 a1, a2⟩
theorem so_ent (vs : List Value) (n : Nat) (hn : (lg_sl vs).length ≤ n) (k : ∀ ls : Array Slot, ls.size = n → (∀ q ∈ lv_args 0 vs, ls[q.1]? = some (.val q.2)) → W p l e R s m args below meth c H locs cells slots Q (F0 m 0 ls [])) : W p l e R s m args below meth c H locs cells slots Q (entryFrame m vs.toArray n) := by
  have hl1 := lv_entry vs hn
  rw [lg_entry_eq]
  generalize (lg_sl vs ++ List.replicate (n - (lg_sl vs).length) Slot.unset).toArray = ls at hl1 ⊢
  exact k ls hl1.1 hl1.2.2
theorem so_gd {w : Cond} (h : w ∈ mj_tb) : GoodIn mj_tb (w :: mj_tb) := fun v hv => by
  rcases List.mem_cons.mp hv with q | q
  · rw [q]; exact ⟨h, mj_tb_good _ h⟩
  · exact ⟨q, mj_tb_good _ q⟩
theorem so_gV {own C : String} {idx : Nat} {y : MethodName} {w : Cond} (h1 : Cond.methodLink own idx y ∈ mj_tb) (h2 : Cond.instanceMethod y ∈ mj_tb) (h3 : Cond.selects C y y ∈ mj_tb) (h4 : Cond.initialized C ∈ mj_tb) (hw : w ∈ mj_tb) : GoodIn mj_tb (wsV own idx C y (w :: mj_tb)) := by
  intro v hv
  unfold wsV at hv
  rcases List.mem_append.mp hv with h | h
  · simp only [List.mem_cons, List.not_mem_nil, or_false] at h
    rcases h with rfl | rfl | rfl | rfl
    · exact ⟨h1, mj_tb_good _ h1⟩
    · exact ⟨h2, mj_tb_good _ h2⟩
    · exact ⟨h3, mj_tb_good _ h3⟩
    · exact ⟨h4, mj_tb_good _ h4⟩
  · exact so_gd hw v h
theorem so_gS {own : String} {idx : Nat} {y : MethodName} {w : Cond} (h1 : Cond.methodLink own idx y ∈ mj_tb) (h2 : Cond.static y ∈ mj_tb) (h4 : Cond.initialized y.cls ∈ mj_tb) (hw : w ∈ mj_tb) : GoodIn mj_tb (va_wsS own idx y (w :: mj_tb)) := by
  intro v hv
  unfold va_wsS at hv
  rcases List.mem_append.mp hv with h | h
  · simp only [List.mem_cons, List.not_mem_nil, or_false] at h
    rcases h with rfl | rfl | rfl
    · exact ⟨h1, mj_tb_good _ h1⟩
    · exact ⟨h2, mj_tb_good _ h2⟩
    · exact ⟨h4, mj_tb_good _ h4⟩
  · exact so_gd hw v h
end str
theorem sw_iS : Cond.initialized "java/lang/String" ∈ mj_tb := mj_hit_ok (p := 1017) (by decide +kernel)
theorem sw_iL : Cond.initialized "java/lang/StringLatin1" ∈ mj_tb := mj_hit_ok (p := 1018) (by decide +kernel)
theorem sw_iP : Cond.initialized "jdk/internal/util/Preconditions" ∈ mj_tb := mj_hit_ok (p := 1019) (by decide +kernel)
theorem sw_len_m : Cond.instanceMethod (⟨"java/lang/String", "length", "()I"⟩ : MethodName) ∈ mj_tb := mj_hit_ok (p := 5159) (by decide +kernel)
theorem sw_len_s : Cond.selects "java/lang/String" (⟨"java/lang/String", "length", "()I"⟩ : MethodName) (⟨"java/lang/String", "length", "()I"⟩ : MethodName) ∈ mj_tb := mj_hit_ok (p := 5160) (by decide +kernel)
theorem sw_len_c : Cond.code (⟨"java/lang/String", "length", "()I"⟩ : MethodName) prog_16_method_54_code 1 (some .int) ∈ mj_tb := mj_hit_ok (p := 5161) (by decide +kernel)
theorem sw_coder_l : Cond.methodLink "java/lang/String" 335 (⟨"java/lang/String", "coder", "()B"⟩ : MethodName) ∈ mj_tb := mj_hit_ok (p := 5162) (by decide +kernel)
theorem sw_coder_m : Cond.instanceMethod (⟨"java/lang/String", "coder", "()B"⟩ : MethodName) ∈ mj_tb := mj_hit_ok (p := 5163) (by decide +kernel)
theorem sw_coder_s : Cond.selects "java/lang/String" (⟨"java/lang/String", "coder", "()B"⟩ : MethodName) (⟨"java/lang/String", "coder", "()B"⟩ : MethodName) ∈ mj_tb := mj_hit_ok (p := 5164) (by decide +kernel)
theorem sw_coder_c : Cond.code (⟨"java/lang/String", "coder", "()B"⟩ : MethodName) prog_16_method_152_code 1 (some .byte) ∈ mj_tb := mj_hit_ok (p := 5165) (by decide +kernel)
theorem sw_cs_l : Cond.fieldLink "java/lang/String" 38 "java/lang/String" "COMPACT_STRINGS" "Z" ∈ mj_tb := mj_hit_ok (p := 5166) (by decide +kernel)
theorem sw_chr_m : Cond.instanceMethod (⟨"java/lang/String", "charAt", "(I)C"⟩ : MethodName) ∈ mj_tb := mj_hit_ok (p := 5169) (by decide +kernel)
theorem sw_chr_s : Cond.selects "java/lang/String" (⟨"java/lang/String", "charAt", "(I)C"⟩ : MethodName) (⟨"java/lang/String", "charAt", "(I)C"⟩ : MethodName) ∈ mj_tb := mj_hit_ok (p := 5170) (by decide +kernel)
theorem sw_chr_c : Cond.code (⟨"java/lang/String", "charAt", "(I)C"⟩ : MethodName) prog_16_method_56_code 2 (some .char) ∈ mj_tb := mj_hit_ok (p := 5171) (by decide +kernel)
theorem sw_lat_l : Cond.methodLink "java/lang/String" 492 (⟨"java/lang/String", "isLatin1", "()Z"⟩ : MethodName) ∈ mj_tb := mj_hit_ok (p := 5172) (by decide +kernel)
theorem sw_lat_m : Cond.instanceMethod (⟨"java/lang/String", "isLatin1", "()Z"⟩ : MethodName) ∈ mj_tb := mj_hit_ok (p := 5173) (by decide +kernel)
theorem sw_lat_s : Cond.selects "java/lang/String" (⟨"java/lang/String", "isLatin1", "()Z"⟩ : MethodName) (⟨"java/lang/String", "isLatin1", "()Z"⟩ : MethodName) ∈ mj_tb := mj_hit_ok (p := 5174) (by decide +kernel)
theorem sw_lat_c : Cond.code (⟨"java/lang/String", "isLatin1", "()Z"⟩ : MethodName) prog_16_method_154_code 1 (some .boolean) ∈ mj_tb := mj_hit_ok (p := 5175) (by decide +kernel)
theorem sw_lch_l : Cond.methodLink "java/lang/String" 495 (⟨"java/lang/StringLatin1", "charAt", "([BI)C"⟩ : MethodName) ∈ mj_tb := mj_hit_ok (p := 5176) (by decide +kernel)
theorem sw_lch_t : Cond.static (⟨"java/lang/StringLatin1", "charAt", "([BI)C"⟩ : MethodName) ∈ mj_tb := mj_hit_ok (p := 5177) (by decide +kernel)
theorem sw_lch_c : Cond.code (⟨"java/lang/StringLatin1", "charAt", "([BI)C"⟩ : MethodName) prog_17_method_2_code 2 (some .char) ∈ mj_tb := mj_hit_ok (p := 5178) (by decide +kernel)
theorem sw_ci_l : Cond.methodLink "java/lang/StringLatin1" 9 (⟨"java/lang/String", "checkIndex", "(II)V"⟩ : MethodName) ∈ mj_tb := mj_hit_ok (p := 5179) (by decide +kernel)
theorem sw_ci_t : Cond.static (⟨"java/lang/String", "checkIndex", "(II)V"⟩ : MethodName) ∈ mj_tb := mj_hit_ok (p := 5180) (by decide +kernel)
theorem sw_ci_c : Cond.code (⟨"java/lang/String", "checkIndex", "(II)V"⟩ : MethodName) prog_16_method_155_code 2 none ∈ mj_tb := mj_hit_ok (p := 5181) (by decide +kernel)
theorem sw_sf_l : Cond.fieldLink "java/lang/String" 1053 "jdk/internal/util/Preconditions" "SIOOBE_FORMATTER" "Ljava/util/function/BiFunction;" ∈ mj_tb := mj_hit_ok (p := 5182) (by decide +kernel)
theorem sw_pci_l : Cond.methodLink "java/lang/String" 1059 (⟨"jdk/internal/util/Preconditions", "checkIndex", "(IILjava/util/function/BiFunction;)I"⟩ : MethodName) ∈ mj_tb := mj_hit_ok (p := 5184) (by decide +kernel)
theorem sw_pci_t : Cond.static (⟨"jdk/internal/util/Preconditions", "checkIndex", "(IILjava/util/function/BiFunction;)I"⟩ : MethodName) ∈ mj_tb := mj_hit_ok (p := 5185) (by decide +kernel)
theorem sw_pci_c : Cond.code (⟨"jdk/internal/util/Preconditions", "checkIndex", "(IILjava/util/function/BiFunction;)I"⟩ : MethodName) prog_21_method_11_code 3 (some .int) ∈ mj_tb := mj_hit_ok (p := 5186) (by decide +kernel)
theorem sw_val_l : Cond.fieldLink "java/lang/String" 9 "java/lang/String" "value" "[B" ∈ mj_tb := mj_hit_ok (p := 8117) (by decide +kernel)
theorem sw_cod_l : Cond.fieldLink "java/lang/String" 15 "java/lang/String" "coder" "B" ∈ mj_tb := mj_hit_ok (p := 8118) (by decide +kernel)
theorem sd_coder_0 : decode prog_16_method_152_code 0 = .ok (.getstatic 38, 3) := by decide +kernel
theorem sd_coder_3 : decode prog_16_method_152_code 3 = .ok (.ifCond .eq 10, 3) := by decide +kernel
theorem sd_coder_6 : decode prog_16_method_152_code 6 = .ok (.aload_n 0, 1) := by decide +kernel
theorem sd_coder_7 : decode prog_16_method_152_code 7 = .ok (.getfield 15, 3) := by decide +kernel
theorem sd_coder_10 : decode prog_16_method_152_code 10 = .ok (.goto 4, 3) := by decide +kernel
theorem sd_coder_14 : decode prog_16_method_152_code 14 = .ok (.ireturn, 1) := by decide +kernel
theorem sd_lat_0 : decode prog_16_method_154_code 0 = .ok (.getstatic 38, 3) := by decide +kernel
theorem sd_lat_3 : decode prog_16_method_154_code 3 = .ok (.ifCond .eq 14, 3) := by decide +kernel
theorem sd_lat_6 : decode prog_16_method_154_code 6 = .ok (.aload_n 0, 1) := by decide +kernel
theorem sd_lat_7 : decode prog_16_method_154_code 7 = .ok (.getfield 15, 3) := by decide +kernel
theorem sd_lat_10 : decode prog_16_method_154_code 10 = .ok (.ifCond .ne 7, 3) := by decide +kernel
theorem sd_lat_13 : decode prog_16_method_154_code 13 = .ok (.iconst 1, 1) := by decide +kernel
theorem sd_lat_14 : decode prog_16_method_154_code 14 = .ok (.goto 4, 3) := by decide +kernel
theorem sd_lat_18 : decode prog_16_method_154_code 18 = .ok (.ireturn, 1) := by decide +kernel
theorem sd_len_0 : decode prog_16_method_54_code 0 = .ok (.aload_n 0, 1) := by decide +kernel
theorem sd_len_1 : decode prog_16_method_54_code 1 = .ok (.getfield 9, 3) := by decide +kernel
theorem sd_len_4 : decode prog_16_method_54_code 4 = .ok (.arraylength, 1) := by decide +kernel
theorem sd_len_5 : decode prog_16_method_54_code 5 = .ok (.aload_n 0, 1) := by decide +kernel
theorem sd_len_6 : decode prog_16_method_54_code 6 = .ok (.invokevirtual 335, 3) := by decide +kernel
theorem sd_len_9 : decode prog_16_method_54_code 9 = .ok (.ishr, 1) := by decide +kernel
theorem sd_len_10 : decode prog_16_method_54_code 10 = .ok (.ireturn, 1) := by decide +kernel
theorem sd_pci_0 : decode prog_21_method_11_code 0 = .ok (.iload_n 0, 1) := by decide +kernel
theorem sd_pci_1 : decode prog_21_method_11_code 1 = .ok (.ifCond .lt 8, 3) := by decide +kernel
theorem sd_pci_4 : decode prog_21_method_11_code 4 = .ok (.iload_n 0, 1) := by decide +kernel
theorem sd_pci_5 : decode prog_21_method_11_code 5 = .ok (.iload_n 1, 1) := by decide +kernel
theorem sd_pci_6 : decode prog_21_method_11_code 6 = .ok (.if_icmp .lt 10, 3) := by decide +kernel
theorem sd_pci_16 : decode prog_21_method_11_code 16 = .ok (.iload_n 0, 1) := by decide +kernel
theorem sd_pci_17 : decode prog_21_method_11_code 17 = .ok (.ireturn, 1) := by decide +kernel
theorem sd_ci_0 : decode prog_16_method_155_code 0 = .ok (.iload_n 0, 1) := by decide +kernel
theorem sd_ci_1 : decode prog_16_method_155_code 1 = .ok (.iload_n 1, 1) := by decide +kernel
theorem sd_ci_2 : decode prog_16_method_155_code 2 = .ok (.getstatic 1053, 3) := by decide +kernel
theorem sd_ci_5 : decode prog_16_method_155_code 5 = .ok (.invokestatic 1059, 3) := by decide +kernel
theorem sd_ci_8 : decode prog_16_method_155_code 8 = .ok (.pop, 1) := by decide +kernel
theorem sd_ci_9 : decode prog_16_method_155_code 9 = .ok (.return_, 1) := by decide +kernel
theorem sd_lch_0 : decode prog_17_method_2_code 0 = .ok (.iload_n 1, 1) := by decide +kernel
theorem sd_lch_1 : decode prog_17_method_2_code 1 = .ok (.aload_n 0, 1) := by decide +kernel
theorem sd_lch_2 : decode prog_17_method_2_code 2 = .ok (.arraylength, 1) := by decide +kernel
theorem sd_lch_3 : decode prog_17_method_2_code 3 = .ok (.invokestatic 9, 3) := by decide +kernel
theorem sd_lch_6 : decode prog_17_method_2_code 6 = .ok (.aload_n 0, 1) := by decide +kernel
theorem sd_lch_7 : decode prog_17_method_2_code 7 = .ok (.iload_n 1, 1) := by decide +kernel
theorem sd_lch_8 : decode prog_17_method_2_code 8 = .ok (.baload, 1) := by decide +kernel
theorem sd_lch_9 : decode prog_17_method_2_code 9 = .ok (.sipush 255, 3) := by decide +kernel
theorem sd_lch_12 : decode prog_17_method_2_code 12 = .ok (.iand, 1) := by decide +kernel
theorem sd_lch_13 : decode prog_17_method_2_code 13 = .ok (.i2c, 1) := by decide +kernel
theorem sd_lch_14 : decode prog_17_method_2_code 14 = .ok (.ireturn, 1) := by decide +kernel
theorem sd_chr_0 : decode prog_16_method_56_code 0 = .ok (.aload_n 0, 1) := by decide +kernel
theorem sd_chr_1 : decode prog_16_method_56_code 1 = .ok (.invokevirtual 492, 3) := by decide +kernel
theorem sd_chr_4 : decode prog_16_method_56_code 4 = .ok (.ifCond .eq 12, 3) := by decide +kernel
theorem sd_chr_7 : decode prog_16_method_56_code 7 = .ok (.aload_n 0, 1) := by decide +kernel
theorem sd_chr_8 : decode prog_16_method_56_code 8 = .ok (.getfield 9, 3) := by decide +kernel
theorem sd_chr_11 : decode prog_16_method_56_code 11 = .ok (.iload_n 1, 1) := by decide +kernel
theorem sd_chr_12 : decode prog_16_method_56_code 12 = .ok (.invokestatic 495, 3) := by decide +kernel
theorem sd_chr_15 : decode prog_16_method_56_code 15 = .ok (.ireturn, 1) := by decide +kernel
section str2
variable {l : Launch} {X : mj_Cx} {i : Nat}
theorem so_coder (hi : i < 4) : Met l (⟨"java/lang/String", "coder", "()B"⟩ : MethodName) ((Cond.code (⟨"java/lang/String", "coder", "()B"⟩ : MethodName) prog_16_method_152_code 1 (some .byte)) :: mj_tb) (so_rm 1) (so_Pc X [.ref (mj_ax X (9010 + i))]) (so_Qc (some (.int 0))) 0 0 so_no := by
  refine Met.ofW (cc := prog_16_method_152_code) (maxL := 1) (ret := (some .byte)) (by decide +kernel) rfl ?_
  intro p e s m args below meth c s₁ B hml hv
  obtain ⟨rfl, hsf⟩ := hv
  have hts := atoms_spec (ws := (Cond.code (⟨"java/lang/String", "coder", "()B"⟩ : MethodName) prog_16_method_152_code 1 (some .byte)) :: mj_tb) B.pre
  have ht : ∀ w ∈ mj_tb, w.before _ s = true := fun w hw => hts w (List.mem_cons_of_mem _ hw)
  have hown : s.vm.findClass "java/lang/String" = some m.cls := findClass_of_methodNamed B.named
  have hlocks := B.notSynchronized
  have hr := B.returns
  obtain ⟨adV, hS, hZ, hZ2⟩ := id hsf.2.2.2.2.2.2.2.2
  have F : CallFix p m c prog_16_method_152_code 1 s _ mj_tb "java/lang/String" := ⟨B.exec, B.bytes, hml, hown, ht⟩
  have hc : va_OF "java/lang/String" "coder" "B" (.int 0) (mj_ax X (9010 + i)) (mj_A X) s s.heap := (hS.1 i hi).2.1
  have hv : va_OF "java/lang/String" "value" "[B" (.ref (adV i)) (mj_ax X (9010 + i)) (mj_A X) s s.heap := (hS.1 i hi).2.2.1
  have hT := (hS.1 i hi).2.2.2
  refine so_ent _ 1 (Nat.le_refl 1) (fun ls hsz hl => ?_)
  have h0 : ls[0]? = some (.val (.ref (mj_ax X (9010 + i)))) := hl (0, _) List.mem_cons_self
  refine va_gets B.exec B.bytes hZ va_S.rf hown (ht _ sw_cs_l) (fun _ h => h) sd_coder_0 ?_
  refine lv_if_eq B.exec B.bytes sd_coder_3 (tgt := 13) rfl (fun h => absurd h (by decide)) (fun _ => ?_)
  refine lv_aload_n B.exec B.bytes sd_coder_6 rfl h0 ?_
  refine vk_getf B.exec B.bytes hc va_S.rf hown (ht _ sw_cod_l) (fun _ h => h) sd_coder_7 ?_
  refine lv_goto B.exec B.bytes sd_coder_10 (tgt := 14) rfl ?_
  exact W.zret (ty := .byte) B.exec B.bytes hr rfl (fun t ht' _ => ⟨rfl, ht'⟩) (fun q h => by cases h) sd_coder_14
theorem so_lat (hi : i < 4) : Met l (⟨"java/lang/String", "isLatin1", "()Z"⟩ : MethodName) ((Cond.code (⟨"java/lang/String", "isLatin1", "()Z"⟩ : MethodName) prog_16_method_154_code 1 (some .boolean)) :: mj_tb) (so_rm 1) (so_Pc X [.ref (mj_ax X (9010 + i))]) (so_Qc (some (.int 1))) 0 0 so_no := by
  refine Met.ofW (cc := prog_16_method_154_code) (maxL := 1) (ret := (some .boolean)) (by decide +kernel) rfl ?_
  intro p e s m args below meth c s₁ B hml hv
  obtain ⟨rfl, hsf⟩ := hv
  have hts := atoms_spec (ws := (Cond.code (⟨"java/lang/String", "isLatin1", "()Z"⟩ : MethodName) prog_16_method_154_code 1 (some .boolean)) :: mj_tb) B.pre
  have ht : ∀ w ∈ mj_tb, w.before _ s = true := fun w hw => hts w (List.mem_cons_of_mem _ hw)
  have hown : s.vm.findClass "java/lang/String" = some m.cls := findClass_of_methodNamed B.named
  have hlocks := B.notSynchronized
  have hr := B.returns
  obtain ⟨adV, hS, hZ, hZ2⟩ := id hsf.2.2.2.2.2.2.2.2
  have F : CallFix p m c prog_16_method_154_code 1 s _ mj_tb "java/lang/String" := ⟨B.exec, B.bytes, hml, hown, ht⟩
  have hc : va_OF "java/lang/String" "coder" "B" (.int 0) (mj_ax X (9010 + i)) (mj_A X) s s.heap := (hS.1 i hi).2.1
  have hv : va_OF "java/lang/String" "value" "[B" (.ref (adV i)) (mj_ax X (9010 + i)) (mj_A X) s s.heap := (hS.1 i hi).2.2.1
  have hT := (hS.1 i hi).2.2.2
  refine so_ent _ 1 (Nat.le_refl 1) (fun ls hsz hl => ?_)
  have h0 : ls[0]? = some (.val (.ref (mj_ax X (9010 + i)))) := hl (0, _) List.mem_cons_self
  refine va_gets B.exec B.bytes hZ va_S.rf hown (ht _ sw_cs_l) (fun _ h => h) sd_lat_0 ?_
  refine lv_if_eq B.exec B.bytes sd_lat_3 (tgt := 17) rfl (fun h => absurd h (by decide)) (fun _ => ?_)
  refine lv_aload_n B.exec B.bytes sd_lat_6 rfl h0 ?_
  refine vk_getf B.exec B.bytes hc va_S.rf hown (ht _ sw_cod_l) (fun _ h => h) sd_lat_7 ?_
  refine lv_if_ne B.exec B.bytes sd_lat_10 (tgt := 17) rfl (fun h => absurd rfl h) (fun _ => ?_)
  refine lv_iconst B.exec B.bytes sd_lat_13 (v := 1) rfl ?_
  refine lv_goto B.exec B.bytes sd_lat_14 (tgt := 18) rfl ?_
  exact W.zret (ty := .boolean) B.exec B.bytes hr (by decide) (fun t ht' _ => ⟨rfl, ht'⟩) (fun q h => by cases h) sd_lat_18
theorem so_sh0 : ∀ i, i < 4 → Int32.ofNat (mj_slen.getD i 0) >>> ((0 : Int32) &&& 31) = Int32.ofNat (mj_slen.getD i 0) := by decide
theorem so_len (hi : i < 4) : Met l (⟨"java/lang/String", "length", "()I"⟩ : MethodName) ((Cond.code (⟨"java/lang/String", "length", "()I"⟩ : MethodName) prog_16_method_54_code 1 (some .int)) :: mj_tb) (so_rm 2) (so_Pc X [.ref (mj_ax X (9010 + i))]) (so_Qc (some (.int (Int32.ofNat (mj_slen.getD i 0))))) 0 0 so_no := by
  refine Met.ofW (cc := prog_16_method_54_code) (maxL := 1) (ret := (some .int)) (by decide +kernel) rfl ?_
  intro p e s m args below meth c s₁ B hml hv
  obtain ⟨rfl, hsf⟩ := hv
  have hts := atoms_spec (ws := (Cond.code (⟨"java/lang/String", "length", "()I"⟩ : MethodName) prog_16_method_54_code 1 (some .int)) :: mj_tb) B.pre
  have ht : ∀ w ∈ mj_tb, w.before _ s = true := fun w hw => hts w (List.mem_cons_of_mem _ hw)
  have hown : s.vm.findClass "java/lang/String" = some m.cls := findClass_of_methodNamed B.named
  have hlocks := B.notSynchronized
  have hr := B.returns
  obtain ⟨adV, hS, hZ, hZ2⟩ := id hsf.2.2.2.2.2.2.2.2
  have F : CallFix p m c prog_16_method_54_code 1 s _ mj_tb "java/lang/String" := ⟨B.exec, B.bytes, hml, hown, ht⟩
  have hc : va_OF "java/lang/String" "coder" "B" (.int 0) (mj_ax X (9010 + i)) (mj_A X) s s.heap := (hS.1 i hi).2.1
  have hv : va_OF "java/lang/String" "value" "[B" (.ref (adV i)) (mj_ax X (9010 + i)) (mj_A X) s s.heap := (hS.1 i hi).2.2.1
  have hT := (hS.1 i hi).2.2.2
  refine so_ent _ 1 (Nat.le_refl 1) (fun ls hsz hl => ?_)
  have h0 : ls[0]? = some (.val (.ref (mj_ax X (9010 + i)))) := hl (0, _) List.mem_cons_self
  refine lv_aload_n B.exec B.bytes sd_len_0 rfl h0 ?_
  refine vk_getf B.exec B.bytes hv va_S.rf hown (ht _ sw_val_l) (fun _ h => h) sd_len_1 ?_
  refine va_tlen B.exec B.bytes hT va_S.rf rfl sd_len_4 ?_
  refine lv_aload_n B.exec B.bytes sd_len_5 rfl h0 ?_
  refine so_run (va_runV (As := []) (rest := [.int (Int32.ofNat (mj_slen.getD i 0))]) F (so_coder hi) (cwV 0 ht (so_gV sw_coder_l sw_coder_m sw_coder_s sw_iS sw_coder_c) rfl rfl rfl ⟨rfl, by decide, by decide, by decide +kernel⟩ ⟨Nat.le_refl 2, by show 8 + (1 + 11) + 32 * 1 ≤ 32 * 2; omega⟩)
    ⟨so_Pc_blind, vk_recv hS hi va_S.rf, fun U hU hW => ⟨rfl, mj_sf_mv_q hsf hW (fun a h1 h2 => by rw [hU])⟩⟩ rfl rfl hsz rfl (by show 2 * 0 + (1 + 0) ≤ 8; omega) sd_len_6 ⟨Nat.le_refl 0, Nat.le_refl 0⟩) ?_
  refine lv_ishr B.exec B.bytes sd_len_9 ?_
  rw [so_sh0 i hi]
  exact W.iret B.exec B.bytes hr (fun t ht' _ => ⟨rfl, ht'⟩) (fun q h => by cases h) sd_len_10

theorem so_pci {x n : Int32} {q : Value} (hq : q.category = 1) (h0 : ¬ x < 0) (h1 : x < n) : Met l (⟨"jdk/internal/util/Preconditions", "checkIndex", "(IILjava/util/function/BiFunction;)I"⟩ : MethodName) ((Cond.code (⟨"jdk/internal/util/Preconditions", "checkIndex", "(IILjava/util/function/BiFunction;)I"⟩ : MethodName) prog_21_method_11_code 3 (some .int)) :: mj_tb) (so_rm 1) (so_Pc X [.int x, .int n, q]) (so_Qc (some (.int x))) 0 0 so_no := by
  refine Met.ofW (cc := prog_21_method_11_code) (maxL := 3) (ret := (some .int)) (by decide +kernel) rfl ?_
  intro p e s m args below meth c s₁ B hml hv
  obtain ⟨rfl, hsf⟩ := hv
  have hts := atoms_spec (ws := (Cond.code (⟨"jdk/internal/util/Preconditions", "checkIndex", "(IILjava/util/function/BiFunction;)I"⟩ : MethodName) prog_21_method_11_code 3 (some .int)) :: mj_tb) B.pre
  have ht : ∀ w ∈ mj_tb, w.before _ s = true := fun w hw => hts w (List.mem_cons_of_mem _ hw)
  have hown : s.vm.findClass "jdk/internal/util/Preconditions" = some m.cls := findClass_of_methodNamed B.named
  have hlocks := B.notSynchronized
  have hr := B.returns
  obtain ⟨adV, hS, hZ, hZ2⟩ := id hsf.2.2.2.2.2.2.2.2
  have F : CallFix p m c prog_21_method_11_code 3 s _ mj_tb "jdk/internal/util/Preconditions" := ⟨B.exec, B.bytes, hml, hown, ht⟩
  refine so_ent _ 3 (by cases q <;> first | exact Nat.le_refl 3 | exact absurd (show (2 : Nat) = 1 from hq) (by decide)) (fun ls hsz hl => ?_)
  have l0 : ls[0]? = some (.val (.int x)) := hl (0, _) List.mem_cons_self
  have l1 : ls[1]? = some (.val (.int n)) := hl (1, _) (List.mem_cons_of_mem _ List.mem_cons_self)
  refine lv_iload_n B.exec B.bytes sd_pci_0 rfl l0 ?_
  refine lv_if_lt B.exec B.bytes sd_pci_1 (tgt := 9) rfl (fun h => absurd h h0) (fun _ => ?_)
  refine lv_iload_n B.exec B.bytes sd_pci_4 rfl l0 ?_
  refine lv_iload_n B.exec B.bytes sd_pci_5 rfl l1 ?_
  refine lv_icmp_lt B.exec B.bytes sd_pci_6 (tgt := 16) rfl (fun _ => ?_) (fun h => absurd h1 h)
  refine lv_iload_n B.exec B.bytes sd_pci_16 rfl l0 ?_
  exact W.iret B.exec B.bytes hr (fun t ht' _ => ⟨rfl, ht'⟩) (fun q h => by cases h) sd_pci_17
theorem so_ci {x n : Int32} (h0 : ¬ x < 0) (h1 : x < n) : Met l (⟨"java/lang/String", "checkIndex", "(II)V"⟩ : MethodName) ((Cond.code (⟨"java/lang/String", "checkIndex", "(II)V"⟩ : MethodName) prog_16_method_155_code 2 none) :: mj_tb) (so_rm 2) (so_Pc X [.int x, .int n]) (so_Qc none) 0 0 so_no := by
  refine Met.ofW (cc := prog_16_method_155_code) (maxL := 2) (ret := none) (by decide +kernel) rfl ?_
  intro p e s m args below meth c s₁ B hml hv
  obtain ⟨rfl, hsf⟩ := hv
  have hts := atoms_spec (ws := (Cond.code (⟨"java/lang/String", "checkIndex", "(II)V"⟩ : MethodName) prog_16_method_155_code 2 none) :: mj_tb) B.pre
  have ht : ∀ w ∈ mj_tb, w.before _ s = true := fun w hw => hts w (List.mem_cons_of_mem _ hw)
  have hown : s.vm.findClass "java/lang/String" = some m.cls := findClass_of_methodNamed B.named
  have hlocks := B.notSynchronized
  have hr := B.returns
  obtain ⟨adV, hS, hZ, hZ2⟩ := id hsf.2.2.2.2.2.2.2.2
  have F : CallFix p m c prog_16_method_155_code 2 s _ mj_tb "java/lang/String" := ⟨B.exec, B.bytes, hml, hown, ht⟩
  refine so_ent _ 2 (Nat.le_refl 2) (fun ls hsz hl => ?_)
  have l0 : ls[0]? = some (.val (.int x)) := hl (0, _) List.mem_cons_self
  have l1 : ls[1]? = some (.val (.int n)) := hl (1, _) (List.mem_cons_of_mem _ List.mem_cons_self)
  refine lv_iload_n B.exec B.bytes sd_ci_0 rfl l0 ?_
  refine lv_iload_n B.exec B.bytes sd_ci_1 rfl l1 ?_
  obtain ⟨q0, hq0, hZ3⟩ : ∃ v : Value, v.category = 1 ∧ va_Z "jdk/internal/util/Preconditions" "SIOOBE_FORMATTER" "Ljava/util/function/BiFunction;" v (mj_A X) s s.heap := by
    rcases hZ2 with h | ⟨t, h⟩
    · exact ⟨.null, rfl, h⟩
    · exact ⟨.ref t, rfl, h⟩
  refine va_gets B.exec B.bytes hZ3 va_S.rf hown (ht _ sw_sf_l) (fun _ h => h) sd_ci_2 ?_
  refine so_run (va_runS (As := [.int x, .int n, q0]) (rest := []) F (so_pci hq0 h0 h1) (va_cwS 3 ht (so_gS sw_pci_l sw_pci_t sw_iP sw_pci_c) rfl rfl rfl ⟨by decide, by decide, by decide +kernel⟩ ⟨Nat.le_refl 2, by show 8 + (3 + 11) + 32 * 1 ≤ 32 * 2; omega⟩)
    ⟨so_Pc_blind, fun U hU hW => ⟨rfl, mj_sf_mv_q hsf hW (fun a h1 h2 => by rw [hU])⟩⟩ rfl rfl hsz rfl (by show 2 * 0 + 0 ≤ 8; omega) sd_ci_5 ⟨Nat.le_refl 0, Nat.le_refl 0⟩) ?_
  refine lv_pop B.exec B.bytes sd_ci_8 rfl ?_
  exact W.vret B.exec B.bytes hr (fun t ht' _ => ⟨rfl, ht'⟩) (fun q h => by cases h) sd_ci_9
def so_ch (i j : Nat) : Int32 := Int32.ofInt ((mj_schr.getD i []).getD j 0)
theorem so_ch_e : ∀ i, i < 4 → ∀ j, j < mj_slen.getD i 0 → (((((mj_schr.map (fun q => q.map Int32.ofInt)).getD i []).getD j 0) &&& 255).toUInt32 % 65536).toInt32 = so_ch i j := by decide +kernel
theorem so_ch_n : ∀ i, i < 4 → ∀ j, j < mj_slen.getD i 0 → narrow .char (.int (so_ch i j)) = .int (so_ch i j) := by decide +kernel
theorem so_lch {x : Int32} {t : Nat} (hi : i < 4) (h0 : ¬ x < 0) (h1 : x < Int32.ofNat (mj_slen.getD i 0)) (hin : vp_in x (mj_slen.getD i 0)) (hj : x.toNatClampNeg < mj_slen.getD i 0) : Met l (⟨"java/lang/StringLatin1", "charAt", "([BI)C"⟩ : MethodName) ((Cond.code (⟨"java/lang/StringLatin1", "charAt", "([BI)C"⟩ : MethodName) prog_17_method_2_code 2 (some .char)) :: mj_tb) (so_rm 3) (so_Pt X [.ref t, .int x] t (mj_slen.getD i 0) (fun j => .int (((mj_schr.map (fun q => q.map Int32.ofInt)).getD i []).getD j 0))) (so_Qc (some (.int (so_ch i x.toNatClampNeg)))) 0 0 so_no := by
  refine Met.ofW (cc := prog_17_method_2_code) (maxL := 2) (ret := (some .char)) (by decide +kernel) rfl ?_
  intro p e s m args below meth c s₁ B hml hv
  obtain ⟨rfl, hsf, hT⟩ := hv
  have hts := atoms_spec (ws := (Cond.code (⟨"java/lang/StringLatin1", "charAt", "([BI)C"⟩ : MethodName) prog_17_method_2_code 2 (some .char)) :: mj_tb) B.pre
  have ht : ∀ w ∈ mj_tb, w.before _ s = true := fun w hw => hts w (List.mem_cons_of_mem _ hw)
  have hown : s.vm.findClass "java/lang/StringLatin1" = some m.cls := findClass_of_methodNamed B.named
  have hlocks := B.notSynchronized
  have hr := B.returns
  obtain ⟨adV, hS, hZ, hZ2⟩ := id hsf.2.2.2.2.2.2.2.2
  have F : CallFix p m c prog_17_method_2_code 2 s _ mj_tb "java/lang/StringLatin1" := ⟨B.exec, B.bytes, hml, hown, ht⟩
  refine so_ent _ 2 (Nat.le_refl 2) (fun ls hsz hl => ?_)
  have l0 : ls[0]? = some (.val (.ref t)) := hl (0, _) List.mem_cons_self
  have l1 : ls[1]? = some (.val (.int x)) := hl (1, _) (List.mem_cons_of_mem _ List.mem_cons_self)
  refine lv_iload_n B.exec B.bytes sd_lch_0 rfl l1 ?_
  refine lv_aload_n B.exec B.bytes sd_lch_1 rfl l0 ?_
  refine va_tlen B.exec B.bytes hT va_S.rf rfl sd_lch_2 ?_
  refine so_run (va_runS (As := [.int x, .int (Int32.ofNat (mj_slen.getD i 0))]) (rest := []) F (so_ci h0 h1) (va_cwS 2 ht (so_gS sw_ci_l sw_ci_t sw_iS sw_ci_c) rfl rfl rfl ⟨by decide, by decide, by decide +kernel⟩ ⟨Nat.le_refl 3, by show 8 + (2 + 11) + 32 * 2 ≤ 32 * 3; omega⟩)
    ⟨so_Pc_blind, fun U hU hW => ⟨rfl, mj_sf_mv_q hsf hW (fun a h1 h2 => by rw [hU])⟩⟩ rfl rfl hsz rfl (by show 2 * 0 + 0 ≤ 8; omega) sd_lch_3 ⟨Nat.le_refl 0, Nat.le_refl 0⟩) ?_
  refine lv_aload_n B.exec B.bytes sd_lch_6 rfl l0 ?_
  refine lv_iload_n B.exec B.bytes sd_lch_7 rfl l1 ?_
  refine va_tb B.exec B.bytes hT va_S.rf hin rfl sd_lch_8 ?_
  refine lv_sipush B.exec B.bytes sd_lch_9 (v := 255) (by decide) ?_
  refine lv_iand B.exec B.bytes sd_lch_12 ?_
  refine lv_i2c B.exec B.bytes sd_lch_13 (so_ch_e i hi _ hj) ?_
  exact W.zret (ty := .char) B.exec B.bytes hr (so_ch_n i hi _ hj) (fun t ht' _ => ⟨rfl, ht'⟩) (fun q h => by cases h) sd_lch_14
theorem so_chr {x : Int32} (hi : i < 4) (h0 : ¬ x < 0) (h1 : x < Int32.ofNat (mj_slen.getD i 0)) (hin : vp_in x (mj_slen.getD i 0)) (hj : x.toNatClampNeg < mj_slen.getD i 0) : Met l (⟨"java/lang/String", "charAt", "(I)C"⟩ : MethodName) ((Cond.code (⟨"java/lang/String", "charAt", "(I)C"⟩ : MethodName) prog_16_method_56_code 2 (some .char)) :: mj_tb) (so_rm 4) (so_Pc X [.ref (mj_ax X (9010 + i)), .int x]) (so_Qc (some (.int (so_ch i x.toNatClampNeg)))) 0 0 so_no := by
  refine Met.ofW (cc := prog_16_method_56_code) (maxL := 2) (ret := (some .char)) (by decide +kernel) rfl ?_
  intro p e s m args below meth c s₁ B hml hv
  obtain ⟨rfl, hsf⟩ := hv
  have hts := atoms_spec (ws := (Cond.code (⟨"java/lang/String", "charAt", "(I)C"⟩ : MethodName) prog_16_method_56_code 2 (some .char)) :: mj_tb) B.pre
  have ht : ∀ w ∈ mj_tb, w.before _ s = true := fun w hw => hts w (List.mem_cons_of_mem _ hw)
  have hown : s.vm.findClass "java/lang/String" = some m.cls := findClass_of_methodNamed B.named
  have hlocks := B.notSynchronized
  have hr := B.returns
  obtain ⟨adV, hS, hZ, hZ2⟩ := id hsf.2.2.2.2.2.2.2.2
  have F : CallFix p m c prog_16_method_56_code 2 s _ mj_tb "java/lang/String" := ⟨B.exec, B.bytes, hml, hown, ht⟩
  have hc : va_OF "java/lang/String" "coder" "B" (.int 0) (mj_ax X (9010 + i)) (mj_A X) s s.heap := (hS.1 i hi).2.1
  have hv : va_OF "java/lang/String" "value" "[B" (.ref (adV i)) (mj_ax X (9010 + i)) (mj_A X) s s.heap := (hS.1 i hi).2.2.1
  have hT := (hS.1 i hi).2.2.2
  refine so_ent _ 2 (Nat.le_refl 2) (fun ls hsz hl => ?_)
  have l0 : ls[0]? = some (.val (.ref (mj_ax X (9010 + i)))) := hl (0, _) List.mem_cons_self
  have l1 : ls[1]? = some (.val (.int x)) := hl (1, _) (List.mem_cons_of_mem _ List.mem_cons_self)
  refine lv_aload_n B.exec B.bytes sd_chr_0 rfl l0 ?_
  refine so_run (va_runV (As := []) (rest := []) F (so_lat hi) (cwV 0 ht (so_gV sw_lat_l sw_lat_m sw_lat_s sw_iS sw_lat_c) rfl rfl rfl ⟨rfl, by decide, by decide, by decide +kernel⟩ ⟨show 1 + 1 ≤ 4 by omega, by show 8 + (1 + 11) + 32 * 1 ≤ 32 * 4; omega⟩)
    ⟨so_Pc_blind, vk_recv hS hi va_S.rf, fun U hU hW => ⟨rfl, mj_sf_mv_q hsf hW (fun a h1 h2 => by rw [hU])⟩⟩ rfl rfl hsz rfl (by show 2 * 0 + 0 ≤ 8; omega) sd_chr_1 ⟨Nat.le_refl 0, Nat.le_refl 0⟩) ?_
  refine lv_if_eq B.exec B.bytes sd_chr_4 (tgt := 16) rfl (fun h => absurd h (by decide)) (fun _ => ?_)
  refine lv_aload_n B.exec B.bytes sd_chr_7 rfl l0 ?_
  refine vk_getf B.exec B.bytes hv va_S.rf hown (ht _ sw_val_l) (fun _ h => h) sd_chr_8 ?_
  refine lv_iload_n B.exec B.bytes sd_chr_11 rfl l1 ?_
  refine so_run (va_runS (As := [.ref (adV i), .int x]) (rest := []) F (so_lch hi h0 h1 hin hj) (va_cwS 2 ht (so_gS sw_lch_l sw_lch_t sw_iL sw_lch_c) rfl rfl rfl ⟨by decide, by decide, by decide +kernel⟩ ⟨Nat.le_refl 4, by show 8 + (2 + 11) + 32 * 3 ≤ 32 * 4; omega⟩)
    ⟨so_Pt_blind, fun U hU hW => ⟨rfl, mj_sf_mv_q hsf hW (fun a h1 h2 => by rw [hU]), by rw [hU]; exact hT.moved hW.alike⟩⟩ rfl rfl hsz rfl (by show 2 * 0 + 0 ≤ 8; omega) sd_chr_12 ⟨Nat.le_refl 0, Nat.le_refl 0⟩) ?_
  exact W.zret (ty := .char) B.exec B.bytes hr (so_ch_n i hi _ hj) (fun t ht' _ => ⟨rfl, ht'⟩) (fun q h => by cases h) sd_chr_15
end str2
theorem so_ad {X : mj_Cx} {i : Nat} : mj_ad X (9010 + i) = mj_ax X (9010 + i) := if_neg (by omega)
theorem so_len_i {i : Nat} (hi : i < 4) : mj_slen.getD i 0 ≤ 5 := by
  have : ∀ i, i < 4 → mj_slen.getD i 0 ≤ 5 := by decide
  exact this i hi
theorem so_slen : so_slenP_q := by
  intro p l e R s m args below meth c Q X n0 s0 cc pc idx a L st G M own hx hb hts hown hsf hd hlink hL hR ha hst kk H locs ls hh
  obtain ⟨i, rfl, hi⟩ : ∃ i, a = 9010 + i ∧ i < 4 := ⟨a - 9010, by omega, by omega⟩
  obtain ⟨adV, hS, hZ, hZ2⟩ := id hsf.2.2.2.2.2.2.2.2
  have h5 := so_len_i hi
  rw [show 9010 + i - 9010 = i by omega] at kk
  have k2 := kk H locs ls (mj_h_push (mj_h_pop hh) (show mj_i32 ((mj_slen.getD i 0 : Nat) : Int) by unfold mj_i32; omega))
  have hcat := mj_catw (X := X) st
  have hcb : CallB R s args own idx mj_SL prog_16_method_54_code 1 (some .int) ((Cond.code (⟨"java/lang/String", "length", "()I"⟩ : MethodName) prog_16_method_54_code 1 (some .int)) :: mj_tb) (so_rm 2) 0 0 0 := callB_of 0 hts (so_gd sw_len_c) rfl rfl rfl (hts _ sw_iS) hlink ⟨by decide, by decide, by decide +kernel⟩ ⟨show 2 + 1 ≤ R.frames by omega, show 8 + (1 + 11) + 32 * 2 ≤ R.locals by omega⟩
  have hsz : ls.size = c.maxLocals := by rw [hh.2.2.1.1]; exact hL
  show W p l e R s m args below meth c H locs (G.1 - n0) (G.2.1 - s0) Q (F0 m pc ls (.ref (mj_ad X (9010 + i)) :: st.map (mj_val X)))
  rw [so_ad]
  exact so_run (va_runV (As := []) (rest := st.map (mj_val X)) ⟨hx, hb, rfl, hown, hts⟩ (so_len hi) ⟨hcb, hts _ sw_len_m, hts _ sw_len_s⟩ ⟨so_Pc_blind, vk_recv hS hi hh.2.1, fun U hU hW => ⟨rfl, mj_sf_mv_q hsf hW (fun a h1 h2 => by rw [hU]; exact hh.2.1.2.1 a h1 h2)⟩⟩ rfl rfl hsz rfl (by show 2 * 0 + _ ≤ 8; omega) hd ⟨by omega, by omega⟩) k2
theorem so_schr : so_schrP_q := by
  intro p l e R s m args below meth c Q X n0 s0 cc pc idx a x L st G M own hx hb hts hown hsf hd hlink hL hR ha hi2 hst kk H locs ls hh
  obtain ⟨i, rfl, hi⟩ : ∃ i, a = 9010 + i ∧ i < 4 := ⟨a - 9010, by omega, by omega⟩
  obtain ⟨adV, hS, hZ, hZ2⟩ := id hsf.2.2.2.2.2.2.2.2
  have h5 := so_len_i hi
  rw [show 9010 + i - 9010 = i by omega] at kk hi2
  have x32 : mj_i32 x := by unfold mj_i32; omega
  have ex : (Int32.ofInt x).toNatClampNeg = x.toNat := mj_cl_ x32 hi2.1
  have n0' : ¬ Int32.ofInt x < 0 := by rw [mj_zero, mj_ltI x32 mj_z32]; omega
  have n1' : Int32.ofInt x < Int32.ofNat (mj_slen.getD i 0) := by
    rw [show Int32.ofNat (mj_slen.getD i 0) = Int32.ofInt ((mj_slen.getD i 0 : Nat) : Int) from rfl, mj_ltI x32 (by unfold mj_i32; omega)]; exact hi2.2
  have hin : vp_in (Int32.ofInt x) (mj_slen.getD i 0) := mj_ix x32 hi2
  have hj : (Int32.ofInt x).toNatClampNeg < mj_slen.getD i 0 := by rw [ex]; omega
  have hb32 : ∀ i, i < 4 → ∀ j, j < 5 → -2147483648 ≤ (mj_schr.getD i []).getD j 0 ∧ (mj_schr.getD i []).getD j 0 < 2147483648 := by decide
  have k2 := kk H locs ls (mj_h_push (mj_h_pop (mj_h_pop hh)) (show mj_i32 ((mj_schr.getD i []).getD x.toNat 0) from hb32 i hi _ (by omega)))
  have hcat := mj_catw (X := X) st
  have hcb : CallB R s args own idx mj_SC prog_16_method_56_code 2 (some .char) ((Cond.code (⟨"java/lang/String", "charAt", "(I)C"⟩ : MethodName) prog_16_method_56_code 2 (some .char)) :: mj_tb) (so_rm 4) 0 0 1 := callB_of 1 hts (so_gd sw_chr_c) rfl rfl rfl (hts _ sw_iS) hlink ⟨by decide, by decide, by decide +kernel⟩ ⟨show 4 + 1 ≤ R.frames by omega, show 8 + (2 + 11) + 32 * 4 ≤ R.locals by omega⟩
  have hsz : ls.size = c.maxLocals := by rw [hh.2.2.1.1]; exact hL
  show W p l e R s m args below meth c H locs (G.1 - n0) (G.2.1 - s0) Q (F0 m pc ls (.int (Int32.ofInt x) :: .ref (mj_ad X (9010 + i)) :: st.map (mj_val X)))
  rw [so_ad]
  have e3 : Value.int (so_ch i (Int32.ofInt x).toNatClampNeg) = mj_val X (.inl ((mj_schr.getD i []).getD x.toNat 0)) := by rw [ex]; rfl
  refine so_run (va_runV (As := [.int (Int32.ofInt x)]) (rest := st.map (mj_val X)) ⟨hx, hb, rfl, hown, hts⟩ (so_chr hi n0' n1' hin hj) ⟨hcb, hts _ sw_chr_m, hts _ sw_chr_s⟩ ⟨so_Pc_blind, vk_recv hS hi hh.2.1, fun U hU hW => ⟨rfl, mj_sf_mv_q hsf hW (fun a h1 h2 => by rw [hU]; exact hh.2.1.2.1 a h1 h2)⟩⟩ rfl rfl hsz rfl (by show 2 * 0 + _ ≤ 8; omega) hd ⟨by omega, by omega⟩) ?_
  rw [e3]
  exact k2

