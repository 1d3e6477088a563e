abbrev j_len : VM := (⟨"java/lang/String", "length", "()I"⟩, prog_12_method_54_code, 1, (some .int))
abbrev j_cod : VM := (⟨"java/lang/String", "coder", "()B"⟩, prog_12_method_152_code, 1, (some .byte))
abbrev j_cha : VM := (⟨"java/lang/String", "charAt", "(I)C"⟩, prog_12_method_56_code, 2, (some .char))
abbrev j_lat : VM := (⟨"java/lang/String", "isLatin1", "()Z"⟩, prog_12_method_154_code, 1, (some .boolean))
abbrev j_cl1 : VM := (⟨"java/lang/StringLatin1", "charAt", "([BI)C"⟩, prog_13_method_2_code, 2, (some .char))
abbrev j_chk : VM := (⟨"java/lang/String", "checkIndex", "(II)V"⟩, prog_12_method_155_code, 2, none)
abbrev j_pre : VM := (⟨"jdk/internal/util/Preconditions", "checkIndex", "(IILjava/util/function/BiFunction;)I"⟩, prog_16_method_11_code, 3, (some .int))
theorem w91_219 : Cond.code ⟨"java/lang/String", "length", "()I"⟩ prog_12_method_54_code 1 (some .int) ∈ vtS := vtm 219 (by decide +kernel) (by decide +kernel)
theorem w91_49 : Cond.initialized "java/lang/String" ∈ vtS := vtm 49 (by decide +kernel) (by decide +kernel)
theorem vj_len : vcM j_len 0 := ⟨w91_219, w91_49, by decide, by decide +kernel⟩
theorem w91_223 : Cond.code ⟨"java/lang/String", "coder", "()B"⟩ prog_12_method_152_code 1 (some .byte) ∈ vtS := vtm 223 (by decide +kernel) (by decide +kernel)
theorem vj_cod : vcM j_cod 0 := ⟨w91_223, w91_49, by decide, by decide +kernel⟩
theorem w91_229 : Cond.code ⟨"java/lang/String", "charAt", "(I)C"⟩ prog_12_method_56_code 2 (some .char) ∈ vtS := vtm 229 (by decide +kernel) (by decide +kernel)
theorem vj_cha : vcM j_cha 1 := ⟨w91_229, w91_49, by decide, by decide +kernel⟩
theorem w91_233 : Cond.code ⟨"java/lang/String", "isLatin1", "()Z"⟩ prog_12_method_154_code 1 (some .boolean) ∈ vtS := vtm 233 (by decide +kernel) (by decide +kernel)
theorem vj_lat : vcM j_lat 0 := ⟨w91_233, w91_49, by decide, by decide +kernel⟩
theorem w91_236 : Cond.code ⟨"java/lang/StringLatin1", "charAt", "([BI)C"⟩ prog_13_method_2_code 2 (some .char) ∈ vtS := vtm 236 (by decide +kernel) (by decide +kernel)
theorem w91_50 : Cond.initialized "java/lang/StringLatin1" ∈ vtS := vtm 50 (by decide +kernel) (by decide +kernel)
theorem vj_cl1 : vcM j_cl1 2 := ⟨w91_236, w91_50, by decide, by decide +kernel⟩
theorem w91_239 : Cond.code ⟨"java/lang/String", "checkIndex", "(II)V"⟩ prog_12_method_155_code 2 none ∈ vtS := vtm 239 (by decide +kernel) (by decide +kernel)
theorem vj_chk : vcM j_chk 2 := ⟨w91_239, w91_49, by decide, by decide +kernel⟩
theorem w91_244 : Cond.code ⟨"jdk/internal/util/Preconditions", "checkIndex", "(IILjava/util/function/BiFunction;)I"⟩ prog_16_method_11_code 3 (some .int) ∈ vtS := vtm 244 (by decide +kernel) (by decide +kernel)
theorem w91_51 : Cond.initialized "jdk/internal/util/Preconditions" ∈ vtS := vtm 51 (by decide +kernel) (by decide +kernel)
theorem vj_pre : vcM j_pre 3 := ⟨w91_244, w91_51, by decide, by decide +kernel⟩
theorem w91_217 : Cond.instanceMethod ⟨"java/lang/String", "length", "()I"⟩ ∈ vtS := vtm 217 (by decide +kernel) (by decide +kernel)
theorem w91_218 : Cond.selects "java/lang/String" ⟨"java/lang/String", "length", "()I"⟩ ⟨"java/lang/String", "length", "()I"⟩ ∈ vtS := vtm 218 (by decide +kernel) (by decide +kernel)
theorem cj_71 : vcV "HeartVanes" 71 j_len 0 := ⟨vj_len, w9_216, w91_217, w91_218⟩
theorem w91_227 : Cond.instanceMethod ⟨"java/lang/String", "charAt", "(I)C"⟩ ∈ vtS := vtm 227 (by decide +kernel) (by decide +kernel)
theorem w91_228 : Cond.selects "java/lang/String" ⟨"java/lang/String", "charAt", "(I)C"⟩ ⟨"java/lang/String", "charAt", "(I)C"⟩ ∈ vtS := vtm 228 (by decide +kernel) (by decide +kernel)
theorem cj_77 : vcV "HeartVanes" 77 j_cha 1 := ⟨vj_cha, w9_226, w91_227, w91_228⟩
theorem w91_220 : Cond.methodLink "java/lang/String" 335 ⟨"java/lang/String", "coder", "()B"⟩ ∈ vtS := vtm 220 (by decide +kernel) (by decide +kernel)
theorem w91_221 : Cond.instanceMethod ⟨"java/lang/String", "coder", "()B"⟩ ∈ vtS := vtm 221 (by decide +kernel) (by decide +kernel)
theorem w91_222 : Cond.selects "java/lang/String" ⟨"java/lang/String", "coder", "()B"⟩ ⟨"java/lang/String", "coder", "()B"⟩ ∈ vtS := vtm 222 (by decide +kernel) (by decide +kernel)
theorem cj_335 : vcV "java/lang/String" 335 j_cod 0 := ⟨vj_cod, w91_220, w91_221, w91_222⟩
theorem w91_230 : Cond.methodLink "java/lang/String" 492 ⟨"java/lang/String", "isLatin1", "()Z"⟩ ∈ vtS := vtm 230 (by decide +kernel) (by decide +kernel)
theorem w91_231 : Cond.instanceMethod ⟨"java/lang/String", "isLatin1", "()Z"⟩ ∈ vtS := vtm 231 (by decide +kernel) (by decide +kernel)
theorem w91_232 : Cond.selects "java/lang/String" ⟨"java/lang/String", "isLatin1", "()Z"⟩ ⟨"java/lang/String", "isLatin1", "()Z"⟩ ∈ vtS := vtm 232 (by decide +kernel) (by decide +kernel)
theorem cj_492 : vcV "java/lang/String" 492 j_lat 0 := ⟨vj_lat, w91_230, w91_231, w91_232⟩
theorem w91_234 : Cond.methodLink "java/lang/String" 495 ⟨"java/lang/StringLatin1", "charAt", "([BI)C"⟩ ∈ vtS := vtm 234 (by decide +kernel) (by decide +kernel)
theorem w91_235 : Cond.static ⟨"java/lang/StringLatin1", "charAt", "([BI)C"⟩ ∈ vtS := vtm 235 (by decide +kernel) (by decide +kernel)
theorem cj_495 : vcS "java/lang/String" 495 j_cl1 2 := ⟨vj_cl1, Or.inl w91_234, w91_235⟩
theorem w91_237 : Cond.methodLink "java/lang/StringLatin1" 9 ⟨"java/lang/String", "checkIndex", "(II)V"⟩ ∈ vtS := vtm 237 (by decide +kernel) (by decide +kernel)
theorem w91_238 : Cond.static ⟨"java/lang/String", "checkIndex", "(II)V"⟩ ∈ vtS := vtm 238 (by decide +kernel) (by decide +kernel)
theorem cj_9 : vcS "java/lang/StringLatin1" 9 j_chk 2 := ⟨vj_chk, Or.inl w91_237, w91_238⟩
theorem w91_242 : Cond.methodLink "java/lang/String" 1059 ⟨"jdk/internal/util/Preconditions", "checkIndex", "(IILjava/util/function/BiFunction;)I"⟩ ∈ vtS := vtm 242 (by decide +kernel) (by decide +kernel)
theorem w91_243 : Cond.static ⟨"jdk/internal/util/Preconditions", "checkIndex", "(IILjava/util/function/BiFunction;)I"⟩ ∈ vtS := vtm 243 (by decide +kernel) (by decide +kernel)
theorem cj_1059 : vcS "java/lang/String" 1059 j_pre 3 := ⟨vj_pre, Or.inl w91_242, w91_243⟩
theorem w91_224 : Cond.fieldLink "java/lang/String" 38 "java/lang/String" "COMPACT_STRINGS" "Z" ∈ vtS := vtm 224 (by decide +kernel) (by decide +kernel)
theorem w91_240 : Cond.fieldLink "java/lang/String" 1053 "jdk/internal/util/Preconditions" "SIOOBE_FORMATTER" "Ljava/util/function/BiFunction;" ∈ vtS := vtm 240 (by decide +kernel) (by decide +kernel)
theorem w91_997 : Cond.fieldLink "java/lang/String" 9 "java/lang/String" "value" "[B" ∈ vtS := vtm 997 (by decide +kernel) (by decide +kernel)
theorem w91_998 : Cond.fieldLink "java/lang/String" 15 "java/lang/String" "coder" "B" ∈ vtS := vtm 998 (by decide +kernel) (by decide +kernel)
theorem dj_len_0 : decode prog_12_method_54_code 0 = .ok (.aload_n 0, 1) := by decide +kernel
theorem dj_len_1 : decode prog_12_method_54_code 1 = .ok (.getfield 9, 3) := by decide +kernel
theorem dj_len_4 : decode prog_12_method_54_code 4 = .ok (.arraylength, 1) := by decide +kernel
theorem dj_len_5 : decode prog_12_method_54_code 5 = .ok (.aload_n 0, 1) := by decide +kernel
theorem dj_len_6 : decode prog_12_method_54_code 6 = .ok (.invokevirtual 335, 3) := by decide +kernel
theorem dj_len_9 : decode prog_12_method_54_code 9 = .ok (.ishr, 1) := by decide +kernel
theorem dj_len_10 : decode prog_12_method_54_code 10 = .ok (.ireturn, 1) := by decide +kernel
theorem dj_cod_0 : decode prog_12_method_152_code 0 = .ok (.getstatic 38, 3) := by decide +kernel
theorem dj_cod_3 : decode prog_12_method_152_code 3 = .ok (.ifCond .eq 10, 3) := by decide +kernel
theorem dj_cod_6 : decode prog_12_method_152_code 6 = .ok (.aload_n 0, 1) := by decide +kernel
theorem dj_cod_7 : decode prog_12_method_152_code 7 = .ok (.getfield 15, 3) := by decide +kernel
theorem dj_cod_10 : decode prog_12_method_152_code 10 = .ok (.goto 4, 3) := by decide +kernel
theorem dj_cod_13 : decode prog_12_method_152_code 13 = .ok (.iconst 1, 1) := by decide +kernel
theorem dj_cod_14 : decode prog_12_method_152_code 14 = .ok (.ireturn, 1) := by decide +kernel
theorem dj_cha_0 : decode prog_12_method_56_code 0 = .ok (.aload_n 0, 1) := by decide +kernel
theorem dj_cha_1 : decode prog_12_method_56_code 1 = .ok (.invokevirtual 492, 3) := by decide +kernel
theorem dj_cha_4 : decode prog_12_method_56_code 4 = .ok (.ifCond .eq 12, 3) := by decide +kernel
theorem dj_cha_7 : decode prog_12_method_56_code 7 = .ok (.aload_n 0, 1) := by decide +kernel
theorem dj_cha_8 : decode prog_12_method_56_code 8 = .ok (.getfield 9, 3) := by decide +kernel
theorem dj_cha_11 : decode prog_12_method_56_code 11 = .ok (.iload_n 1, 1) := by decide +kernel
theorem dj_cha_12 : decode prog_12_method_56_code 12 = .ok (.invokestatic 495, 3) := by decide +kernel
theorem dj_cha_15 : decode prog_12_method_56_code 15 = .ok (.ireturn, 1) := by decide +kernel
theorem dj_cha_16 : decode prog_12_method_56_code 16 = .ok (.aload_n 0, 1) := by decide +kernel
theorem dj_cha_17 : decode prog_12_method_56_code 17 = .ok (.getfield 9, 3) := by decide +kernel
theorem dj_cha_20 : decode prog_12_method_56_code 20 = .ok (.iload_n 1, 1) := by decide +kernel
theorem dj_cha_21 : decode prog_12_method_56_code 21 = .ok (.invokestatic 498, 3) := by decide +kernel
theorem dj_cha_24 : decode prog_12_method_56_code 24 = .ok (.ireturn, 1) := by decide +kernel
theorem dj_lat_0 : decode prog_12_method_154_code 0 = .ok (.getstatic 38, 3) := by decide +kernel
theorem dj_lat_3 : decode prog_12_method_154_code 3 = .ok (.ifCond .eq 14, 3) := by decide +kernel
theorem dj_lat_6 : decode prog_12_method_154_code 6 = .ok (.aload_n 0, 1) := by decide +kernel
theorem dj_lat_7 : decode prog_12_method_154_code 7 = .ok (.getfield 15, 3) := by decide +kernel
theorem dj_lat_10 : decode prog_12_method_154_code 10 = .ok (.ifCond .ne 7, 3) := by decide +kernel
theorem dj_lat_13 : decode prog_12_method_154_code 13 = .ok (.iconst 1, 1) := by decide +kernel
theorem dj_lat_14 : decode prog_12_method_154_code 14 = .ok (.goto 4, 3) := by decide +kernel
theorem dj_lat_17 : decode prog_12_method_154_code 17 = .ok (.iconst 0, 1) := by decide +kernel
theorem dj_lat_18 : decode prog_12_method_154_code 18 = .ok (.ireturn, 1) := by decide +kernel
theorem dj_cl1_0 : decode prog_13_method_2_code 0 = .ok (.iload_n 1, 1) := by decide +kernel
theorem dj_cl1_1 : decode prog_13_method_2_code 1 = .ok (.aload_n 0, 1) := by decide +kernel
theorem dj_cl1_2 : decode prog_13_method_2_code 2 = .ok (.arraylength, 1) := by decide +kernel
theorem dj_cl1_3 : decode prog_13_method_2_code 3 = .ok (.invokestatic 9, 3) := by decide +kernel
theorem dj_cl1_6 : decode prog_13_method_2_code 6 = .ok (.aload_n 0, 1) := by decide +kernel
theorem dj_cl1_7 : decode prog_13_method_2_code 7 = .ok (.iload_n 1, 1) := by decide +kernel
theorem dj_cl1_8 : decode prog_13_method_2_code 8 = .ok (.baload, 1) := by decide +kernel
theorem dj_cl1_9 : decode prog_13_method_2_code 9 = .ok (.sipush 255, 3) := by decide +kernel
theorem dj_cl1_12 : decode prog_13_method_2_code 12 = .ok (.iand, 1) := by decide +kernel
theorem dj_cl1_13 : decode prog_13_method_2_code 13 = .ok (.i2c, 1) := by decide +kernel
theorem dj_cl1_14 : decode prog_13_method_2_code 14 = .ok (.ireturn, 1) := by decide +kernel
theorem dj_chk_0 : decode prog_12_method_155_code 0 = .ok (.iload_n 0, 1) := by decide +kernel
theorem dj_chk_1 : decode prog_12_method_155_code 1 = .ok (.iload_n 1, 1) := by decide +kernel
theorem dj_chk_2 : decode prog_12_method_155_code 2 = .ok (.getstatic 1053, 3) := by decide +kernel
theorem dj_chk_5 : decode prog_12_method_155_code 5 = .ok (.invokestatic 1059, 3) := by decide +kernel
theorem dj_chk_8 : decode prog_12_method_155_code 8 = .ok (.pop, 1) := by decide +kernel
theorem dj_chk_9 : decode prog_12_method_155_code 9 = .ok (.return_, 1) := by decide +kernel
theorem dj_pre_0 : decode prog_16_method_11_code 0 = .ok (.iload_n 0, 1) := by decide +kernel
theorem dj_pre_1 : decode prog_16_method_11_code 1 = .ok (.ifCond .lt 8, 3) := by decide +kernel
theorem dj_pre_4 : decode prog_16_method_11_code 4 = .ok (.iload_n 0, 1) := by decide +kernel
theorem dj_pre_5 : decode prog_16_method_11_code 5 = .ok (.iload_n 1, 1) := by decide +kernel
theorem dj_pre_6 : decode prog_16_method_11_code 6 = .ok (.if_icmp .lt 10, 3) := by decide +kernel
theorem dj_pre_9 : decode prog_16_method_11_code 9 = .ok (.aload_n 2, 1) := by decide +kernel
theorem dj_pre_10 : decode prog_16_method_11_code 10 = .ok (.iload_n 0, 1) := by decide +kernel
theorem dj_pre_11 : decode prog_16_method_11_code 11 = .ok (.iload_n 1, 1) := by decide +kernel
theorem dj_pre_12 : decode prog_16_method_11_code 12 = .ok (.invokestatic 95, 3) := by decide +kernel
theorem dj_pre_15 : decode prog_16_method_11_code 15 = .ok (.athrow, 1) := by decide +kernel
theorem dj_pre_16 : decode prog_16_method_11_code 16 = .ok (.iload_n 0, 1) := by decide +kernel
theorem dj_pre_17 : decode prog_16_method_11_code 17 = .ok (.ireturn, 1) := by decide +kernel
section VStr
variable {k : VK} {b : Nat × Nat} {pc : Nat} {ls : List (Option Value)} {st : List Value} {h : VHp}
theorem V.ldcS (ho : k.2.1.1.cls = "HeartVanes") (hd : decode k.2.1.2.1 pc = .ok (.ldc 69, 2)) (kk : V k b (pc + 2) ls (.ref 1000003 :: st) h) : V k b pc ls st h := by
  intro p e R s m args below meth c Q A ad0 F ad H locs cells slots lsr r
  have hts := F.1.2.2.2.2.1
  obtain ⟨-, -, -, -, -, z, -⟩ := r.2.1
  exact va_ldcS F.1.1 F.1.2.1 (own := "HeartVanes") (by rw [← ho]; exact F.1.2.2.2.1) z hd (kk p e R s m args below meth c Q A ad0 F ad H locs cells slots lsr r)
theorem V.sval {idx : Nat} (hw : Cond.fieldLink k.2.1.1.cls idx "java/lang/String" "value" "[B" ∈ vtS) (hd : decode k.2.1.2.1 pc = .ok (.getfield idx, 3)) (kk : V k b (pc + 3) ls (.ref 1000004 :: st) h) : V k b pc ls (.ref 1000003 :: st) h := by
  intro p e R s m args below meth c Q A ad0 F ad H locs cells slots lsr r
  have hts := F.1.2.2.2.2.1
  obtain ⟨-, -, -, -, -, -, -, z, -⟩ := r.2.1
  exact vk_getf F.1.1 F.1.2.1 z r.2.2.2.1 F.1.2.2.2.1 (hts _ hw) (fun _ q => q) hd (kk p e R s m args below meth c Q A ad0 F ad H locs cells slots lsr r)
theorem V.scod {idx : Nat} (hw : Cond.fieldLink k.2.1.1.cls idx "java/lang/String" "coder" "B" ∈ vtS) (hd : decode k.2.1.2.1 pc = .ok (.getfield idx, 3)) (kk : V k b (pc + 3) ls (.int 0 :: st) h) : V k b pc ls (.ref 1000003 :: st) h := by
  intro p e R s m args below meth c Q A ad0 F ad H locs cells slots lsr r
  have hts := F.1.2.2.2.2.1
  obtain ⟨-, -, -, -, -, -, -, -, z, -⟩ := r.2.1
  exact vk_getf F.1.1 F.1.2.1 z r.2.2.2.1 F.1.2.2.2.1 (hts _ hw) (fun _ q => q) hd (kk p e R s m args below meth c Q A ad0 F ad H locs cells slots lsr r)
theorem V.scmp {idx : Nat} (hw : Cond.fieldLink k.2.1.1.cls idx "java/lang/String" "COMPACT_STRINGS" "Z" ∈ vtS) (hd : decode k.2.1.2.1 pc = .ok (.getstatic idx, 3)) (kk : V k b (pc + 3) ls (.int 1 :: st) h) : V k b pc ls st h := by
  intro p e R s m args below meth c Q A ad0 F ad H locs cells slots lsr r
  have hts := F.1.2.2.2.2.1
  obtain ⟨-, -, -, -, -, -, -, -, -, -, z, -⟩ := r.2.1
  exact va_gets F.1.1 F.1.2.1 z.1 r.2.2.2.1 F.1.2.2.2.1 (hts _ hw) (fun _ q => q) hd (kk p e R s m args below meth c Q A ad0 F ad H locs cells slots lsr r)
theorem V.sfmt {idx : Nat} (hw : Cond.fieldLink k.2.1.1.cls idx "jdk/internal/util/Preconditions" "SIOOBE_FORMATTER" "Ljava/util/function/BiFunction;" ∈ vtS) (hd : decode k.2.1.2.1 pc = .ok (.getstatic idx, 3)) (kk : ∀ v, (v = .null ∨ v = .ref 1000005) → V k b (pc + 3) ls (v :: st) h) : V k b pc ls st h := by
  intro p e R s m args below meth c Q A ad0 F ad H locs cells slots lsr r
  have hts := F.1.2.2.2.2.1
  obtain ⟨-, -, -, -, -, -, -, -, -, -, z, -⟩ := r.2.1
  obtain ⟨v, hv, z⟩ := z.2
  rcases hv with hv | hv
  · subst hv
    exact va_gets F.1.1 F.1.2.1 z r.2.2.2.1 F.1.2.2.2.1 (hts _ hw) (fun _ q => q) hd (kk .null (Or.inl rfl) p e R s m args below meth c Q A ad0 F ad H locs cells slots lsr r)
  · subst hv
    exact va_gets F.1.1 F.1.2.1 z r.2.2.2.1 F.1.2.2.2.1 (hts _ hw) (fun _ q => q) hd (kk (.ref 1000005) (Or.inr rfl) p e R s m args below meth c Q A ad0 F ad H locs cells slots lsr r)
theorem V.alen4 {v : Int32} (hd : decode k.2.1.2.1 pc = .ok (.arraylength, 1)) (hv : nI vtb.length = v) (kk : V k b (pc + 1) ls (.int v :: st) h) : V k b pc ls (.ref 1000004 :: st) h := by
  intro p e R s m args below meth c Q A ad0 F ad H locs cells slots lsr r
  have hts := F.1.2.2.2.2.1
  obtain ⟨-, -, -, -, -, -, -, -, -, z, -⟩ := r.2.1
  exact va_tlen F.1.1 F.1.2.1 z r.2.2.2.1 hv hd (kk p e R s m args below meth c Q A ad0 F ad H locs cells slots lsr r)
theorem V.bald4 {i : Int32} {j : Nat} (hd : decode k.2.1.2.1 pc = .ok (.baload, 1)) (hi : i = nI j) (hj : j < vtb.length) (hb : j < 2147483648) (kk : V k b (pc + 1) ls (.int (vtb.getD j 0) :: st) h) : V k b pc ls (.int i :: .ref 1000004 :: st) h := by
  intro p e R s m args below meth c Q A ad0 F ad H locs cells slots lsr r
  have hts := F.1.2.2.2.2.1
  obtain ⟨-, -, -, -, -, -, -, -, -, z, -⟩ := r.2.1
  exact va_tb (v := .int (vtb.getD j 0)) F.1.1 F.1.2.1 z r.2.2.2.1 (by rw [hi]; exact nI_in2 hj hb) (by rw [hi, nI_clamp hb]) hd (kk p e R s m args below meth c Q A ad0 F ad H locs cells slots lsr r)
theorem V.xret {x : Int32} {ty : FieldType} (hd : decode k.2.1.2.1 pc = .ok (.ireturn, 1)) (ht : k.2.1.2.2.2 = some ty) (hx : narrow ty (.int x) = .int x) (hp : k.2.2.2.2.2 (some (.int x)) h) : V k b pc ls [.int x] h :=
  fun p e R s m args below meth c Q A ad0 F ad H locs cells slots lsr r => F.2.2.2.2 ad h H locs cells slots lsr pc (some (.int x)) r.1 r.2.2.1 r.2.2.2.1 (Nat.le_trans (Nat.le_add_right _ _) r.2.2.2.2.2.1) (Nat.le_trans (Nat.le_add_right _ _) r.2.2.2.2.2.2.1) hp r.2.2.2.2.2.2.2 (Or.inl ⟨x, rfl, hd, ty, ht, hx⟩)
/-- a call on the text -/
theorem V.callT {idx n d : Nat} {M : VM} {As rest : List Value} {Post : VPost} (hc : vcV k.2.1.1.cls idx M n) (hE : VE k.1 M d false (0, 0) (.ref 1000003 :: As) h Post) (hd : decode k.2.1.2.1 pc = .ok (.invokevirtual idx, 3)) (hdp : d + 1 ≤ k.2.2.1) (hcl : M.1.cls = "java/lang/String") (hst : st = As.reverse ++ .ref 1000003 :: rest) (hn : As.length = n) (hsz : (rest.map fun v => v.category).sum ≤ 8)
    (kk : ∀ v h', Post v h' → V k b (pc + 3) ls (v.toList ++ rest) h') : V k b pc ls st h := by
  intro p e R s m args below meth c Q A ad0 F ad H locs cells slots lsr r
  obtain ⟨hM, hl1, hl2, hl3⟩ := hc
  have hts := F.1.2.2.2.2.1
  have hW := r.2.2.1
  have hF := vfree hW r.2.2.2.1 F.2.2.2.1
  obtain ⟨⟨tys, t1, t2⟩, hP, hD⟩ := r.2.2.1
  have hcw : CallW R s args k.2.1.1.cls M.1.cls idx M.1 M.2.1 M.2.2.1 M.2.2.2 (Cond.code M.1 M.2.1 M.2.2.1 M.2.2.2 :: vtS) (vroom d (0, 0)) 0 0 n := by
    refine cwV n hts (fun w hw => ?_) rfl rfl rfl ⟨rfl, hM.2.2.2⟩ ⟨Nat.le_trans hdp F.2.1, ?_⟩
    · rcases List.mem_append.mp hw with hw | hw
      · simp only [List.mem_cons, List.not_mem_nil, or_false] at hw
        rcases hw with rfl | rfl | rfl | rfl
        · exact vgood hl1
        · exact vgood hl2
        · exact vgood hl3
        · exact vgood hM.2.1
      · exact vgoodM hM w hw
    · have h1 := F.2.2.1
      have h2 := hM.2.2.1
      show 8 + (M.2.2.1 + 11) + 80 * d ≤ R.locals
      omega
  have hrecv : ∃ cell : Cell, H[(ad 1000003).1]? = some cell ∧ cell.vm.isStatics = false ∧ s.vm.findClass M.1.cls = some cell.cls := by
    obtain ⟨-, -, -, -, -, -, z7, -⟩ := r.2.1
    obtain ⟨cell, q1, q2, q3, -⟩ := z7.kept9 r.2.2.2.1.2.1
    rw [hcl]
    exact ⟨cell, q1, q2, q3⟩
  have hrun := va_runV (p := p) (e := e) (below := below) (meth := meth) (locs := locs) (cells := cells) (slots := slots) (g := F0 m pc lsr (st.map (mv ad))) (As := As.map (mv ad)) (rest := rest.map (mv ad)) (b := (ad 1000003).1) (H := H) ⟨F.1.1, F.1.2.1, F.1.2.2.1, F.1.2.2.2.1, hts⟩ (hE ad H.size) hcw ⟨vblind, hrecv, fun U hU hWm => ⟨rfl, by rw [hU], VRO.go r.2.1 r.2.2.2.1 hU hWm hF, by rw [hU]; exact VWd.moved hWm.alike ⟨⟨tys, t1, t2⟩, hP, hD.weaken (fun _ _ _ _ => trivial)⟩⟩⟩ rfl (by rw [List.length_map]; exact hn) r.2.2.2.2.1.2.1 (by rw [hst]; simp [mv, List.map_reverse]) (lv_room (vcat hsz)) hd ⟨Nat.le_trans (Nat.le_add_right _ _) r.2.2.2.2.2.1, Nat.le_trans (Nat.le_add_right _ _) r.2.2.2.2.2.2.1⟩
  refine vafter hrun hW r.2.2.2.1 F.2.2.2.1 (fun v h' ad' H1 locs1 hag hlen hp hw' hS' => ?_)
  obtain rfl := hag.eq
  have e1 : (v.map (mv ad')).toList ++ rest.map (mv ad') = (v.toList ++ rest).map (mv ad') := by cases v <;> simp
  rw [e1]
  exact kk v h' hp p e R s m args below meth c Q A ad0 F ad' H1 locs1 cells slots lsr ⟨r.1, r.2.1, hw', hS', r.2.2.2.2.1, r.2.2.2.2.2.1, r.2.2.2.2.2.2.1, Nat.le_trans r.2.2.2.2.2.2.2 hlen⟩
end VStr

set_option maxHeartbeats 1000000 in
theorem j_coder (g : VG) (h : VHp) : VE g j_cod 0 false (0, 0) [.ref 1000003] h (VP 0 h) := by
  refine VE.of (by decide) rfl (Nat.le_of_ble_eq_true rfl) ?_
  show V _ _ 0 [some (.ref 1000003)] [] h
  refine V.scmp w91_224 dj_cod_0 ?_
  refine V.if_eq 13 dj_cod_3 (by decide) (fun hc => absurd hc (by decide)) (fun hc => ?_)
  refine V.aload_n dj_cod_6 rfl ?_
  refine V.scod w91_998 dj_cod_7 ?_
  refine V.goto 14 dj_cod_10 (by decide) ?_
  exact V.xret dj_cod_14 rfl (by decide) ⟨rfl, rfl⟩

set_option maxHeartbeats 1000000 in
theorem j_isLatin1 (g : VG) (h : VHp) : VE g j_lat 0 false (0, 0) [.ref 1000003] h (VP 1 h) := by
  refine VE.of (by decide) rfl (Nat.le_of_ble_eq_true rfl) ?_
  show V _ _ 0 [some (.ref 1000003)] [] h
  refine V.scmp w91_224 dj_lat_0 ?_
  refine V.if_eq 17 dj_lat_3 (by decide) (fun hc => absurd hc (by decide)) (fun hc => ?_)
  refine V.aload_n dj_lat_6 rfl ?_
  refine V.scod w91_998 dj_lat_7 ?_
  refine V.if_ne 17 dj_lat_10 (by decide) (fun hc => absurd rfl hc) (fun hc => ?_)
  refine V.iconst (v := 1) dj_lat_13 (by decide) ?_
  refine V.goto 18 dj_lat_14 (by decide) ?_
  exact V.zret dj_lat_18 rfl (Or.inr rfl) ⟨rfl, rfl⟩

set_option maxHeartbeats 1000000 in
theorem j_length (g : VG) (h : VHp) : VE g j_len 1 false (0, 0) [.ref 1000003] h (VP (nI vtb.length) h) := by
  refine VE.of (by decide) rfl (Nat.le_of_ble_eq_true rfl) ?_
  show V _ _ 0 [some (.ref 1000003)] [] h
  refine V.aload_n dj_len_0 rfl ?_
  refine V.sval w91_997 dj_len_1 ?_
  refine V.alen4 dj_len_4 rfl ?_
  refine V.aload_n dj_len_5 rfl ?_
  refine V.callT (As := []) cj_335 (j_coder g h) dj_len_6 (Nat.le_of_ble_eq_true rfl) rfl rfl rfl (Nat.le_of_ble_eq_true rfl) (fun v_ h_ hp_ => ?_)
  obtain ⟨rfl, rfl⟩ := hp_
  refine V.ishr dj_len_9 ?_
  refine V.re (y := nI vtb.length) (by decide +kernel) ?_
  exact V.iret dj_len_10 rfl ⟨rfl, rfl⟩

set_option maxHeartbeats 1000000 in
theorem j_preIndex (g : VG) (h : VHp) (i n : Nat) (v : Value) (hv : v = .null ∨ v = .ref 1000005) (hi : i < n) (hn : n < 1000000) : VE g j_pre 0 false (0, 0) [.int (nI i), .int (nI n), v] h (VP (nI i) h) := by
  refine VE.of (by decide) (by rcases hv with e | e <;> rw [e] <;> rfl) (Nat.le_of_ble_eq_true rfl) ?_
  show V _ _ 0 [some (.int (nI i)), some (.int (nI n)), some v] [] h
  refine V.iload_n dj_pre_0 rfl ?_
  refine V.if_ltN 9 dj_pre_1 (by decide) (by omega) (fun hc => absurd hc (by omega)) (fun hc => ?_)
  refine V.iload_n dj_pre_4 rfl ?_
  refine V.iload_n dj_pre_5 rfl ?_
  refine V.icmp_ltN 16 dj_pre_6 (by decide) (by omega) (by omega) (fun hc => ?_) (fun hc => absurd hc (by omega))
  refine V.iload_n dj_pre_16 rfl ?_
  exact V.iret dj_pre_17 rfl ⟨rfl, rfl⟩

set_option maxHeartbeats 1000000 in
theorem j_check (g : VG) (h : VHp) (i n : Nat) (hi : i < n) (hn : n < 1000000) : VE g j_chk 1 false (0, 0) [.int (nI i), .int (nI n)] h (fun v h' => v = none ∧ h' = h) := by
  refine VE.of (by decide) rfl (Nat.le_of_ble_eq_true rfl) ?_
  show V _ _ 0 [some (.int (nI i)), some (.int (nI n))] [] h
  refine V.iload_n dj_chk_0 rfl ?_
  refine V.iload_n dj_chk_1 rfl ?_
  refine V.sfmt w91_240 dj_chk_2 (fun v hv => ?_)
  refine V.callSp cj_1059 (j_preIndex g h i n v hv hi hn) dj_chk_5 (Nat.le_of_ble_eq_true rfl) rfl rfl (Nat.le_of_ble_eq_true rfl) ?_
  refine V.pop dj_chk_8 rfl ?_
  exact V.vret dj_chk_9 rfl ⟨rfl, rfl⟩

theorem vtb_char : ∀ j, j < vtb.length → ((vtb.getD j 0 &&& nI 255).toUInt32 % 65536).toInt32 = vtb.getD j 0 ∧ narrow .char (.int (vtb.getD j 0)) = .int (vtb.getD j 0) := by decide +kernel
theorem vtb_len : vtb.length < 1000 := by decide +kernel
set_option maxHeartbeats 1000000 in
theorem j_charAt1 (g : VG) (h : VHp) (j : Nat) (hj : j < vtb.length) : VE g j_cl1 2 false (0, 0) [.ref 1000004, .int (nI j)] h (VP (vtb.getD j 0) h) := by
  refine VE.of (by decide) rfl (Nat.le_of_ble_eq_true rfl) ?_
  have hl := vtb_len
  show V _ _ 0 [some (.ref 1000004), some (.int (nI j))] [] h
  refine V.iload_n dj_cl1_0 rfl ?_
  refine V.aload_n dj_cl1_1 rfl ?_
  refine V.alen4 dj_cl1_2 rfl ?_
  refine V.callS cj_9 (j_check g h j vtb.length hj (by omega)) dj_cl1_3 (Nat.le_of_ble_eq_true rfl) rfl rfl (Nat.le_of_ble_eq_true rfl) (fun v_ h_ hp_ => ?_)
  obtain ⟨rfl, rfl⟩ := hp_
  dsimp only [Option.toList, List.nil_append]
  refine V.aload_n dj_cl1_6 rfl ?_
  refine V.iload_n dj_cl1_7 rfl ?_
  refine V.bald4 dj_cl1_8 rfl hj (by omega) ?_
  refine V.sipush (v := nI 255) dj_cl1_9 (by decide) ?_
  refine V.iand dj_cl1_12 ?_
  refine V.i2c dj_cl1_13 ?_
  refine V.re (vtb_char j hj).1 ?_
  exact V.xret dj_cl1_14 rfl (vtb_char j hj).2 ⟨rfl, rfl⟩

set_option maxHeartbeats 1000000 in
theorem j_charAt (g : VG) (h : VHp) (j : Nat) (hj : j < vtb.length) : VE g j_cha 3 false (0, 0) [.ref 1000003, .int (nI j)] h (VP (vtb.getD j 0) h) := by
  refine VE.of (by decide) rfl (Nat.le_of_ble_eq_true rfl) ?_
  show V _ _ 0 [some (.ref 1000003), some (.int (nI j))] [] h
  refine V.aload_n dj_cha_0 rfl ?_
  refine V.callT (As := []) cj_492 (j_isLatin1 g h) dj_cha_1 (Nat.le_of_ble_eq_true rfl) rfl rfl rfl (Nat.le_of_ble_eq_true rfl) (fun v_ h_ hp_ => ?_)
  obtain ⟨rfl, rfl⟩ := hp_
  refine V.if_eq 16 dj_cha_4 (by decide) (fun hc => absurd hc (by decide)) (fun hc => ?_)
  refine V.aload_n dj_cha_7 rfl ?_
  refine V.sval w91_997 dj_cha_8 ?_
  refine V.iload_n dj_cha_11 rfl ?_
  refine V.callSp cj_495 (j_charAt1 g _ j hj) dj_cha_12 (Nat.le_of_ble_eq_true rfl) rfl rfl (Nat.le_of_ble_eq_true rfl) ?_
  exact V.xret dj_cha_15 rfl (vtb_char j hj).2 ⟨rfl, rfl⟩
