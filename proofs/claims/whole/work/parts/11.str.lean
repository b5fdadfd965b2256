/-! String constants: charAt, indexOf, by the JDK's own code -/
def jy_isLatin1 : MethodName := ⟨"java/lang/String", "isLatin1", "()Z"⟩
abbrev jc_isLatin1 : ByteArray := prog_17_method_154_code
set_option maxRecDepth 100000 in
theorem jw_isLatin1 : Cond.code jy_isLatin1 jc_isLatin1 1 (Option.some FieldType.boolean) ∈ lw_tbl := List.mem_of_getElem? (i := 834) rfl
theorem jp_isLatin1 : (parseMethodDescriptor jy_isLatin1.desc).map (fun d => d.parameters.length) = some 0 := by decide +kernel
set_option maxRecDepth 100000 in
theorem jin_isLatin1 : Cond.instanceMethod jy_isLatin1 ∈ lw_tbl := List.mem_of_getElem? (i := 832) rfl
set_option maxRecDepth 100000 in
theorem jse_isLatin1 : Cond.selects "java/lang/String" jy_isLatin1 jy_isLatin1 ∈ lw_tbl := List.mem_of_getElem? (i := 833) rfl
theorem jd_isLatin1_0 : decode jc_isLatin1 0 = .ok (.getstatic 38, 3) := by decide +kernel
theorem jd_isLatin1_3 : decode jc_isLatin1 3 = .ok (.ifCond .eq 14, 3) := by decide +kernel
theorem jd_isLatin1_6 : decode jc_isLatin1 6 = .ok (.aload_n 0, 1) := by decide +kernel
theorem jd_isLatin1_7 : decode jc_isLatin1 7 = .ok (.getfield 15, 3) := by decide +kernel
theorem jd_isLatin1_10 : decode jc_isLatin1 10 = .ok (.ifCond .ne 7, 3) := by decide +kernel
theorem jd_isLatin1_13 : decode jc_isLatin1 13 = .ok (.iconst 1, 1) := by decide +kernel
theorem jd_isLatin1_14 : decode jc_isLatin1 14 = .ok (.goto 4, 3) := by decide +kernel
theorem jd_isLatin1_17 : decode jc_isLatin1 17 = .ok (.iconst 0, 1) := by decide +kernel
theorem jd_isLatin1_18 : decode jc_isLatin1 18 = .ok (.ireturn, 1) := by decide +kernel
def jy_coder : MethodName := ⟨"java/lang/String", "coder", "()B"⟩
abbrev jc_coder : ByteArray := prog_17_method_152_code
set_option maxRecDepth 100000 in
theorem jw_coder : Cond.code jy_coder jc_coder 1 (Option.some FieldType.byte) ∈ lw_tbl := List.mem_of_getElem? (i := 915) rfl
theorem jp_coder : (parseMethodDescriptor jy_coder.desc).map (fun d => d.parameters.length) = some 0 := by decide +kernel
set_option maxRecDepth 100000 in
theorem jin_coder : Cond.instanceMethod jy_coder ∈ lw_tbl := List.mem_of_getElem? (i := 913) rfl
set_option maxRecDepth 100000 in
theorem jse_coder : Cond.selects "java/lang/String" jy_coder jy_coder ∈ lw_tbl := List.mem_of_getElem? (i := 914) rfl
theorem jd_coder_0 : decode jc_coder 0 = .ok (.getstatic 38, 3) := by decide +kernel
theorem jd_coder_3 : decode jc_coder 3 = .ok (.ifCond .eq 10, 3) := by decide +kernel
theorem jd_coder_6 : decode jc_coder 6 = .ok (.aload_n 0, 1) := by decide +kernel
theorem jd_coder_7 : decode jc_coder 7 = .ok (.getfield 15, 3) := by decide +kernel
theorem jd_coder_10 : decode jc_coder 10 = .ok (.goto 4, 3) := by decide +kernel
theorem jd_coder_13 : decode jc_coder 13 = .ok (.iconst 1, 1) := by decide +kernel
theorem jd_coder_14 : decode jc_coder 14 = .ok (.ireturn, 1) := by decide +kernel
def jy_pcheck : MethodName := ⟨"jdk/internal/util/Preconditions", "checkIndex", "(IILjava/util/function/BiFunction;)I"⟩
abbrev jc_pcheck : ByteArray := prog_21_method_11_code
set_option maxRecDepth 100000 in
theorem jw_pcheck : Cond.code jy_pcheck jc_pcheck 3 (Option.some FieldType.int) ∈ lw_tbl := List.mem_of_getElem? (i := 847) rfl
theorem jp_pcheck : (parseMethodDescriptor jy_pcheck.desc).map (fun d => d.parameters.length) = some 3 := by decide +kernel
set_option maxRecDepth 100000 in
theorem jst_pcheck : Cond.static jy_pcheck ∈ lw_tbl := List.mem_of_getElem? (i := 846) rfl
theorem jd_pcheck_0 : decode jc_pcheck 0 = .ok (.iload_n 0, 1) := by decide +kernel
theorem jd_pcheck_1 : decode jc_pcheck 1 = .ok (.ifCond .lt 8, 3) := by decide +kernel
theorem jd_pcheck_4 : decode jc_pcheck 4 = .ok (.iload_n 0, 1) := by decide +kernel
theorem jd_pcheck_5 : decode jc_pcheck 5 = .ok (.iload_n 1, 1) := by decide +kernel
theorem jd_pcheck_6 : decode jc_pcheck 6 = .ok (.if_icmp .lt 10, 3) := by decide +kernel
theorem jd_pcheck_9 : decode jc_pcheck 9 = .ok (.aload_n 2, 1) := by decide +kernel
theorem jd_pcheck_10 : decode jc_pcheck 10 = .ok (.iload_n 0, 1) := by decide +kernel
theorem jd_pcheck_11 : decode jc_pcheck 11 = .ok (.iload_n 1, 1) := by decide +kernel
theorem jd_pcheck_12 : decode jc_pcheck 12 = .ok (.invokestatic 95, 3) := by decide +kernel
theorem jd_pcheck_15 : decode jc_pcheck 15 = .ok (.athrow, 1) := by decide +kernel
theorem jd_pcheck_16 : decode jc_pcheck 16 = .ok (.iload_n 0, 1) := by decide +kernel
theorem jd_pcheck_17 : decode jc_pcheck 17 = .ok (.ireturn, 1) := by decide +kernel
def jy_scheck : MethodName := ⟨"java/lang/String", "checkIndex", "(II)V"⟩
abbrev jc_scheck : ByteArray := prog_17_method_155_code
set_option maxRecDepth 100000 in
theorem jw_scheck : Cond.code jy_scheck jc_scheck 2 (Option.none : Option FieldType) ∈ lw_tbl := List.mem_of_getElem? (i := 842) rfl
theorem jp_scheck : (parseMethodDescriptor jy_scheck.desc).map (fun d => d.parameters.length) = some 2 := by decide +kernel
set_option maxRecDepth 100000 in
theorem jst_scheck : Cond.static jy_scheck ∈ lw_tbl := List.mem_of_getElem? (i := 841) rfl
theorem jd_scheck_0 : decode jc_scheck 0 = .ok (.iload_n 0, 1) := by decide +kernel
theorem jd_scheck_1 : decode jc_scheck 1 = .ok (.iload_n 1, 1) := by decide +kernel
theorem jd_scheck_2 : decode jc_scheck 2 = .ok (.getstatic 1053, 3) := by decide +kernel
theorem jd_scheck_5 : decode jc_scheck 5 = .ok (.invokestatic 1059, 3) := by decide +kernel
theorem jd_scheck_8 : decode jc_scheck 8 = .ok (.pop, 1) := by decide +kernel
theorem jd_scheck_9 : decode jc_scheck 9 = .ok (.return_, 1) := by decide +kernel
def jy_lcharAt : MethodName := ⟨"java/lang/StringLatin1", "charAt", "([BI)C"⟩
abbrev jc_lcharAt : ByteArray := prog_18_method_2_code
set_option maxRecDepth 100000 in
theorem jw_lcharAt : Cond.code jy_lcharAt jc_lcharAt 2 (Option.some FieldType.char) ∈ lw_tbl := List.mem_of_getElem? (i := 839) rfl
theorem jp_lcharAt : (parseMethodDescriptor jy_lcharAt.desc).map (fun d => d.parameters.length) = some 2 := by decide +kernel
set_option maxRecDepth 100000 in
theorem jst_lcharAt : Cond.static jy_lcharAt ∈ lw_tbl := List.mem_of_getElem? (i := 838) rfl
theorem jd_lcharAt_0 : decode jc_lcharAt 0 = .ok (.iload_n 1, 1) := by decide +kernel
theorem jd_lcharAt_1 : decode jc_lcharAt 1 = .ok (.aload_n 0, 1) := by decide +kernel
theorem jd_lcharAt_2 : decode jc_lcharAt 2 = .ok (.arraylength, 1) := by decide +kernel
theorem jd_lcharAt_3 : decode jc_lcharAt 3 = .ok (.invokestatic 9, 3) := by decide +kernel
theorem jd_lcharAt_6 : decode jc_lcharAt 6 = .ok (.aload_n 0, 1) := by decide +kernel
theorem jd_lcharAt_7 : decode jc_lcharAt 7 = .ok (.iload_n 1, 1) := by decide +kernel
theorem jd_lcharAt_8 : decode jc_lcharAt 8 = .ok (.baload, 1) := by decide +kernel
theorem jd_lcharAt_9 : decode jc_lcharAt 9 = .ok (.sipush 255, 3) := by decide +kernel
theorem jd_lcharAt_12 : decode jc_lcharAt 12 = .ok (.iand, 1) := by decide +kernel
theorem jd_lcharAt_13 : decode jc_lcharAt 13 = .ok (.i2c, 1) := by decide +kernel
theorem jd_lcharAt_14 : decode jc_lcharAt 14 = .ok (.ireturn, 1) := by decide +kernel
def jy_charAt : MethodName := ⟨"java/lang/String", "charAt", "(I)C"⟩
abbrev jc_charAt : ByteArray := prog_17_method_56_code
set_option maxRecDepth 100000 in
theorem jw_charAt : Cond.code jy_charAt jc_charAt 2 (Option.some FieldType.char) ∈ lw_tbl := List.mem_of_getElem? (i := 830) rfl
theorem jp_charAt : (parseMethodDescriptor jy_charAt.desc).map (fun d => d.parameters.length) = some 1 := by decide +kernel
set_option maxRecDepth 100000 in
theorem jin_charAt : Cond.instanceMethod jy_charAt ∈ lw_tbl := List.mem_of_getElem? (i := 828) rfl
set_option maxRecDepth 100000 in
theorem jse_charAt : Cond.selects "java/lang/String" jy_charAt jy_charAt ∈ lw_tbl := List.mem_of_getElem? (i := 829) rfl
theorem jd_charAt_0 : decode jc_charAt 0 = .ok (.aload_n 0, 1) := by decide +kernel
theorem jd_charAt_1 : decode jc_charAt 1 = .ok (.invokevirtual 492, 3) := by decide +kernel
theorem jd_charAt_4 : decode jc_charAt 4 = .ok (.ifCond .eq 12, 3) := by decide +kernel
theorem jd_charAt_7 : decode jc_charAt 7 = .ok (.aload_n 0, 1) := by decide +kernel
theorem jd_charAt_8 : decode jc_charAt 8 = .ok (.getfield 9, 3) := by decide +kernel
theorem jd_charAt_11 : decode jc_charAt 11 = .ok (.iload_n 1, 1) := by decide +kernel
theorem jd_charAt_12 : decode jc_charAt 12 = .ok (.invokestatic 495, 3) := by decide +kernel
theorem jd_charAt_15 : decode jc_charAt 15 = .ok (.ireturn, 1) := by decide +kernel
theorem jd_charAt_16 : decode jc_charAt 16 = .ok (.aload_n 0, 1) := by decide +kernel
theorem jd_charAt_17 : decode jc_charAt 17 = .ok (.getfield 9, 3) := by decide +kernel
theorem jd_charAt_20 : decode jc_charAt 20 = .ok (.iload_n 1, 1) := by decide +kernel
theorem jd_charAt_21 : decode jc_charAt 21 = .ok (.invokestatic 498, 3) := by decide +kernel
theorem jd_charAt_24 : decode jc_charAt 24 = .ok (.ireturn, 1) := by decide +kernel
def jy_length : MethodName := ⟨"java/lang/String", "length", "()I"⟩
abbrev jc_length : ByteArray := prog_17_method_54_code
set_option maxRecDepth 100000 in
theorem jw_length : Cond.code jy_length jc_length 1 (Option.some FieldType.int) ∈ lw_tbl := List.mem_of_getElem? (i := 911) rfl
theorem jp_length : (parseMethodDescriptor jy_length.desc).map (fun d => d.parameters.length) = some 0 := by decide +kernel
set_option maxRecDepth 100000 in
theorem jin_length : Cond.instanceMethod jy_length ∈ lw_tbl := List.mem_of_getElem? (i := 909) rfl
set_option maxRecDepth 100000 in
theorem jse_length : Cond.selects "java/lang/String" jy_length jy_length ∈ lw_tbl := List.mem_of_getElem? (i := 910) rfl
theorem jd_length_0 : decode jc_length 0 = .ok (.aload_n 0, 1) := by decide +kernel
theorem jd_length_1 : decode jc_length 1 = .ok (.getfield 9, 3) := by decide +kernel
theorem jd_length_4 : decode jc_length 4 = .ok (.arraylength, 1) := by decide +kernel
theorem jd_length_5 : decode jc_length 5 = .ok (.aload_n 0, 1) := by decide +kernel
theorem jd_length_6 : decode jc_length 6 = .ok (.invokevirtual 335, 3) := by decide +kernel
theorem jd_length_9 : decode jc_length 9 = .ok (.ishr, 1) := by decide +kernel
theorem jd_length_10 : decode jc_length 10 = .ok (.ireturn, 1) := by decide +kernel
def jy_canEnc : MethodName := ⟨"java/lang/StringLatin1", "canEncode", "(I)Z"⟩
abbrev jc_canEnc : ByteArray := prog_18_method_4_code
set_option maxRecDepth 100000 in
theorem jw_canEnc : Cond.code jy_canEnc jc_canEnc 1 (Option.some FieldType.boolean) ∈ lw_tbl := List.mem_of_getElem? (i := 921) rfl
theorem jp_canEnc : (parseMethodDescriptor jy_canEnc.desc).map (fun d => d.parameters.length) = some 1 := by decide +kernel
set_option maxRecDepth 100000 in
theorem jst_canEnc : Cond.static jy_canEnc ∈ lw_tbl := List.mem_of_getElem? (i := 920) rfl
theorem jd_canEnc_0 : decode jc_canEnc 0 = .ok (.iload_n 0, 1) := by decide +kernel
theorem jd_canEnc_1 : decode jc_canEnc 1 = .ok (.ifCond .lt 14, 3) := by decide +kernel
theorem jd_canEnc_4 : decode jc_canEnc 4 = .ok (.iload_n 0, 1) := by decide +kernel
theorem jd_canEnc_5 : decode jc_canEnc 5 = .ok (.sipush 255, 3) := by decide +kernel
theorem jd_canEnc_8 : decode jc_canEnc 8 = .ok (.if_icmp .gt 7, 3) := by decide +kernel
theorem jd_canEnc_11 : decode jc_canEnc 11 = .ok (.iconst 1, 1) := by decide +kernel
theorem jd_canEnc_12 : decode jc_canEnc 12 = .ok (.goto 4, 3) := by decide +kernel
theorem jd_canEnc_15 : decode jc_canEnc 15 = .ok (.iconst 0, 1) := by decide +kernel
theorem jd_canEnc_16 : decode jc_canEnc 16 = .ok (.ireturn, 1) := by decide +kernel
def jy_ixChar : MethodName := ⟨"java/lang/StringLatin1", "indexOfChar", "([BIII)I"⟩
abbrev jc_ixChar : ByteArray := prog_18_method_23_code
set_option maxRecDepth 100000 in
theorem jw_ixChar : Cond.code jy_ixChar jc_ixChar 6 (Option.some FieldType.int) ∈ lw_tbl := List.mem_of_getElem? (i := 926) rfl
theorem jp_ixChar : (parseMethodDescriptor jy_ixChar.desc).map (fun d => d.parameters.length) = some 4 := by decide +kernel
set_option maxRecDepth 100000 in
theorem jst_ixChar : Cond.static jy_ixChar ∈ lw_tbl := List.mem_of_getElem? (i := 925) rfl
theorem jd_ixChar_0 : decode jc_ixChar 0 = .ok (.iload_n 1, 1) := by decide +kernel
theorem jd_ixChar_1 : decode jc_ixChar 1 = .ok (.i2b, 1) := by decide +kernel
theorem jd_ixChar_2 : decode jc_ixChar 2 = .ok (.istore 4, 2) := by decide +kernel
theorem jd_ixChar_4 : decode jc_ixChar 4 = .ok (.iload_n 2, 1) := by decide +kernel
theorem jd_ixChar_5 : decode jc_ixChar 5 = .ok (.istore 5, 2) := by decide +kernel
theorem jd_ixChar_7 : decode jc_ixChar 7 = .ok (.iload 5, 2) := by decide +kernel
theorem jd_ixChar_9 : decode jc_ixChar 9 = .ok (.iload_n 3, 1) := by decide +kernel
theorem jd_ixChar_10 : decode jc_ixChar 10 = .ok (.if_icmp .ge 21, 3) := by decide +kernel
theorem jd_ixChar_13 : decode jc_ixChar 13 = .ok (.aload_n 0, 1) := by decide +kernel
theorem jd_ixChar_14 : decode jc_ixChar 14 = .ok (.iload 5, 2) := by decide +kernel
theorem jd_ixChar_16 : decode jc_ixChar 16 = .ok (.baload, 1) := by decide +kernel
theorem jd_ixChar_17 : decode jc_ixChar 17 = .ok (.iload 4, 2) := by decide +kernel
theorem jd_ixChar_19 : decode jc_ixChar 19 = .ok (.if_icmp .ne 6, 3) := by decide +kernel
theorem jd_ixChar_22 : decode jc_ixChar 22 = .ok (.iload 5, 2) := by decide +kernel
theorem jd_ixChar_24 : decode jc_ixChar 24 = .ok (.ireturn, 1) := by decide +kernel
theorem jd_ixChar_25 : decode jc_ixChar 25 = .ok (.iinc 5 1, 3) := by decide +kernel
theorem jd_ixChar_28 : decode jc_ixChar 28 = .ok (.goto (-21), 3) := by decide +kernel
theorem jd_ixChar_31 : decode jc_ixChar 31 = .ok (.iconst (-1), 1) := by decide +kernel
theorem jd_ixChar_32 : decode jc_ixChar 32 = .ok (.ireturn, 1) := by decide +kernel
def jy_lindexOf : MethodName := ⟨"java/lang/StringLatin1", "indexOf", "([BIII)I"⟩
abbrev jc_lindexOf : ByteArray := prog_18_method_22_code
set_option maxRecDepth 100000 in
theorem jw_lindexOf : Cond.code jy_lindexOf jc_lindexOf 4 (Option.some FieldType.int) ∈ lw_tbl := List.mem_of_getElem? (i := 918) rfl
theorem jp_lindexOf : (parseMethodDescriptor jy_lindexOf.desc).map (fun d => d.parameters.length) = some 4 := by decide +kernel
set_option maxRecDepth 100000 in
theorem jst_lindexOf : Cond.static jy_lindexOf ∈ lw_tbl := List.mem_of_getElem? (i := 917) rfl
theorem jd_lindexOf_0 : decode jc_lindexOf 0 = .ok (.iload_n 1, 1) := by decide +kernel
theorem jd_lindexOf_1 : decode jc_lindexOf 1 = .ok (.invokestatic 88, 3) := by decide +kernel
theorem jd_lindexOf_4 : decode jc_lindexOf 4 = .ok (.ifCond .ne 5, 3) := by decide +kernel
theorem jd_lindexOf_7 : decode jc_lindexOf 7 = .ok (.iconst (-1), 1) := by decide +kernel
theorem jd_lindexOf_8 : decode jc_lindexOf 8 = .ok (.ireturn, 1) := by decide +kernel
theorem jd_lindexOf_9 : decode jc_lindexOf 9 = .ok (.iload_n 2, 1) := by decide +kernel
theorem jd_lindexOf_10 : decode jc_lindexOf 10 = .ok (.iconst 0, 1) := by decide +kernel
theorem jd_lindexOf_11 : decode jc_lindexOf 11 = .ok (.invokestatic 92, 3) := by decide +kernel
theorem jd_lindexOf_14 : decode jc_lindexOf 14 = .ok (.istore_n 2, 1) := by decide +kernel
theorem jd_lindexOf_15 : decode jc_lindexOf 15 = .ok (.iload_n 3, 1) := by decide +kernel
theorem jd_lindexOf_16 : decode jc_lindexOf 16 = .ok (.aload_n 0, 1) := by decide +kernel
theorem jd_lindexOf_17 : decode jc_lindexOf 17 = .ok (.arraylength, 1) := by decide +kernel
theorem jd_lindexOf_18 : decode jc_lindexOf 18 = .ok (.invokestatic 38, 3) := by decide +kernel
theorem jd_lindexOf_21 : decode jc_lindexOf 21 = .ok (.istore_n 3, 1) := by decide +kernel
theorem jd_lindexOf_22 : decode jc_lindexOf 22 = .ok (.iload_n 2, 1) := by decide +kernel
theorem jd_lindexOf_23 : decode jc_lindexOf 23 = .ok (.iload_n 3, 1) := by decide +kernel
theorem jd_lindexOf_24 : decode jc_lindexOf 24 = .ok (.if_icmp .lt 5, 3) := by decide +kernel
theorem jd_lindexOf_27 : decode jc_lindexOf 27 = .ok (.iconst (-1), 1) := by decide +kernel
theorem jd_lindexOf_28 : decode jc_lindexOf 28 = .ok (.ireturn, 1) := by decide +kernel
theorem jd_lindexOf_29 : decode jc_lindexOf 29 = .ok (.aload_n 0, 1) := by decide +kernel
theorem jd_lindexOf_30 : decode jc_lindexOf 30 = .ok (.iload_n 1, 1) := by decide +kernel
theorem jd_lindexOf_31 : decode jc_lindexOf 31 = .ok (.iload_n 2, 1) := by decide +kernel
theorem jd_lindexOf_32 : decode jc_lindexOf 32 = .ok (.iload_n 3, 1) := by decide +kernel
theorem jd_lindexOf_33 : decode jc_lindexOf 33 = .ok (.invokestatic 95, 3) := by decide +kernel
theorem jd_lindexOf_36 : decode jc_lindexOf 36 = .ok (.ireturn, 1) := by decide +kernel
def jy_indexOf2 : MethodName := ⟨"java/lang/String", "indexOf", "(II)I"⟩
abbrev jc_indexOf2 : ByteArray := prog_17_method_80_code
set_option maxRecDepth 100000 in
theorem jw_indexOf2 : Cond.code jy_indexOf2 jc_indexOf2 3 (Option.some FieldType.int) ∈ lw_tbl := List.mem_of_getElem? (i := 907) rfl
theorem jp_indexOf2 : (parseMethodDescriptor jy_indexOf2.desc).map (fun d => d.parameters.length) = some 2 := by decide +kernel
set_option maxRecDepth 100000 in
theorem jin_indexOf2 : Cond.instanceMethod jy_indexOf2 ∈ lw_tbl := List.mem_of_getElem? (i := 905) rfl
set_option maxRecDepth 100000 in
theorem jse_indexOf2 : Cond.selects "java/lang/String" jy_indexOf2 jy_indexOf2 ∈ lw_tbl := List.mem_of_getElem? (i := 906) rfl
theorem jd_indexOf2_0 : decode jc_indexOf2 0 = .ok (.aload_n 0, 1) := by decide +kernel
theorem jd_indexOf2_1 : decode jc_indexOf2 1 = .ok (.invokevirtual 492, 3) := by decide +kernel
theorem jd_indexOf2_4 : decode jc_indexOf2 4 = .ok (.ifCond .eq 19, 3) := by decide +kernel
theorem jd_indexOf2_7 : decode jc_indexOf2 7 = .ok (.aload_n 0, 1) := by decide +kernel
theorem jd_indexOf2_8 : decode jc_indexOf2 8 = .ok (.getfield 9, 3) := by decide +kernel
theorem jd_indexOf2_11 : decode jc_indexOf2 11 = .ok (.iload_n 1, 1) := by decide +kernel
theorem jd_indexOf2_12 : decode jc_indexOf2 12 = .ok (.iload_n 2, 1) := by decide +kernel
theorem jd_indexOf2_13 : decode jc_indexOf2 13 = .ok (.aload_n 0, 1) := by decide +kernel
theorem jd_indexOf2_14 : decode jc_indexOf2 14 = .ok (.invokevirtual 505, 3) := by decide +kernel
theorem jd_indexOf2_17 : decode jc_indexOf2 17 = .ok (.invokestatic 637, 3) := by decide +kernel
theorem jd_indexOf2_20 : decode jc_indexOf2 20 = .ok (.goto 16, 3) := by decide +kernel
theorem jd_indexOf2_23 : decode jc_indexOf2 23 = .ok (.aload_n 0, 1) := by decide +kernel
theorem jd_indexOf2_24 : decode jc_indexOf2 24 = .ok (.getfield 9, 3) := by decide +kernel
theorem jd_indexOf2_27 : decode jc_indexOf2 27 = .ok (.iload_n 1, 1) := by decide +kernel
theorem jd_indexOf2_28 : decode jc_indexOf2 28 = .ok (.iload_n 2, 1) := by decide +kernel
theorem jd_indexOf2_29 : decode jc_indexOf2 29 = .ok (.aload_n 0, 1) := by decide +kernel
theorem jd_indexOf2_30 : decode jc_indexOf2 30 = .ok (.invokevirtual 505, 3) := by decide +kernel
theorem jd_indexOf2_33 : decode jc_indexOf2 33 = .ok (.invokestatic 640, 3) := by decide +kernel
theorem jd_indexOf2_36 : decode jc_indexOf2 36 = .ok (.ireturn, 1) := by decide +kernel
def jy_indexOf : MethodName := ⟨"java/lang/String", "indexOf", "(I)I"⟩
abbrev jc_indexOf : ByteArray := prog_17_method_79_code
set_option maxRecDepth 100000 in
theorem jw_indexOf : Cond.code jy_indexOf jc_indexOf 2 (Option.some FieldType.int) ∈ lw_tbl := List.mem_of_getElem? (i := 903) rfl
theorem jp_indexOf : (parseMethodDescriptor jy_indexOf.desc).map (fun d => d.parameters.length) = some 1 := by decide +kernel
set_option maxRecDepth 100000 in
theorem jin_indexOf : Cond.instanceMethod jy_indexOf ∈ lw_tbl := List.mem_of_getElem? (i := 901) rfl
set_option maxRecDepth 100000 in
theorem jse_indexOf : Cond.selects "java/lang/String" jy_indexOf jy_indexOf ∈ lw_tbl := List.mem_of_getElem? (i := 902) rfl
theorem jd_indexOf_0 : decode jc_indexOf 0 = .ok (.aload_n 0, 1) := by decide +kernel
theorem jd_indexOf_1 : decode jc_indexOf 1 = .ok (.iload_n 1, 1) := by decide +kernel
theorem jd_indexOf_2 : decode jc_indexOf 2 = .ok (.iconst 0, 1) := by decide +kernel
theorem jd_indexOf_3 : decode jc_indexOf 3 = .ok (.invokevirtual 633, 3) := by decide +kernel
theorem jd_indexOf_6 : decode jc_indexOf 6 = .ok (.ireturn, 1) := by decide +kernel
set_option maxRecDepth 100000 in
theorem jini_S : Cond.initialized "java/lang/String" ∈ lw_tbl := List.mem_of_getElem? (i := 114) rfl
set_option maxRecDepth 100000 in
theorem jini_L : Cond.initialized "java/lang/StringLatin1" ∈ lw_tbl := List.mem_of_getElem? (i := 115) rfl
set_option maxRecDepth 100000 in
theorem jini_P : Cond.initialized "jdk/internal/util/Preconditions" ∈ lw_tbl := List.mem_of_getElem? (i := 116) rfl
set_option maxRecDepth 100000 in
theorem jl_String_492 : Cond.methodLink "java/lang/String" 492 jy_isLatin1 ∈ lw_tbl := List.mem_of_getElem? (i := 831) rfl
set_option maxRecDepth 100000 in
theorem jl_String_495 : Cond.methodLink "java/lang/String" 495 jy_lcharAt ∈ lw_tbl := List.mem_of_getElem? (i := 837) rfl
set_option maxRecDepth 100000 in
theorem jl_StringLatin1_9 : Cond.methodLink "java/lang/StringLatin1" 9 jy_scheck ∈ lw_tbl := List.mem_of_getElem? (i := 840) rfl
set_option maxRecDepth 100000 in
theorem jl_String_1059 : Cond.methodLink "java/lang/String" 1059 jy_pcheck ∈ lw_tbl := List.mem_of_getElem? (i := 845) rfl
set_option maxRecDepth 100000 in
theorem jl_String_633 : Cond.methodLink "java/lang/String" 633 jy_indexOf2 ∈ lw_tbl := List.mem_of_getElem? (i := 904) rfl
set_option maxRecDepth 100000 in
theorem jl_String_505 : Cond.methodLink "java/lang/String" 505 jy_length ∈ lw_tbl := List.mem_of_getElem? (i := 908) rfl
set_option maxRecDepth 100000 in
theorem jl_String_335 : Cond.methodLink "java/lang/String" 335 jy_coder ∈ lw_tbl := List.mem_of_getElem? (i := 912) rfl
set_option maxRecDepth 100000 in
theorem jl_String_637 : Cond.methodLink "java/lang/String" 637 jy_lindexOf ∈ lw_tbl := List.mem_of_getElem? (i := 916) rfl
set_option maxRecDepth 100000 in
theorem jl_StringLatin1_88 : Cond.methodLink "java/lang/StringLatin1" 88 jy_canEnc ∈ lw_tbl := List.mem_of_getElem? (i := 919) rfl
set_option maxRecDepth 100000 in
theorem jl_StringLatin1_92 : Cond.methodLink "java/lang/StringLatin1" 92 Lib.Math.max.name ∈ lw_tbl := List.mem_of_getElem? (i := 922) rfl
set_option maxRecDepth 100000 in
theorem jl_StringLatin1_38 : Cond.methodLink "java/lang/StringLatin1" 38 Lib.Math.min.name ∈ lw_tbl := List.mem_of_getElem? (i := 923) rfl
set_option maxRecDepth 100000 in
theorem jl_StringLatin1_95 : Cond.methodLink "java/lang/StringLatin1" 95 jy_ixChar ∈ lw_tbl := List.mem_of_getElem? (i := 924) rfl
set_option maxRecDepth 100000 in
theorem jf_38 : Cond.fieldLink "java/lang/String" 38 "java/lang/String" "COMPACT_STRINGS" "Z" ∈ lw_tbl := List.mem_of_getElem? (i := 835) rfl
set_option maxRecDepth 100000 in
theorem jf_1053 : Cond.fieldLink "java/lang/String" 1053 "jdk/internal/util/Preconditions" "SIOOBE_FORMATTER" "Ljava/util/function/BiFunction;" ∈ lw_tbl := List.mem_of_getElem? (i := 843) rfl
set_option maxRecDepth 100000 in
theorem jf_15 : Cond.fieldLink "java/lang/String" 15 "java/lang/String" "coder" "B" ∈ lw_tbl := List.mem_of_getElem? (i := 1938) rfl
set_option maxRecDepth 100000 in
theorem jf_9 : Cond.fieldLink "java/lang/String" 9 "java/lang/String" "value" "[B" ∈ lw_tbl := List.mem_of_getElem? (i := 1939) rfl

def jws (y : MethodName) (bytes : ByteArray) (maxL : Nat) (ret : Option FieldType) : List Cond := Cond.code y bytes maxL ret :: zTB
def jrm (k : Nat) : Room := { frames := k, cells := 0, slots := 0, locals := 40 * k }
def jOld (G : zG) (H : Heap) : Prop := ∀ q, q ≤ zgB G → H[q]? = (zgH G)[q]?
def jPc (G : zG) (as : List Value) : Array Value → State → Prop := fun a U => a = as.toArray ∧ zKS G U ∧ jOld G U.heap
def jQc (v : Option Value) : Array Value → State → Outcome → State → Prop := fun _ st o t => o = .returned v ∧ t.heap = st.heap
theorem jblind {G : zG} {as : List Value} : FrameBlind (jPc G as) := fun a U g mk h => ⟨h.1, zKS.same (s := U) (U := U.calling g mk a) rfl h.2.1, h.2.2⟩
section JC
variable {G : zG} {p : Program} {l : Launch} {e : Env} {R : Room} {s : State} {m : MethodId} {args : Array Value} {below : List Frame} {meth : Method} {c : Code} {H : Heap} {locs : List Loc} {cells slots pc : Nat} {ls : Array Slot} {Q : State → Prop}
theorem jafter {v : Option Value} {a : Array Value} {st0 rest : List Value} (hr : va_Run p l e R s m args below meth c H locs cells slots 0 0 (F0 m pc ls st0) rest (jQc v a) (fun _ => False)) (kk : W p l e R s m args below meth c H locs cells slots Q (F0 m (pc + 3) ls (v.toList ++ rest))) : W p l e R s m args below meth c H locs cells slots Q (F0 m pc ls st0) := by
  intro T hT X
  obtain ⟨v', st₀, t, T', L, h0, X', hL, e1, e2, ⟨hv, hh⟩, st⟩ := hr T hT X
  cases hv
  obtain ⟨t2, a1, b1⟩ := kk T' (by rw [e1, hh, h0]) (Stand.forget X' (fun q h => (hL q h).elim))
  exact ⟨t2, st t2 a1, b1⟩
theorem jgi {y : MethodName} {bytes : ByteArray} {maxL : Nat} {ret : Option FieldType} (h : Cond.code y bytes maxL ret ∈ lw_tbl) : GoodIn zTB (jws y bytes maxL ret) := zGI (fun w hw => by
  rcases List.mem_cons.mp hw with q | q
  · rw [q]; exact zgd h rfl
  · exact q)
theorem jcallS {y : MethodName} {bytes cc : ByteArray} {maxL nL k index : Nat} {ret : Option FieldType} {own : String} {As rest : List Value} {v : Option Value} (hfix : CallFix p m c cc nL s args zTB own) (hM : Met l y (jws y bytes maxL ret) (jrm k) (jPc G As) (jQc v) 0 0 (fun _ => False)) (hco : Cond.code y bytes maxL ret ∈ lw_tbl) (hli : Cond.methodLink own index y ∈ lw_tbl) (hst : Cond.static y ∈ lw_tbl) (hini : Cond.initialized y.cls ∈ lw_tbl)
    (hd : y.cls ≠ "java/lang/invoke/MethodHandle" ∧ y.cls ≠ "java/lang/invoke/VarHandle" ∧ (parseMethodDescriptor y.desc).map (fun d => d.parameters.length) = some As.length) (hR : k + 1 ≤ R.frames ∧ 8 + (maxL + 11) + 40 * k ≤ R.locals) (hKS : zKS G s) (hO : jOld G H) (hsz : ls.size = nL) (hc : (rest.map fun v => v.category).sum ≤ 8) (hcap : cells ≤ R.cells ∧ slots ≤ R.slots) (hdg : decode cc pc = .ok (.invokestatic index, 3))
    (kk : W p l e R s m args below meth c H locs cells slots Q (F0 m (pc + 3) ls (v.toList ++ rest))) : W p l e R s m args below meth c H locs cells slots Q (F0 m pc ls (As.reverse ++ rest)) := by
  have hts := hfix.2.2.2.2
  exact jafter (va_runS (As := As) (rest := rest) (n := As.length) hfix hM ⟨callB_of As.length hts (jgi hco) rfl rfl rfl (hts _ (zgd hini rfl)) (hts _ (zgd hli rfl)) hd hR, hts _ (zgd hst rfl)⟩ ⟨jblind, fun U hU hW => ⟨rfl, zKS.warm hW hKS, by rw [hU]; exact hO⟩⟩ rfl rfl hsz rfl (lv_room hc) hdg hcap) kk
theorem jcallV {y : MethodName} {bytes cc : ByteArray} {maxL nL k index b : Nat} {ret : Option FieldType} {own : String} {As rest : List Value} {v : Option Value} (hfix : CallFix p m c cc nL s args zTB own) (hM : Met l y (jws y bytes maxL ret) (jrm k) (jPc G (.ref b :: As)) (jQc v) 0 0 (fun _ => False)) (hco : Cond.code y bytes maxL ret ∈ lw_tbl) (hli : Cond.methodLink own index y ∈ lw_tbl) (hin : Cond.instanceMethod y ∈ lw_tbl) (hse : Cond.selects "java/lang/String" y y ∈ lw_tbl) (hini : Cond.initialized y.cls ∈ lw_tbl)
    (hd : y.cls ≠ "java/lang/invoke/MethodHandle" ∧ y.cls ≠ "java/lang/invoke/VarHandle" ∧ (parseMethodDescriptor y.desc).map (fun d => d.parameters.length) = some As.length) (hR : k + 1 ≤ R.frames ∧ 8 + (maxL + 11) + 40 * k ≤ R.locals) (hKS : zKS G s) (hO : jOld G H) (hrecv : ∃ cellB : Cell, H[b]? = some cellB ∧ cellB.vm.isStatics = false ∧ s.vm.findClass "java/lang/String" = some cellB.cls) (hsz : ls.size = nL) (hc : (rest.map fun v => v.category).sum ≤ 8) (hcap : cells ≤ R.cells ∧ slots ≤ R.slots) (hdg : decode cc pc = .ok (.invokevirtual index, 3))
    (kk : W p l e R s m args below meth c H locs cells slots Q (F0 m (pc + 3) ls (v.toList ++ rest))) : W p l e R s m args below meth c H locs cells slots Q (F0 m pc ls (As.reverse ++ .ref b :: rest)) := by
  have hts := hfix.2.2.2.2
  exact jafter (va_runV (As := As) (rest := rest) (n := As.length) (C := "java/lang/String") hfix hM ⟨callB_of As.length hts (jgi hco) rfl rfl rfl (hts _ (zgd hini rfl)) (hts _ (zgd hli rfl)) hd hR, hts _ (zgd hin rfl), hts _ (zgd hse rfl)⟩ ⟨jblind, hrecv, fun U hU hW => ⟨rfl, zKS.warm hW hKS, by rw [hU]; exact hO⟩⟩ rfl rfl hsz rfl (lv_room hc) hdg hcap) kk
end JC
/-- the String constants as a later heap holds them -/
theorem jS {G : zG} {s : State} (hKS : zKS G s) (hO : jOld G s.heap) : vk_S 2 [(zstr 0).length, (zstr 1).length] [zsb 0, zsb 1] G.2.2.2.1.1 G.2.2.2.1.2 (zgA G) s s.heap ∧ va_Z "java/lang/String" "COMPACT_STRINGS" "Z" (.int 1) (zgA G) s s.heap := by
  have hq : ∀ a : Nat, a < (zgH G).size → ¬ zgA G a → s.heap[a]? = (zgH G)[a]? := fun a _ h => hO a (Nat.le_of_not_lt h)
  exact ⟨hKS.2.2.2.2.2.2.2.1.kept hq, hKS.2.2.2.2.2.2.2.2.1.kept hq⟩
theorem jF {G : zG} {s : State} (hKS : zKS G s) (hO : jOld G s.heap) : ∃ v, (v = .null ∨ ∃ a, v = .ref a) ∧ va_Z "jdk/internal/util/Preconditions" "SIOOBE_FORMATTER" "Ljava/util/function/BiFunction;" v (zgA G) s s.heap := by
  have hq : ∀ a : Nat, a < (zgH G).size → ¬ zgA G a → s.heap[a]? = (zgH G)[a]? := fun a _ h => hO a (Nat.le_of_not_lt h)
  obtain ⟨v, h1, h2⟩ := hKS.2.2.2.2.2.2.2.2.2
  exact ⟨v, h1, h2.kept hq⟩

set_option maxHeartbeats 4000000 in
set_option maxRecDepth 100000 in
theorem jm_isLatin1 (l : Launch) (G : zG) {j : Nat} (hj : j < 2) : Met l jy_isLatin1 (jws jy_isLatin1 jc_isLatin1 1 (Option.some FieldType.boolean)) (jrm 0) (jPc G [.ref (G.2.2.2.1.1 j)]) (jQc (some (.int 1))) 0 0 (fun _ => False) := by
  refine va_MetF (cc := jc_isLatin1) (maxL := 1) (ret := (Option.some FieldType.boolean)) (by decide +kernel) rfl ?_
  intro p e s m args below meth c s₁ B hml hv
  obtain ⟨rfl, hKS, hO⟩ := hv
  have hx := B.exec
  have hb := B.bytes
  have hr := B.returns
  have hts : ∀ w9 ∈ zTB, w9.before ([.ref (G.2.2.2.1.1 j)] : List Value).toArray s = true := fun w9 hw9 => atoms_spec (ws := jws jy_isLatin1 jc_isLatin1 1 (Option.some FieldType.boolean)) B.pre w9 (List.mem_cons_of_mem _ hw9)
  have hown : s.vm.findClass "java/lang/String" = some m.cls := findClass_of_methodNamed B.named
  have hlocks := B.notSynchronized
  have hS : va_S (zgA G) s.heap s.heap [] := va_S.rf
  have hfix : CallFix p m c jc_isLatin1 1 s ([.ref (G.2.2.2.1.1 j)] : List Value).toArray zTB "java/lang/String" := ⟨hx, hb, hml, hown, hts⟩
  obtain ⟨hSt, hCS⟩ := jS hKS hO
  have hl := lv_entry ([.ref (G.2.2.2.1.1 j)]) (n := 1) (Nat.le_of_ble_eq_true rfl)
  rw [lg_entry_eq]
  generalize (lg_sl ([.ref (G.2.2.2.1.1 j)]) ++ List.replicate (1 - (lg_sl ([.ref (G.2.2.2.1.1 j)])).length) Slot.unset).toArray = ls at hl ⊢
  have hl : lv_has ls 1 [(0, .ref (G.2.2.2.1.1 j))] := hl
  refine va_gets hx hb hCS hS hown (hts _ (zgd jf_38 rfl)) (fun _ h => h) jd_isLatin1_0 ?_
  refine lv_if_eq (tgt := 17) hx hb jd_isLatin1_3 (by decide) (fun q => absurd q (by decide)) (fun _ => ?_)
  refine lv_aload_n hx hb jd_isLatin1_6 rfl (lv_at hl 0 rfl) ?_
  refine vk_getf hx hb (hSt.1 j hj).2.1 hS hown (hts _ (zgd jf_15 rfl)) (fun _ h => h) jd_isLatin1_7 ?_
  refine lv_if_ne (tgt := 17) hx hb jd_isLatin1_10 (by decide) (fun q => absurd rfl q) (fun _ => ?_)
  refine lv_iconst (v := 1) hx hb jd_isLatin1_13 (by decide) ?_
  refine lv_goto (tgt := 18) hx hb jd_isLatin1_14 (by decide) ?_
  exact W.zret (ty := .boolean) hx hb hr (by decide) (fun t ht _ => ⟨rfl, ht⟩) (fun q h => by cases h) jd_isLatin1_18 hlocks
set_option maxHeartbeats 4000000 in
set_option maxRecDepth 100000 in
theorem jm_coder (l : Launch) (G : zG) {j : Nat} (hj : j < 2) : Met l jy_coder (jws jy_coder jc_coder 1 (Option.some FieldType.byte)) (jrm 0) (jPc G [.ref (G.2.2.2.1.1 j)]) (jQc (some (.int 0))) 0 0 (fun _ => False) := by
  refine va_MetF (cc := jc_coder) (maxL := 1) (ret := (Option.some FieldType.byte)) (by decide +kernel) rfl ?_
  intro p e s m args below meth c s₁ B hml hv
  obtain ⟨rfl, hKS, hO⟩ := hv
  have hx := B.exec
  have hb := B.bytes
  have hr := B.returns
  have hts : ∀ w9 ∈ zTB, w9.before ([.ref (G.2.2.2.1.1 j)] : List Value).toArray s = true := fun w9 hw9 => atoms_spec (ws := jws jy_coder jc_coder 1 (Option.some FieldType.byte)) B.pre w9 (List.mem_cons_of_mem _ hw9)
  have hown : s.vm.findClass "java/lang/String" = some m.cls := findClass_of_methodNamed B.named
  have hlocks := B.notSynchronized
  have hS : va_S (zgA G) s.heap s.heap [] := va_S.rf
  have hfix : CallFix p m c jc_coder 1 s ([.ref (G.2.2.2.1.1 j)] : List Value).toArray zTB "java/lang/String" := ⟨hx, hb, hml, hown, hts⟩
  obtain ⟨hSt, hCS⟩ := jS hKS hO
  have hl := lv_entry ([.ref (G.2.2.2.1.1 j)]) (n := 1) (Nat.le_of_ble_eq_true rfl)
  rw [lg_entry_eq]
  generalize (lg_sl ([.ref (G.2.2.2.1.1 j)]) ++ List.replicate (1 - (lg_sl ([.ref (G.2.2.2.1.1 j)])).length) Slot.unset).toArray = ls at hl ⊢
  have hl : lv_has ls 1 [(0, .ref (G.2.2.2.1.1 j))] := hl
  refine va_gets hx hb hCS hS hown (hts _ (zgd jf_38 rfl)) (fun _ h => h) jd_coder_0 ?_
  refine lv_if_eq (tgt := 13) hx hb jd_coder_3 (by decide) (fun q => absurd q (by decide)) (fun _ => ?_)
  refine lv_aload_n hx hb jd_coder_6 rfl (lv_at hl 0 rfl) ?_
  refine vk_getf hx hb (hSt.1 j hj).2.1 hS hown (hts _ (zgd jf_15 rfl)) (fun _ h => h) jd_coder_7 ?_
  refine lv_goto (tgt := 14) hx hb jd_coder_10 (by decide) ?_
  exact W.zret (ty := .byte) hx hb hr (by decide) (fun t ht _ => ⟨rfl, ht⟩) (fun q h => by cases h) jd_coder_14 hlocks
set_option maxHeartbeats 4000000 in
set_option maxRecDepth 100000 in
theorem jm_pcheck (l : Launch) (G : zG) {i n : Int32} {w : Value} (hi : 0 ≤ i) (hn : i < n) (hw : w = .null ∨ ∃ a, w = .ref a) : Met l jy_pcheck (jws jy_pcheck jc_pcheck 3 (Option.some FieldType.int)) (jrm 0) (jPc G [.int i, .int n, w]) (jQc (some (.int i))) 0 0 (fun _ => False) := by
  have hcat : w.category = 1 := by rcases hw with rfl | ⟨a, rfl⟩ <;> rfl
  have hargs : lv_args 0 [.int i, .int n, w] = [(0, .int i), (1, .int n), (2, w)] := by simp [lv_args, Value.category]
  refine va_MetF (cc := jc_pcheck) (maxL := 3) (ret := (Option.some FieldType.int)) (by decide +kernel) rfl ?_
  intro p e s m args below meth c s₁ B hml hv
  obtain ⟨rfl, hKS, hO⟩ := hv
  have hx := B.exec
  have hb := B.bytes
  have hr := B.returns
  have hts : ∀ w9 ∈ zTB, w9.before ([.int i, .int n, w] : List Value).toArray s = true := fun w9 hw9 => atoms_spec (ws := jws jy_pcheck jc_pcheck 3 (Option.some FieldType.int)) B.pre w9 (List.mem_cons_of_mem _ hw9)
  have hown : s.vm.findClass "jdk/internal/util/Preconditions" = some m.cls := findClass_of_methodNamed B.named
  have hlocks := B.notSynchronized
  have hS : va_S (zgA G) s.heap s.heap [] := va_S.rf
  have hfix : CallFix p m c jc_pcheck 3 s ([.int i, .int n, w] : List Value).toArray zTB "jdk/internal/util/Preconditions" := ⟨hx, hb, hml, hown, hts⟩
  obtain ⟨hSt, hCS⟩ := jS hKS hO
  have hl := lv_entry ([.int i, .int n, w]) (n := 3) (by rcases hw with rfl | ⟨a, rfl⟩ <;> exact Nat.le_of_ble_eq_true rfl)
  rw [lg_entry_eq]
  generalize (lg_sl ([.int i, .int n, w]) ++ List.replicate (3 - (lg_sl ([.int i, .int n, w])).length) Slot.unset).toArray = ls at hl ⊢
  have hl : lv_has ls 3 [(0, .int i), (1, .int n), (2, w)] := by rw [hargs] at hl; exact hl
  refine lv_iload_n hx hb jd_pcheck_0 rfl (lv_at hl 0 rfl) ?_
  refine lv_if_lt (tgt := 9) hx hb jd_pcheck_1 (by decide) (fun q => absurd q (Int32.not_lt.mpr hi)) (fun _ => ?_)
  refine lv_iload_n hx hb jd_pcheck_4 rfl (lv_at hl 0 rfl) ?_
  refine lv_iload_n hx hb jd_pcheck_5 rfl (lv_at hl 1 rfl) ?_
  refine lv_icmp_lt (tgt := 16) hx hb jd_pcheck_6 (by decide) (fun _ => ?_) (fun q => absurd hn q)
  refine lv_iload_n hx hb jd_pcheck_16 rfl (lv_at hl 0 rfl) ?_
  exact W.iret hx hb hr (fun t ht _ => ⟨rfl, ht⟩) (fun q h => by cases h) jd_pcheck_17 hlocks
set_option maxHeartbeats 4000000 in
set_option maxRecDepth 100000 in
theorem jm_scheck (l : Launch) (G : zG) {i n : Int32} (hi : 0 ≤ i) (hn : i < n) : Met l jy_scheck (jws jy_scheck jc_scheck 2 (Option.none : Option FieldType)) (jrm 1) (jPc G [.int i, .int n]) (jQc (none)) 0 0 (fun _ => False) := by
  refine va_MetF (cc := jc_scheck) (maxL := 2) (ret := (Option.none : Option FieldType)) (by decide +kernel) rfl ?_
  intro p e s m args below meth c s₁ B hml hv
  obtain ⟨rfl, hKS, hO⟩ := hv
  have hx := B.exec
  have hb := B.bytes
  have hr := B.returns
  have hts : ∀ w9 ∈ zTB, w9.before ([.int i, .int n] : List Value).toArray s = true := fun w9 hw9 => atoms_spec (ws := jws jy_scheck jc_scheck 2 (Option.none : Option FieldType)) B.pre w9 (List.mem_cons_of_mem _ hw9)
  have hown : s.vm.findClass "java/lang/String" = some m.cls := findClass_of_methodNamed B.named
  have hlocks := B.notSynchronized
  have hS : va_S (zgA G) s.heap s.heap [] := va_S.rf
  have hfix : CallFix p m c jc_scheck 2 s ([.int i, .int n] : List Value).toArray zTB "java/lang/String" := ⟨hx, hb, hml, hown, hts⟩
  obtain ⟨hSt, hCS⟩ := jS hKS hO
  have hl := lv_entry ([.int i, .int n]) (n := 2) (Nat.le_of_ble_eq_true rfl)
  rw [lg_entry_eq]
  generalize (lg_sl ([.int i, .int n]) ++ List.replicate (2 - (lg_sl ([.int i, .int n])).length) Slot.unset).toArray = ls at hl ⊢
  have hl : lv_has ls 2 [(0, .int i), (1, .int n)] := hl
  obtain ⟨w, hw, hWZ⟩ := jF hKS hO
  refine lv_iload_n hx hb jd_scheck_0 rfl (lv_at hl 0 rfl) ?_
  refine lv_iload_n hx hb jd_scheck_1 rfl (lv_at hl 1 rfl) ?_
  refine va_gets hx hb hWZ hS hown (hts _ (zgd jf_1053 rfl)) (fun _ h => h) jd_scheck_2 ?_
  refine jcallS (As := [.int i, .int n, w]) (rest := []) hfix (jm_pcheck l G hi hn hw) jw_pcheck jl_String_1059 jst_pcheck jini_P ⟨by decide +kernel, by decide +kernel, jp_pcheck⟩ ⟨Nat.le_of_ble_eq_true rfl, Nat.le_of_ble_eq_true rfl⟩ hKS hO hl.1 (Nat.le_of_ble_eq_true rfl) ⟨Nat.le_refl _, Nat.le_refl _⟩ jd_scheck_5 ?_
  refine lv_pop hx hb jd_scheck_8 rfl ?_
  exact W.vret hx hb hr (fun t ht _ => ⟨rfl, ht⟩) (fun q h => by cases h) jd_scheck_9 hlocks
set_option maxHeartbeats 4000000 in
set_option maxRecDepth 100000 in
theorem jm_lcharAt (l : Launch) (G : zG) {j : Nat} (hj : j < 2) {i : Int32} (hi : vp_in i (([(zstr 0).length, (zstr 1).length] : List Nat).getD j 0)) : Met l jy_lcharAt (jws jy_lcharAt jc_lcharAt 2 (Option.some FieldType.char)) (jrm 2) (jPc G [.ref (G.2.2.2.1.2 j), .int i]) (jQc (some (.int (nI ((zstr j).getD i.toNatClampNeg 0))))) 0 0 (fun _ => False) := by
  refine va_MetF (cc := jc_lcharAt) (maxL := 2) (ret := (Option.some FieldType.char)) (by decide +kernel) rfl ?_
  intro p e s m args below meth c s₁ B hml hv
  obtain ⟨rfl, hKS, hO⟩ := hv
  have hx := B.exec
  have hb := B.bytes
  have hr := B.returns
  have hts : ∀ w9 ∈ zTB, w9.before ([.ref (G.2.2.2.1.2 j), .int i] : List Value).toArray s = true := fun w9 hw9 => atoms_spec (ws := jws jy_lcharAt jc_lcharAt 2 (Option.some FieldType.char)) B.pre w9 (List.mem_cons_of_mem _ hw9)
  have hown : s.vm.findClass "java/lang/StringLatin1" = some m.cls := findClass_of_methodNamed B.named
  have hlocks := B.notSynchronized
  have hS : va_S (zgA G) s.heap s.heap [] := va_S.rf
  have hfix : CallFix p m c jc_lcharAt 2 s ([.ref (G.2.2.2.1.2 j), .int i] : List Value).toArray zTB "java/lang/StringLatin1" := ⟨hx, hb, hml, hown, hts⟩
  obtain ⟨hSt, hCS⟩ := jS hKS hO
  have hl := lv_entry ([.ref (G.2.2.2.1.2 j), .int i]) (n := 2) (Nat.le_of_ble_eq_true rfl)
  rw [lg_entry_eq]
  generalize (lg_sl ([.ref (G.2.2.2.1.2 j), .int i]) ++ List.replicate (2 - (lg_sl ([.ref (G.2.2.2.1.2 j), .int i])).length) Slot.unset).toArray = ls at hl ⊢
  have hl : lv_has ls 2 [(0, .ref (G.2.2.2.1.2 j)), (1, .int i)] := hl
  have hT := (hSt.1 j hj).2.2.2
  have hlen : ([(zstr 0).length, (zstr 1).length] : List Nat).getD j 0 < 2 ^ 31 := by rcases (show j = 0 ∨ j = 1 by omega) with rfl | rfl <;> decide
  obtain ⟨k, hk, rfl⟩ := vp_in_of hi hlen
  have hb2 : ∀ k, k < ([(zstr 0).length, (zstr 1).length] : List Nat).getD j 0 → ((([zsb 0, zsb 1] : List (List Int32)).getD j []).getD k 0 &&& 255).toUInt32 % 65536 = (nI ((zstr j).getD k 0)).toUInt32 ∧ narrow .char (.int (nI ((zstr j).getD k 0))) = .int (nI ((zstr j).getD k 0)) := by
    rcases (show j = 0 ∨ j = 1 by omega) with rfl | rfl <;> decide +kernel
  refine lv_iload_n hx hb jd_lcharAt_0 rfl (lv_at hl 1 rfl) ?_
  refine lv_aload_n hx hb jd_lcharAt_1 rfl (lv_at hl 0 rfl) ?_
  refine va_tlen hx hb hT hS rfl jd_lcharAt_2 ?_
  refine jcallS (As := [.int (nI k), .int (Int32.ofNat (([(zstr 0).length, (zstr 1).length] : List Nat).getD j 0))]) (rest := []) hfix (jm_scheck l G (nI_pos' (by omega)) (nI_lt hk hlen)) jw_scheck jl_StringLatin1_9 jst_scheck jini_S ⟨by decide +kernel, by decide +kernel, jp_scheck⟩ ⟨Nat.le_of_ble_eq_true rfl, Nat.le_of_ble_eq_true rfl⟩ hKS hO hl.1 (Nat.le_of_ble_eq_true rfl) ⟨Nat.le_refl _, Nat.le_refl _⟩ jd_lcharAt_3 ?_
  refine lv_aload_n hx hb jd_lcharAt_6 rfl (lv_at hl 0 rfl) ?_
  refine lv_iload_n hx hb jd_lcharAt_7 rfl (lv_at hl 1 rfl) ?_
  refine va_tb hx hb hT hS hi rfl jd_lcharAt_8 ?_
  refine lv_sipush (v := 255) hx hb jd_lcharAt_9 (by decide) ?_
  refine lv_iand hx hb jd_lcharAt_12 ?_
  refine lv_i2c (v := nI ((zstr j).getD (nI k).toNatClampNeg 0)) hx hb jd_lcharAt_13 (by rw [nI_clamp (by omega), (hb2 k hk).1]; simp) ?_
  exact W.zret (ty := .char) hx hb hr (by rw [nI_clamp (by omega)]; exact (hb2 k hk).2) (fun t ht _ => ⟨rfl, ht⟩) (fun q h => by cases h) jd_lcharAt_14 hlocks
set_option maxHeartbeats 4000000 in
set_option maxRecDepth 100000 in
theorem jm_charAt (l : Launch) (G : zG) {j : Nat} (hj : j < 2) {i : Int32} (hi : vp_in i (([(zstr 0).length, (zstr 1).length] : List Nat).getD j 0)) : Met l jy_charAt (jws jy_charAt jc_charAt 2 (Option.some FieldType.char)) (jrm 3) (jPc G [.ref (G.2.2.2.1.1 j), .int i]) (jQc (some (.int (nI ((zstr j).getD i.toNatClampNeg 0))))) 0 0 (fun _ => False) := by
  refine va_MetF (cc := jc_charAt) (maxL := 2) (ret := (Option.some FieldType.char)) (by decide +kernel) rfl ?_
  intro p e s m args below meth c s₁ B hml hv
  obtain ⟨rfl, hKS, hO⟩ := hv
  have hx := B.exec
  have hb := B.bytes
  have hr := B.returns
  have hts : ∀ w9 ∈ zTB, w9.before ([.ref (G.2.2.2.1.1 j), .int i] : List Value).toArray s = true := fun w9 hw9 => atoms_spec (ws := jws jy_charAt jc_charAt 2 (Option.some FieldType.char)) B.pre w9 (List.mem_cons_of_mem _ hw9)
  have hown : s.vm.findClass "java/lang/String" = some m.cls := findClass_of_methodNamed B.named
  have hlocks := B.notSynchronized
  have hS : va_S (zgA G) s.heap s.heap [] := va_S.rf
  have hfix : CallFix p m c jc_charAt 2 s ([.ref (G.2.2.2.1.1 j), .int i] : List Value).toArray zTB "java/lang/String" := ⟨hx, hb, hml, hown, hts⟩
  obtain ⟨hSt, hCS⟩ := jS hKS hO
  have hl := lv_entry ([.ref (G.2.2.2.1.1 j), .int i]) (n := 2) (Nat.le_of_ble_eq_true rfl)
  rw [lg_entry_eq]
  generalize (lg_sl ([.ref (G.2.2.2.1.1 j), .int i]) ++ List.replicate (2 - (lg_sl ([.ref (G.2.2.2.1.1 j), .int i])).length) Slot.unset).toArray = ls at hl ⊢
  have hl : lv_has ls 2 [(0, .ref (G.2.2.2.1.1 j)), (1, .int i)] := hl
  have hnar : narrow .char (.int (nI ((zstr j).getD i.toNatClampNeg 0))) = .int (nI ((zstr j).getD i.toNatClampNeg 0)) := by
    have hall : ∀ k, k < ([(zstr 0).length, (zstr 1).length] : List Nat).getD j 0 → narrow .char (.int (nI ((zstr j).getD k 0))) = .int (nI ((zstr j).getD k 0)) := by
      rcases (show j = 0 ∨ j = 1 by omega) with rfl | rfl <;> decide +kernel
    exact hall _ (Nat.not_le.mp fun q => hi (Or.inr q))
  refine lv_aload_n hx hb jd_charAt_0 rfl (lv_at hl 0 rfl) ?_
  refine jcallV (As := []) (rest := []) hfix (jm_isLatin1 l G hj) jw_isLatin1 jl_String_492 jin_isLatin1 jse_isLatin1 jini_S ⟨by decide +kernel, by decide +kernel, jp_isLatin1⟩ ⟨Nat.le_of_ble_eq_true rfl, Nat.le_of_ble_eq_true rfl⟩ hKS hO (vk_recv hSt hj hS) hl.1 (Nat.le_of_ble_eq_true rfl) ⟨Nat.le_refl _, Nat.le_refl _⟩ jd_charAt_1 ?_
  refine lv_if_eq (tgt := 16) hx hb jd_charAt_4 (by decide) (fun q => absurd q (by decide)) (fun _ => ?_)
  refine lv_aload_n hx hb jd_charAt_7 rfl (lv_at hl 0 rfl) ?_
  refine vk_getf hx hb (hSt.1 j hj).2.2.1 hS hown (hts _ (zgd jf_9 rfl)) (fun _ h => h) jd_charAt_8 ?_
  refine lv_iload_n hx hb jd_charAt_11 rfl (lv_at hl 1 rfl) ?_
  refine jcallS (As := [.ref (G.2.2.2.1.2 j), .int i]) (rest := []) hfix (jm_lcharAt l G hj hi) jw_lcharAt jl_String_495 jst_lcharAt jini_L ⟨by decide +kernel, by decide +kernel, jp_lcharAt⟩ ⟨Nat.le_of_ble_eq_true rfl, Nat.le_of_ble_eq_true rfl⟩ hKS hO hl.1 (Nat.le_of_ble_eq_true rfl) ⟨Nat.le_refl _, Nat.le_refl _⟩ jd_charAt_12 ?_
  exact W.zret (ty := .char) hx hb hr hnar (fun t ht _ => ⟨rfl, ht⟩) (fun q h => by cases h) jd_charAt_15 hlocks
set_option maxHeartbeats 4000000 in
set_option maxRecDepth 100000 in
theorem jm_length (l : Launch) (G : zG) {j : Nat} (hj : j < 2) : Met l jy_length (jws jy_length jc_length 1 (Option.some FieldType.int)) (jrm 1) (jPc G [.ref (G.2.2.2.1.1 j)]) (jQc (some (.int (Int32.ofNat (([(zstr 0).length, (zstr 1).length] : List Nat).getD j 0))))) 0 0 (fun _ => False) := by
  refine va_MetF (cc := jc_length) (maxL := 1) (ret := (Option.some FieldType.int)) (by decide +kernel) rfl ?_
  intro p e s m args below meth c s₁ B hml hv
  obtain ⟨rfl, hKS, hO⟩ := hv
  have hx := B.exec
  have hb := B.bytes
  have hr := B.returns
  have hts : ∀ w9 ∈ zTB, w9.before ([.ref (G.2.2.2.1.1 j)] : List Value).toArray s = true := fun w9 hw9 => atoms_spec (ws := jws jy_length jc_length 1 (Option.some FieldType.int)) B.pre w9 (List.mem_cons_of_mem _ hw9)
  have hown : s.vm.findClass "java/lang/String" = some m.cls := findClass_of_methodNamed B.named
  have hlocks := B.notSynchronized
  have hS : va_S (zgA G) s.heap s.heap [] := va_S.rf
  have hfix : CallFix p m c jc_length 1 s ([.ref (G.2.2.2.1.1 j)] : List Value).toArray zTB "java/lang/String" := ⟨hx, hb, hml, hown, hts⟩
  obtain ⟨hSt, hCS⟩ := jS hKS hO
  have hl := lv_entry ([.ref (G.2.2.2.1.1 j)]) (n := 1) (Nat.le_of_ble_eq_true rfl)
  rw [lg_entry_eq]
  generalize (lg_sl ([.ref (G.2.2.2.1.1 j)]) ++ List.replicate (1 - (lg_sl ([.ref (G.2.2.2.1.1 j)])).length) Slot.unset).toArray = ls at hl ⊢
  have hl : lv_has ls 1 [(0, .ref (G.2.2.2.1.1 j))] := hl
  have hT := (hSt.1 j hj).2.2.2
  refine lv_aload_n hx hb jd_length_0 rfl (lv_at hl 0 rfl) ?_
  refine vk_getf hx hb (hSt.1 j hj).2.2.1 hS hown (hts _ (zgd jf_9 rfl)) (fun _ h => h) jd_length_1 ?_
  refine va_tlen hx hb hT hS rfl jd_length_4 ?_
  refine lv_aload_n hx hb jd_length_5 rfl (lv_at hl 0 rfl) ?_
  refine jcallV (As := []) (rest := [.int (Int32.ofNat (([(zstr 0).length, (zstr 1).length] : List Nat).getD j 0))]) hfix (jm_coder l G hj) jw_coder jl_String_335 jin_coder jse_coder jini_S ⟨by decide +kernel, by decide +kernel, jp_coder⟩ ⟨Nat.le_of_ble_eq_true rfl, Nat.le_of_ble_eq_true rfl⟩ hKS hO (vk_recv hSt hj hS) hl.1 (Nat.le_of_ble_eq_true rfl) ⟨Nat.le_refl _, Nat.le_refl _⟩ jd_length_6 ?_
  refine lv_ishr hx hb jd_length_9 ?_
  rw [sb_shr0]
  exact W.iret hx hb hr (fun t ht _ => ⟨rfl, ht⟩) (fun q h => by cases h) jd_length_10 hlocks
set_option maxHeartbeats 4000000 in
set_option maxRecDepth 100000 in
theorem jm_canEnc (l : Launch) (G : zG) {x : Int32} (h0 : 0 ≤ x) (h1 : x < 256) : Met l jy_canEnc (jws jy_canEnc jc_canEnc 1 (Option.some FieldType.boolean)) (jrm 0) (jPc G [.int x]) (jQc (some (.int 1))) 0 0 (fun _ => False) := by
  refine va_MetF (cc := jc_canEnc) (maxL := 1) (ret := (Option.some FieldType.boolean)) (by decide +kernel) rfl ?_
  intro p e s m args below meth c s₁ B hml hv
  obtain ⟨rfl, hKS, hO⟩ := hv
  have hx := B.exec
  have hb := B.bytes
  have hr := B.returns
  have hts : ∀ w9 ∈ zTB, w9.before ([.int x] : List Value).toArray s = true := fun w9 hw9 => atoms_spec (ws := jws jy_canEnc jc_canEnc 1 (Option.some FieldType.boolean)) B.pre w9 (List.mem_cons_of_mem _ hw9)
  have hown : s.vm.findClass "java/lang/StringLatin1" = some m.cls := findClass_of_methodNamed B.named
  have hlocks := B.notSynchronized
  have hS : va_S (zgA G) s.heap s.heap [] := va_S.rf
  have hfix : CallFix p m c jc_canEnc 1 s ([.int x] : List Value).toArray zTB "java/lang/StringLatin1" := ⟨hx, hb, hml, hown, hts⟩
  obtain ⟨hSt, hCS⟩ := jS hKS hO
  have hl := lv_entry ([.int x]) (n := 1) (Nat.le_of_ble_eq_true rfl)
  rw [lg_entry_eq]
  generalize (lg_sl ([.int x]) ++ List.replicate (1 - (lg_sl ([.int x])).length) Slot.unset).toArray = ls at hl ⊢
  have hl : lv_has ls 1 [(0, .int x)] := hl
  refine lv_iload_n hx hb jd_canEnc_0 rfl (lv_at hl 0 rfl) ?_
  refine lv_if_lt (tgt := 15) hx hb jd_canEnc_1 (by decide) (fun q => absurd q (Int32.not_lt.mpr h0)) (fun _ => ?_)
  refine lv_iload_n hx hb jd_canEnc_4 rfl (lv_at hl 0 rfl) ?_
  refine lv_sipush (v := 255) hx hb jd_canEnc_5 (by decide) ?_
  refine lv_icmp_gt (tgt := 15) hx hb jd_canEnc_8 (by decide) (fun q => ?_) (fun _ => ?_)
  · exfalso
    have a1 := Int32.lt_iff_toInt_lt.mp q
    have a2 := Int32.lt_iff_toInt_lt.mp h1
    have e1 : (255 : Int32).toInt = 255 := by decide
    have e2 : (256 : Int32).toInt = 256 := by decide
    omega
  refine lv_iconst (v := 1) hx hb jd_canEnc_11 (by decide) ?_
  refine lv_goto (tgt := 16) hx hb jd_canEnc_12 (by decide) ?_
  exact W.zret (ty := .boolean) hx hb hr (by decide) (fun t ht _ => ⟨rfl, ht⟩) (fun q h => by cases h) jd_canEnc_16 hlocks
theorem zixOf_drop (l : List Nat) (x : Int32) : ∀ k, k < l.length → zixOf (l.drop k) x k = if nI (l.getD k 0) = x then nI k else zixOf (l.drop (k + 1)) x (k + 1) := by
  intro k hk
  rw [List.drop_eq_getElem_cons hk, zixOf]
  rw [List.getD_eq_getElem?_getD, List.getElem?_eq_getElem hk]
  rfl
theorem jbyte (j : Nat) (hj : j < 2) {n : Nat} (hn : n < 256) : ∀ k, k < ([(zstr 0).length, (zstr 1).length] : List Nat).getD j 0 → ((([zsb 0, zsb 1] : List (List Int32)).getD j []).getD k 0 = (nI n).toInt8.toInt32 ↔ nI ((zstr j).getD k 0) = nI n) := by
  have hb : ∀ k, k < ([(zstr 0).length, (zstr 1).length] : List Nat).getD j 0 → (([zsb 0, zsb 1] : List (List Int32)).getD j []).getD k 0 = nI ((zstr j).getD k 0) ∧ (zstr j).getD k 0 < 128 := by
    rcases (show j = 0 ∨ j = 1 by omega) with rfl | rfl <;> decide +kernel
  intro k hk
  obtain ⟨b1, b2⟩ := hb k hk
  rw [b1]
  have h8 : ∀ a, a < 128 → ∀ b, b < 256 → (nI a = (nI b).toInt8.toInt32 ↔ nI a = nI b) := by decide +kernel
  exact h8 _ b2 _ hn

set_option maxHeartbeats 4000000 in
set_option maxRecDepth 100000 in
theorem jm_ixChar (l : Launch) (G : zG) {j : Nat} (hj : j < 2) {n : Nat} (hn : n < 256) : Met l jy_ixChar (jws jy_ixChar jc_ixChar 6 (Option.some FieldType.int)) (jrm 0) (jPc G [.ref (G.2.2.2.1.2 j), .int (nI n), .int 0, .int (Int32.ofNat (([(zstr 0).length, (zstr 1).length] : List Nat).getD j 0))]) (jQc (some (.int (zixOf (zstr j) (nI n) 0)))) 0 0 (fun _ => False) := by
  refine va_MetF (cc := jc_ixChar) (maxL := 6) (ret := (Option.some FieldType.int)) (by decide +kernel) rfl ?_
  intro p e s m args below meth c s₁ B hml hv
  obtain ⟨rfl, hKS, hO⟩ := hv
  have hx := B.exec
  have hb := B.bytes
  have hr := B.returns
  have hts : ∀ w9 ∈ zTB, w9.before ([.ref (G.2.2.2.1.2 j), .int (nI n), .int 0, .int (Int32.ofNat (([(zstr 0).length, (zstr 1).length] : List Nat).getD j 0))] : List Value).toArray s = true := fun w9 hw9 => atoms_spec (ws := jws jy_ixChar jc_ixChar 6 (Option.some FieldType.int)) B.pre w9 (List.mem_cons_of_mem _ hw9)
  have hown : s.vm.findClass "java/lang/StringLatin1" = some m.cls := findClass_of_methodNamed B.named
  have hlocks := B.notSynchronized
  have hS : va_S (zgA G) s.heap s.heap [] := va_S.rf
  have hfix : CallFix p m c jc_ixChar 6 s ([.ref (G.2.2.2.1.2 j), .int (nI n), .int 0, .int (Int32.ofNat (([(zstr 0).length, (zstr 1).length] : List Nat).getD j 0))] : List Value).toArray zTB "java/lang/StringLatin1" := ⟨hx, hb, hml, hown, hts⟩
  obtain ⟨hSt, hCS⟩ := jS hKS hO
  have hl := lv_entry ([.ref (G.2.2.2.1.2 j), .int (nI n), .int 0, .int (Int32.ofNat (([(zstr 0).length, (zstr 1).length] : List Nat).getD j 0))]) (n := 6) (Nat.le_of_ble_eq_true rfl)
  rw [lg_entry_eq]
  generalize (lg_sl ([.ref (G.2.2.2.1.2 j), .int (nI n), .int 0, .int (Int32.ofNat (([(zstr 0).length, (zstr 1).length] : List Nat).getD j 0))]) ++ List.replicate (6 - (lg_sl ([.ref (G.2.2.2.1.2 j), .int (nI n), .int 0, .int (Int32.ofNat (([(zstr 0).length, (zstr 1).length] : List Nat).getD j 0))])).length) Slot.unset).toArray = ls at hl ⊢
  have hl : lv_has ls 6 [(0, .ref (G.2.2.2.1.2 j)), (1, .int (nI n)), (2, .int 0), (3, .int (Int32.ofNat (([(zstr 0).length, (zstr 1).length] : List Nat).getD j 0)))] := hl
  have hT := (hSt.1 j hj).2.2.2
  have hlen : ([(zstr 0).length, (zstr 1).length] : List Nat).getD j 0 < 2 ^ 31 := by rcases (show j = 0 ∨ j = 1 by omega) with rfl | rfl <;> decide
  have hleq : ([(zstr 0).length, (zstr 1).length] : List Nat).getD j 0 = (zstr j).length := by rcases (show j = 0 ∨ j = 1 by omega) with rfl | rfl <;> rfl
  refine lv_iload_n hx hb jd_ixChar_0 rfl (lv_at hl 1 rfl) ?_
  refine t_i2b hx hb jd_ixChar_1 rfl ?_
  refine lv_istore (lv' := [(4, .int (nI n).toInt8.toInt32), (0, .ref (G.2.2.2.1.2 j)), (1, .int (nI n)), (2, .int 0), (3, .int (Int32.ofNat (([(zstr 0).length, (zstr 1).length] : List Nat).getD j 0)))]) hx hb jd_ixChar_2 hl (by decide) rfl (fun ls hl => ?_)
  refine lv_iload_n hx hb jd_ixChar_4 rfl (lv_at hl 3 rfl) ?_
  refine lv_istore (lv' := [(5, .int 0), (4, .int (nI n).toInt8.toInt32), (0, .ref (G.2.2.2.1.2 j)), (1, .int (nI n)), (2, .int 0), (3, .int (Int32.ofNat (([(zstr 0).length, (zstr 1).length] : List Nat).getD j 0)))]) hx hb jd_ixChar_5 hl (by decide) rfl (fun ls hl => ?_)
  have loop : ∀ (d k : Nat) (ls : Array Slot), (zstr j).length - k = d → k ≤ (zstr j).length → lv_has ls 6 [(5, .int (nI k)), (4, .int (nI n).toInt8.toInt32), (0, .ref (G.2.2.2.1.2 j)), (1, .int (nI n)), (2, .int 0), (3, .int (Int32.ofNat (([(zstr 0).length, (zstr 1).length] : List Nat).getD j 0)))] → zixOf ((zstr j).drop k) (nI n) k = zixOf (zstr j) (nI n) 0 →
      W p l e (headSpec (jws jy_ixChar jc_ixChar 6 (some .int)) (jrm 0)).room s m ([.ref (G.2.2.2.1.2 j), .int (nI n), .int 0, .int (Int32.ofNat (([(zstr 0).length, (zstr 1).length] : List Nat).getD j 0))] : List Value).toArray below meth c s.heap [] 0 0 (MQ below (jQc (some (.int (zixOf (zstr j) (nI n) 0)))) ([.ref (G.2.2.2.1.2 j), .int (nI n), .int 0, .int (Int32.ofNat (([(zstr 0).length, (zstr 1).length] : List Nat).getD j 0))] : List Value).toArray s 0 0 (fun _ => False)) (F0 m 7 ls []) := by
    intro d
    induction d with
    | zero =>
      intro k ls hd hk hl he
      have hke : k = (zstr j).length := by omega
      refine lv_iload hx hb jd_ixChar_7 (lv_at hl 0 rfl) ?_
      refine lv_iload_n hx hb jd_ixChar_9 rfl (lv_at hl 5 rfl) ?_
      refine lv_icmp_ge (tgt := 31) hx hb jd_ixChar_10 (by decide) (fun _ => ?_) (fun q => ?_)
      · refine lv_iconst (v := -1) hx hb jd_ixChar_31 (by decide) ?_
        have e9 : zixOf (zstr j) (nI n) 0 = -1 := by rw [← he, hke, List.drop_length]; rfl
        rw [e9]
        exact W.iret hx hb hr (fun t ht _ => ⟨rfl, ht⟩) (fun q h => by cases h) jd_ixChar_32 hlocks
      · exact absurd (by rw [hke, ← hleq]; exact nI_le (Nat.le_refl _) hlen) q
    | succ d ih =>
      intro k ls hd hk hl he
      have hkl : k < ([(zstr 0).length, (zstr 1).length] : List Nat).getD j 0 := by rw [hleq]; omega
      refine lv_iload hx hb jd_ixChar_7 (lv_at hl 0 rfl) ?_
      refine lv_iload_n hx hb jd_ixChar_9 rfl (lv_at hl 5 rfl) ?_
      refine lv_icmp_ge (tgt := 31) hx hb jd_ixChar_10 (by decide) (fun q => absurd q (nI_ge hkl hlen)) (fun _ => ?_)
      refine lv_aload_n hx hb jd_ixChar_13 rfl (lv_at hl 2 rfl) ?_
      refine lv_iload hx hb jd_ixChar_14 (lv_at hl 0 rfl) ?_
      refine va_tb hx hb hT hS (vp_in_nI hkl hlen) (v := .int ((([zsb 0, zsb 1] : List (List Int32)).getD j []).getD k 0)) (by rw [nI_clamp (by omega)]) jd_ixChar_16 ?_
      refine lv_iload hx hb jd_ixChar_17 (lv_at hl 1 rfl) ?_
      rw [zixOf_drop _ _ k (by omega)] at he
      refine lv_icmp_ne (tgt := 25) hx hb jd_ixChar_19 (by decide) (fun q => ?_) (fun q => ?_)
      · rw [if_neg (fun z => q ((jbyte j hj hn k hkl).mpr z))] at he
        refine lv_iinc (v := nI (k + 1)) (lv' := [(5, .int (nI (k + 1))), (4, .int (nI n).toInt8.toInt32), (0, .ref (G.2.2.2.1.2 j)), (1, .int (nI n)), (2, .int 0), (3, .int (Int32.ofNat (([(zstr 0).length, (zstr 1).length] : List Nat).getD j 0)))]) hx hb jd_ixChar_25 hl (k := 0) rfl (nI_1 k) (by decide) rfl (fun ls hl => ?_)
        refine lv_goto (tgt := 7) hx hb jd_ixChar_28 (by decide) ?_
        exact ih (k + 1) ls (by omega) (by omega) hl he
      · rw [if_pos ((jbyte j hj hn k hkl).mp q)] at he
        refine lv_iload hx hb jd_ixChar_22 (lv_at hl 0 rfl) ?_
        rw [← he]
        exact W.iret hx hb hr (fun t ht _ => ⟨rfl, ht⟩) (fun q h => by cases h) jd_ixChar_24 hlocks
  exact loop _ 0 ls rfl (Nat.zero_le _) hl rfl
set_option maxHeartbeats 4000000 in
set_option maxRecDepth 100000 in
theorem jm_lindexOf (l : Launch) (G : zG) {j : Nat} (hj : j < 2) {n : Nat} (hn : n < 256) : Met l jy_lindexOf (jws jy_lindexOf jc_lindexOf 4 (Option.some FieldType.int)) (jrm 1) (jPc G [.ref (G.2.2.2.1.2 j), .int (nI n), .int 0, .int (Int32.ofNat (([(zstr 0).length, (zstr 1).length] : List Nat).getD j 0))]) (jQc (some (.int (zixOf (zstr j) (nI n) 0)))) 0 0 (fun _ => False) := by
  refine va_MetF (cc := jc_lindexOf) (maxL := 4) (ret := (Option.some FieldType.int)) (by decide +kernel) rfl ?_
  intro p e s m args below meth c s₁ B hml hv
  obtain ⟨rfl, hKS, hO⟩ := hv
  have hx := B.exec
  have hb := B.bytes
  have hr := B.returns
  have hts : ∀ w9 ∈ zTB, w9.before ([.ref (G.2.2.2.1.2 j), .int (nI n), .int 0, .int (Int32.ofNat (([(zstr 0).length, (zstr 1).length] : List Nat).getD j 0))] : List Value).toArray s = true := fun w9 hw9 => atoms_spec (ws := jws jy_lindexOf jc_lindexOf 4 (Option.some FieldType.int)) B.pre w9 (List.mem_cons_of_mem _ hw9)
  have hown : s.vm.findClass "java/lang/StringLatin1" = some m.cls := findClass_of_methodNamed B.named
  have hlocks := B.notSynchronized
  have hS : va_S (zgA G) s.heap s.heap [] := va_S.rf
  have hfix : CallFix p m c jc_lindexOf 4 s ([.ref (G.2.2.2.1.2 j), .int (nI n), .int 0, .int (Int32.ofNat (([(zstr 0).length, (zstr 1).length] : List Nat).getD j 0))] : List Value).toArray zTB "java/lang/StringLatin1" := ⟨hx, hb, hml, hown, hts⟩
  obtain ⟨hSt, hCS⟩ := jS hKS hO
  have hl := lv_entry ([.ref (G.2.2.2.1.2 j), .int (nI n), .int 0, .int (Int32.ofNat (([(zstr 0).length, (zstr 1).length] : List Nat).getD j 0))]) (n := 4) (Nat.le_of_ble_eq_true rfl)
  rw [lg_entry_eq]
  generalize (lg_sl ([.ref (G.2.2.2.1.2 j), .int (nI n), .int 0, .int (Int32.ofNat (([(zstr 0).length, (zstr 1).length] : List Nat).getD j 0))]) ++ List.replicate (4 - (lg_sl ([.ref (G.2.2.2.1.2 j), .int (nI n), .int 0, .int (Int32.ofNat (([(zstr 0).length, (zstr 1).length] : List Nat).getD j 0))])).length) Slot.unset).toArray = ls at hl ⊢
  have hl : lv_has ls 4 [(0, .ref (G.2.2.2.1.2 j)), (1, .int (nI n)), (2, .int 0), (3, .int (Int32.ofNat (([(zstr 0).length, (zstr 1).length] : List Nat).getD j 0)))] := hl
  have hT := (hSt.1 j hj).2.2.2
  have hlen : ([(zstr 0).length, (zstr 1).length] : List Nat).getD j 0 < 2 ^ 31 := by rcases (show j = 0 ∨ j = 1 by omega) with rfl | rfl <;> decide
  have hpos : 0 < ([(zstr 0).length, (zstr 1).length] : List Nat).getD j 0 := by rcases (show j = 0 ∨ j = 1 by omega) with rfl | rfl <;> decide
  have h256 : nI n < 256 := nI_lt (b := 256) hn (by decide)
  refine lv_iload_n hx hb jd_lindexOf_0 rfl (lv_at hl 1 rfl) ?_
  refine jcallS (As := [.int (nI n)]) (rest := []) hfix (jm_canEnc l G (nI_pos' (by omega)) h256) jw_canEnc jl_StringLatin1_88 jst_canEnc jini_L ⟨by decide +kernel, by decide +kernel, jp_canEnc⟩ ⟨Nat.le_of_ble_eq_true rfl, Nat.le_of_ble_eq_true rfl⟩ hKS hO hl.1 (Nat.le_of_ble_eq_true rfl) ⟨Nat.le_refl _, Nat.le_refl _⟩ jd_lindexOf_1 ?_
  refine lv_if_ne (tgt := 9) hx hb jd_lindexOf_4 (by decide) (fun _ => ?_) (fun q => absurd q (by decide))
  refine lv_iload_n hx hb jd_lindexOf_9 rfl (lv_at hl 2 rfl) ?_
  refine lv_iconst (v := 0) hx hb jd_lindexOf_10 (by decide) ?_
  refine va_mmax hx hb (hml.trans hl.1.symm) hown (hts _ (zgd jl_StringLatin1_92 rfl)) (hts _ (zgd zw_max_s rfl)) (hts _ (zgd zw_mini rfl)) (hts _ (zgd zw_max_c rfl)) (Nat.le_of_ble_eq_true rfl) (Nat.le_of_ble_eq_true rfl) (Nat.le_refl _) (Nat.le_refl _) jd_lindexOf_11 ?_
  rw [show (if (0 : Int32) < 0 then (0 : Int32) else 0) = 0 by decide]
  refine lv_istore_n (lv' := [(2, .int 0), (0, .ref (G.2.2.2.1.2 j)), (1, .int (nI n)), (3, .int (Int32.ofNat (([(zstr 0).length, (zstr 1).length] : List Nat).getD j 0)))]) hx hb jd_lindexOf_14 rfl hl (by decide) rfl (fun ls hl => ?_)
  refine lv_iload_n hx hb jd_lindexOf_15 rfl (lv_at hl 3 rfl) ?_
  refine lv_aload_n hx hb jd_lindexOf_16 rfl (lv_at hl 1 rfl) ?_
  refine va_tlen hx hb hT hS rfl jd_lindexOf_17 ?_
  refine va_mmin hx hb (hml.trans hl.1.symm) hown (hts _ (zgd jl_StringLatin1_38 rfl)) (hts _ (zgd zw_min_s rfl)) (hts _ (zgd zw_mini rfl)) (hts _ (zgd zw_min_c rfl)) (Nat.le_of_ble_eq_true rfl) (Nat.le_of_ble_eq_true rfl) (Nat.le_refl _) (Nat.le_refl _) jd_lindexOf_18 ?_
  rw [ite_self]
  refine lv_istore_n (lv' := [(3, .int (Int32.ofNat (([(zstr 0).length, (zstr 1).length] : List Nat).getD j 0))), (2, .int 0), (0, .ref (G.2.2.2.1.2 j)), (1, .int (nI n))]) hx hb jd_lindexOf_21 rfl hl (by decide) rfl (fun ls hl => ?_)
  refine lv_iload_n hx hb jd_lindexOf_22 rfl (lv_at hl 1 rfl) ?_
  refine lv_iload_n hx hb jd_lindexOf_23 rfl (lv_at hl 0 rfl) ?_
  refine lv_icmp_lt (tgt := 29) hx hb jd_lindexOf_24 (by decide) (fun _ => ?_) (fun q => absurd (nI_lt (a := 0) hpos hlen) q)
  refine lv_aload_n hx hb jd_lindexOf_29 rfl (lv_at hl 2 rfl) ?_
  refine lv_iload_n hx hb jd_lindexOf_30 rfl (lv_at hl 3 rfl) ?_
  refine lv_iload_n hx hb jd_lindexOf_31 rfl (lv_at hl 1 rfl) ?_
  refine lv_iload_n hx hb jd_lindexOf_32 rfl (lv_at hl 0 rfl) ?_
  refine jcallS (As := [.ref (G.2.2.2.1.2 j), .int (nI n), .int 0, .int (Int32.ofNat (([(zstr 0).length, (zstr 1).length] : List Nat).getD j 0))]) (rest := []) hfix (jm_ixChar l G hj hn) jw_ixChar jl_StringLatin1_95 jst_ixChar jini_L ⟨by decide +kernel, by decide +kernel, jp_ixChar⟩ ⟨Nat.le_of_ble_eq_true rfl, Nat.le_of_ble_eq_true rfl⟩ hKS hO hl.1 (Nat.le_of_ble_eq_true rfl) ⟨Nat.le_refl _, Nat.le_refl _⟩ jd_lindexOf_33 ?_
  exact W.iret hx hb hr (fun t ht _ => ⟨rfl, ht⟩) (fun q h => by cases h) jd_lindexOf_36 hlocks
set_option maxHeartbeats 4000000 in
set_option maxRecDepth 100000 in
theorem jm_indexOf2 (l : Launch) (G : zG) {j : Nat} (hj : j < 2) {n : Nat} (hn : n < 256) : Met l jy_indexOf2 (jws jy_indexOf2 jc_indexOf2 3 (Option.some FieldType.int)) (jrm 2) (jPc G [.ref (G.2.2.2.1.1 j), .int (nI n), .int 0]) (jQc (some (.int (zixOf (zstr j) (nI n) 0)))) 0 0 (fun _ => False) := by
  refine va_MetF (cc := jc_indexOf2) (maxL := 3) (ret := (Option.some FieldType.int)) (by decide +kernel) rfl ?_
  intro p e s m args below meth c s₁ B hml hv
  obtain ⟨rfl, hKS, hO⟩ := hv
  have hx := B.exec
  have hb := B.bytes
  have hr := B.returns
  have hts : ∀ w9 ∈ zTB, w9.before ([.ref (G.2.2.2.1.1 j), .int (nI n), .int 0] : List Value).toArray s = true := fun w9 hw9 => atoms_spec (ws := jws jy_indexOf2 jc_indexOf2 3 (Option.some FieldType.int)) B.pre w9 (List.mem_cons_of_mem _ hw9)
  have hown : s.vm.findClass "java/lang/String" = some m.cls := findClass_of_methodNamed B.named
  have hlocks := B.notSynchronized
  have hS : va_S (zgA G) s.heap s.heap [] := va_S.rf
  have hfix : CallFix p m c jc_indexOf2 3 s ([.ref (G.2.2.2.1.1 j), .int (nI n), .int 0] : List Value).toArray zTB "java/lang/String" := ⟨hx, hb, hml, hown, hts⟩
  obtain ⟨hSt, hCS⟩ := jS hKS hO
  have hl := lv_entry ([.ref (G.2.2.2.1.1 j), .int (nI n), .int 0]) (n := 3) (Nat.le_of_ble_eq_true rfl)
  rw [lg_entry_eq]
  generalize (lg_sl ([.ref (G.2.2.2.1.1 j), .int (nI n), .int 0]) ++ List.replicate (3 - (lg_sl ([.ref (G.2.2.2.1.1 j), .int (nI n), .int 0])).length) Slot.unset).toArray = ls at hl ⊢
  have hl : lv_has ls 3 [(0, .ref (G.2.2.2.1.1 j)), (1, .int (nI n)), (2, .int 0)] := hl
  refine lv_aload_n hx hb jd_indexOf2_0 rfl (lv_at hl 0 rfl) ?_
  refine jcallV (As := []) (rest := []) hfix (jm_isLatin1 l G hj) jw_isLatin1 jl_String_492 jin_isLatin1 jse_isLatin1 jini_S ⟨by decide +kernel, by decide +kernel, jp_isLatin1⟩ ⟨Nat.le_of_ble_eq_true rfl, Nat.le_of_ble_eq_true rfl⟩ hKS hO (vk_recv hSt hj hS) hl.1 (Nat.le_of_ble_eq_true rfl) ⟨Nat.le_refl _, Nat.le_refl _⟩ jd_indexOf2_1 ?_
  refine lv_if_eq (tgt := 23) hx hb jd_indexOf2_4 (by decide) (fun q => absurd q (by decide)) (fun _ => ?_)
  refine lv_aload_n hx hb jd_indexOf2_7 rfl (lv_at hl 0 rfl) ?_
  refine vk_getf hx hb (hSt.1 j hj).2.2.1 hS hown (hts _ (zgd jf_9 rfl)) (fun _ h => h) jd_indexOf2_8 ?_
  refine lv_iload_n hx hb jd_indexOf2_11 rfl (lv_at hl 1 rfl) ?_
  refine lv_iload_n hx hb jd_indexOf2_12 rfl (lv_at hl 2 rfl) ?_
  refine lv_aload_n hx hb jd_indexOf2_13 rfl (lv_at hl 0 rfl) ?_
  refine jcallV (As := []) (rest := [.int 0, .int (nI n), .ref (G.2.2.2.1.2 j)]) hfix (jm_length l G hj) jw_length jl_String_505 jin_length jse_length jini_S ⟨by decide +kernel, by decide +kernel, jp_length⟩ ⟨Nat.le_of_ble_eq_true rfl, Nat.le_of_ble_eq_true rfl⟩ hKS hO (vk_recv hSt hj hS) hl.1 (Nat.le_of_ble_eq_true rfl) ⟨Nat.le_refl _, Nat.le_refl _⟩ jd_indexOf2_14 ?_
  refine jcallS (As := [.ref (G.2.2.2.1.2 j), .int (nI n), .int 0, .int (Int32.ofNat (([(zstr 0).length, (zstr 1).length] : List Nat).getD j 0))]) (rest := []) hfix (jm_lindexOf l G hj hn) jw_lindexOf jl_String_637 jst_lindexOf jini_L ⟨by decide +kernel, by decide +kernel, jp_lindexOf⟩ ⟨Nat.le_of_ble_eq_true rfl, Nat.le_of_ble_eq_true rfl⟩ hKS hO hl.1 (Nat.le_of_ble_eq_true rfl) ⟨Nat.le_refl _, Nat.le_refl _⟩ jd_indexOf2_17 ?_
  refine lv_goto (tgt := 36) hx hb jd_indexOf2_20 (by decide) ?_
  exact W.iret hx hb hr (fun t ht _ => ⟨rfl, ht⟩) (fun q h => by cases h) jd_indexOf2_36 hlocks
set_option maxHeartbeats 4000000 in
set_option maxRecDepth 100000 in
theorem jm_indexOf (l : Launch) (G : zG) {j : Nat} (hj : j < 2) {n : Nat} (hn : n < 256) : Met l jy_indexOf (jws jy_indexOf jc_indexOf 2 (Option.some FieldType.int)) (jrm 3) (jPc G [.ref (G.2.2.2.1.1 j), .int (nI n)]) (jQc (some (.int (zixOf (zstr j) (nI n) 0)))) 0 0 (fun _ => False) := by
  refine va_MetF (cc := jc_indexOf) (maxL := 2) (ret := (Option.some FieldType.int)) (by decide +kernel) rfl ?_
  intro p e s m args below meth c s₁ B hml hv
  obtain ⟨rfl, hKS, hO⟩ := hv
  have hx := B.exec
  have hb := B.bytes
  have hr := B.returns
  have hts : ∀ w9 ∈ zTB, w9.before ([.ref (G.2.2.2.1.1 j), .int (nI n)] : List Value).toArray s = true := fun w9 hw9 => atoms_spec (ws := jws jy_indexOf jc_indexOf 2 (Option.some FieldType.int)) B.pre w9 (List.mem_cons_of_mem _ hw9)
  have hown : s.vm.findClass "java/lang/String" = some m.cls := findClass_of_methodNamed B.named
  have hlocks := B.notSynchronized
  have hS : va_S (zgA G) s.heap s.heap [] := va_S.rf
  have hfix : CallFix p m c jc_indexOf 2 s ([.ref (G.2.2.2.1.1 j), .int (nI n)] : List Value).toArray zTB "java/lang/String" := ⟨hx, hb, hml, hown, hts⟩
  obtain ⟨hSt, hCS⟩ := jS hKS hO
  have hl := lv_entry ([.ref (G.2.2.2.1.1 j), .int (nI n)]) (n := 2) (Nat.le_of_ble_eq_true rfl)
  rw [lg_entry_eq]
  generalize (lg_sl ([.ref (G.2.2.2.1.1 j), .int (nI n)]) ++ List.replicate (2 - (lg_sl ([.ref (G.2.2.2.1.1 j), .int (nI n)])).length) Slot.unset).toArray = ls at hl ⊢
  have hl : lv_has ls 2 [(0, .ref (G.2.2.2.1.1 j)), (1, .int (nI n))] := hl
  refine lv_aload_n hx hb jd_indexOf_0 rfl (lv_at hl 0 rfl) ?_
  refine lv_iload_n hx hb jd_indexOf_1 rfl (lv_at hl 1 rfl) ?_
  refine lv_iconst (v := 0) hx hb jd_indexOf_2 (by decide) ?_
  refine jcallV (As := [.int (nI n), .int 0]) (rest := []) hfix (jm_indexOf2 l G hj hn) jw_indexOf2 jl_String_633 jin_indexOf2 jse_indexOf2 jini_S ⟨by decide +kernel, by decide +kernel, jp_indexOf2⟩ ⟨Nat.le_of_ble_eq_true rfl, Nat.le_of_ble_eq_true rfl⟩ hKS hO (vk_recv hSt hj hS) hl.1 (Nat.le_of_ble_eq_true rfl) ⟨Nat.le_refl _, Nat.le_refl _⟩ jd_indexOf_3 ?_
  exact W.iret hx hb hr (fun t ht _ => ⟨rfl, ht⟩) (fun q h => by cases h) jd_indexOf_6 hlocks
theorem zs_str {G : zG} {y pc len b c0 : Nat} {v : Value} {lv st : List Value} {hp : zHp} {res : Nat × List Value × List Value × zHp} {n : Nat} (hk : zchk y (pc, len, (.invokevirtual n), v, b, c0) = true) (hb0 : ¬ b = 0) (h : zstp y (pc, len, (.invokevirtual n), v, b, c0) lv st hp = some (true, .inl res)) : zSnd G y pc lv st hp res := by
  intro p l e R s m args below meth c H locs ls cells slots Q C hn hR hrel hlv hlo hcap1 hcap2 kk
  obtain ⟨hx, hb, hml, hown, hts, hKS, hin⟩ := C
  obtain ⟨hdg, hi⟩ := zchk_dec hk
  dsimp only at hdg hi
  simp only [zchkI, Bool.and_eq_true, Bool.or_eq_true, decide_eq_true_eq] at hi
  obtain ⟨rfl, hi⟩ := hi
  have hO : jOld G H := hrel.2.2.1
  have hSt := hKS.2.2.2.2.2.2.2.1
  have hfix : CallFix p m c (zM y).2.1 (zmL y) s args zTB (zRn (zown y)) := ⟨hx, hb, hml, hown, hts⟩
  have hsz : ls.size = zmL y := by rw [hlv.1, hn]
  have hcats : ∀ (t : List Value), zcats t ≤ 8 → ((t.map (zvr (zro G))).map fun v => v.category).sum ≤ 8 := by
    intro t ht
    rw [List.map_map, show ((fun v : Value => v.category) ∘ zvr (zro G)) = fun v => v.category from funext fun q => zvr_cat _ q]
    exact ht
  have hrecv : ∀ j, j < 2 → ∃ cellB : Cell, H[G.2.2.2.1.1 j]? = some cellB ∧ cellB.vm.isStatics = false ∧ s.vm.findClass "java/lang/String" = some cellB.cls := by
    intro j hj
    obtain ⟨cell, h1, h2, h3, -⟩ := (hSt.1 j hj).1.kept (H1 := H) (fun a _ hA => hO a (Nat.le_of_not_lt hA))
    exact ⟨cell, h1, h2, h3⟩
  have hro : ∀ o, 1000000 ≤ o → zro G o = G.2.2.2.1.1 (o - 1000000) := by
    intro o ho
    rw [zro, if_neg (by omega), if_pos ho]
  have hRR : 3 + 1 ≤ R.frames ∧ 8 + (2 + 11) + 40 * 3 ≤ R.locals := ⟨by have := hR.1; omega, by have := hR.2; omega⟩
  rcases hi with ((hi | hi) | hi)
  · exact absurd hi.1.1.1 hb0
  · obtain ⟨rfl, hm⟩ := hi
    have hm := zLC_ok _ hm
    unfold zpC at hm
    dsimp only at hm
    simp only [zstp, show ((3 : Nat) == 0) = false from rfl, show ((3 : Nat) == 3) = true from rfl, cond_false, cond_true] at h
    split at h
    · rename_i i o t
      simp only [zgo, Option.some.injEq, Prod.mk.injEq, Sum.inl.injEq, Bool.and_eq_true, decide_eq_true_eq] at h
      obtain ⟨⟨⟨h1, h2⟩, h8⟩, rfl⟩ := h
      have hj : o - 1000000 < 2 := by
        apply Nat.lt_of_not_le
        intro q
        have e0 : zstr (o - 1000000) = [] := by
          unfold zstr
          rw [List.getD_eq_getElem?_getD, List.getElem?_eq_none (by simpa using q)]
          rfl
        rw [e0] at h2
        have := zin_of h2
        exact this (Or.inr (Nat.zero_le _))
      have hin2 : vp_in i (([(zstr 0).length, (zstr 1).length] : List Nat).getD (o - 1000000) 0) := by
        have := zin_of h2
        revert this hj
        generalize o - 1000000 = j
        intro hj this
        match j, hj, this with
        | 0, _, this => exact this
        | 1, _, this => exact this
      show W p l e R s m args below meth c H locs cells slots Q (F0 m pc ls (.int i :: .ref (zro G o) :: t.map (zvr (zro G))))
      rw [hro o h1]
      exact jcallV (As := [.int i]) (rest := t.map (zvr (zro G))) hfix (jm_charAt l G hj hin2) jw_charAt hm jin_charAt jse_charAt jini_S ⟨by decide +kernel, by decide +kernel, jp_charAt⟩ hRR hKS hO (hrecv _ hj) hsz (hcats t h8) ⟨by omega, by omega⟩ hdg (zk0 rfl kk hrel hlv hlo)
    · cases h
  · obtain ⟨rfl, hm⟩ := hi
    have hm := zLX_ok _ hm
    unfold zpX at hm
    dsimp only at hm
    simp only [zstp, show ((4 : Nat) == 0) = false from rfl, show ((4 : Nat) == 3) = false from rfl, show ((4 : Nat) == 4) = true from rfl, cond_false, cond_true] at h
    split at h
    · rename_i x o t
      simp only [zgo, Option.some.injEq, Prod.mk.injEq, Sum.inl.injEq, Bool.and_eq_true, decide_eq_true_eq] at h
      obtain ⟨⟨⟨⟨⟨h1, h2⟩, h3⟩, h4⟩, h8⟩, rfl⟩ := h
      have hj : o - 1000000 < 2 := by
        have a1 : 1000000 ≤ o := h1
        have a2 : o < 1000002 := h2
        exact Nat.sub_lt_left_of_lt_add a1 a2
      obtain ⟨k, hk9, rfl⟩ := nI_of (x := x) (Int32.not_lt.mpr h3)
      have hk : k < 256 := (nI_ltI hk9 (by decide) (b := 256)).mp h4
      show W p l e R s m args below meth c H locs cells slots Q (F0 m pc ls (.int (nI k) :: .ref (zro G o) :: t.map (zvr (zro G))))
      rw [hro o h1]
      exact jcallV (As := [.int (nI k)]) (rest := t.map (zvr (zro G))) hfix (jm_indexOf l G hj hk) jw_indexOf hm jin_indexOf jse_indexOf jini_S ⟨by decide +kernel, by decide +kernel, jp_indexOf⟩ hRR hKS hO (hrecv _ hj) hsz (hcats t h8) ⟨by omega, by omega⟩ hdg (zk0 rfl kk hrel hlv hlo)
    · cases h

