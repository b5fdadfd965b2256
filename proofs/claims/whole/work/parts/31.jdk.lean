/-! String constants: charAt, indexOf, by the JDK's own code -/
def jy_isLatin1 : MethodName := ⟨"java/lang/String", "isLatin1", "()Z"⟩
abbrev jc_isLatin1 : ByteArray := prog_17_method_154_code
set_option maxRecDepth 100000 in
theorem jw_isLatin1 : Cond.code jy_isLatin1 jc_isLatin1 1 (Option.some FieldType.boolean) ∈ lw_tbl := List.mem_of_getElem? (i := 835) rfl
set_option maxRecDepth 100000 in
theorem jin_isLatin1 : Cond.instanceMethod jy_isLatin1 ∈ lw_tbl := List.mem_of_getElem? (i := 833) rfl
set_option maxRecDepth 100000 in
theorem jse_isLatin1 : Cond.selects "java/lang/String" jy_isLatin1 jy_isLatin1 ∈ lw_tbl := List.mem_of_getElem? (i := 834) rfl
theorem jd_isLatin1_0 : decode jc_isLatin1 0 = .ok (.getstatic 38, 3) := by decide +kernel
theorem jd_isLatin1_3 : decode jc_isLatin1 3 = .ok (.ifCond .eq 14, 3) := by decide +kernel
theorem jd_isLatin1_6 : decode jc_isLatin1 6 = .ok (.aload_n 0, 1) := by decide +kernel
theorem jd_isLatin1_7 : decode jc_isLatin1 7 = .ok (.getfield 15, 3) := by decide +kernel
theorem jd_isLatin1_10 : decode jc_isLatin1 10 = .ok (.ifCond .ne 7, 3) := by decide +kernel
theorem jd_isLatin1_13 : decode jc_isLatin1 13 = .ok (.iconst 1, 1) := by decide +kernel
theorem jd_isLatin1_14 : decode jc_isLatin1 14 = .ok (.goto 4, 3) := by decide +kernel
theorem jd_isLatin1_17 : decode jc_isLatin1 17 = .ok (.iconst 0, 1) := by decide +kernel
theorem jd_isLatin1_18 : decode jc_isLatin1 18 = .ok (.ireturn, 1) := by decide +kernel
def jy_coder : MethodName := ⟨"java/lang/String", "coder", "()B"⟩
abbrev jc_coder : ByteArray := prog_17_method_152_code
set_option maxRecDepth 100000 in
theorem jw_coder : Cond.code jy_coder jc_coder 1 (Option.some FieldType.byte) ∈ lw_tbl := List.mem_of_getElem? (i := 916) rfl
set_option maxRecDepth 100000 in
theorem jin_coder : Cond.instanceMethod jy_coder ∈ lw_tbl := List.mem_of_getElem? (i := 914) rfl
set_option maxRecDepth 100000 in
theorem jse_coder : Cond.selects "java/lang/String" jy_coder jy_coder ∈ lw_tbl := List.mem_of_getElem? (i := 915) rfl
theorem jd_coder_0 : decode jc_coder 0 = .ok (.getstatic 38, 3) := by decide +kernel
theorem jd_coder_3 : decode jc_coder 3 = .ok (.ifCond .eq 10, 3) := by decide +kernel
theorem jd_coder_6 : decode jc_coder 6 = .ok (.aload_n 0, 1) := by decide +kernel
theorem jd_coder_7 : decode jc_coder 7 = .ok (.getfield 15, 3) := by decide +kernel
theorem jd_coder_10 : decode jc_coder 10 = .ok (.goto 4, 3) := by decide +kernel
theorem jd_coder_13 : decode jc_coder 13 = .ok (.iconst 1, 1) := by decide +kernel
theorem jd_coder_14 : decode jc_coder 14 = .ok (.ireturn, 1) := by decide +kernel
def jy_pcheck : MethodName := ⟨"jdk/internal/util/Preconditions", "checkIndex", "(IILjava/util/function/BiFunction;)I"⟩
abbrev jc_pcheck : ByteArray := prog_21_method_11_code
set_option maxRecDepth 100000 in
theorem jw_pcheck : Cond.code jy_pcheck jc_pcheck 3 (Option.some FieldType.int) ∈ lw_tbl := List.mem_of_getElem? (i := 848) rfl
set_option maxRecDepth 100000 in
theorem jst_pcheck : Cond.static jy_pcheck ∈ lw_tbl := List.mem_of_getElem? (i := 847) rfl
theorem jd_pcheck_0 : decode jc_pcheck 0 = .ok (.iload_n 0, 1) := by decide +kernel
theorem jd_pcheck_1 : decode jc_pcheck 1 = .ok (.ifCond .lt 8, 3) := by decide +kernel
theorem jd_pcheck_4 : decode jc_pcheck 4 = .ok (.iload_n 0, 1) := by decide +kernel
theorem jd_pcheck_5 : decode jc_pcheck 5 = .ok (.iload_n 1, 1) := by decide +kernel
theorem jd_pcheck_6 : decode jc_pcheck 6 = .ok (.if_icmp .lt 10, 3) := by decide +kernel
theorem jd_pcheck_9 : decode jc_pcheck 9 = .ok (.aload_n 2, 1) := by decide +kernel
theorem jd_pcheck_10 : decode jc_pcheck 10 = .ok (.iload_n 0, 1) := by decide +kernel
theorem jd_pcheck_11 : decode jc_pcheck 11 = .ok (.iload_n 1, 1) := by decide +kernel
theorem jd_pcheck_12 : decode jc_pcheck 12 = .ok (.invokestatic 95, 3) := by decide +kernel
theorem jd_pcheck_15 : decode jc_pcheck 15 = .ok (.athrow, 1) := by decide +kernel
theorem jd_pcheck_16 : decode jc_pcheck 16 = .ok (.iload_n 0, 1) := by decide +kernel
theorem jd_pcheck_17 : decode jc_pcheck 17 = .ok (.ireturn, 1) := by decide +kernel
def jy_scheck : MethodName := ⟨"java/lang/String", "checkIndex", "(II)V"⟩
abbrev jc_scheck : ByteArray := prog_17_method_155_code
set_option maxRecDepth 100000 in
theorem jw_scheck : Cond.code jy_scheck jc_scheck 2 (Option.none : Option FieldType) ∈ lw_tbl := List.mem_of_getElem? (i := 843) rfl
set_option maxRecDepth 100000 in
theorem jst_scheck : Cond.static jy_scheck ∈ lw_tbl := List.mem_of_getElem? (i := 842) rfl
theorem jd_scheck_0 : decode jc_scheck 0 = .ok (.iload_n 0, 1) := by decide +kernel
theorem jd_scheck_1 : decode jc_scheck 1 = .ok (.iload_n 1, 1) := by decide +kernel
theorem jd_scheck_2 : decode jc_scheck 2 = .ok (.getstatic 1053, 3) := by decide +kernel
theorem jd_scheck_5 : decode jc_scheck 5 = .ok (.invokestatic 1059, 3) := by decide +kernel
theorem jd_scheck_8 : decode jc_scheck 8 = .ok (.pop, 1) := by decide +kernel
theorem jd_scheck_9 : decode jc_scheck 9 = .ok (.return_, 1) := by decide +kernel
def jy_lcharAt : MethodName := ⟨"java/lang/StringLatin1", "charAt", "([BI)C"⟩
abbrev jc_lcharAt : ByteArray := prog_18_method_2_code
set_option maxRecDepth 100000 in
theorem jw_lcharAt : Cond.code jy_lcharAt jc_lcharAt 2 (Option.some FieldType.char) ∈ lw_tbl := List.mem_of_getElem? (i := 840) rfl
set_option maxRecDepth 100000 in
theorem jst_lcharAt : Cond.static jy_lcharAt ∈ lw_tbl := List.mem_of_getElem? (i := 839) rfl
theorem jd_lcharAt_0 : decode jc_lcharAt 0 = .ok (.iload_n 1, 1) := by decide +kernel
theorem jd_lcharAt_1 : decode jc_lcharAt 1 = .ok (.aload_n 0, 1) := by decide +kernel
theorem jd_lcharAt_2 : decode jc_lcharAt 2 = .ok (.arraylength, 1) := by decide +kernel
theorem jd_lcharAt_3 : decode jc_lcharAt 3 = .ok (.invokestatic 9, 3) := by decide +kernel
theorem jd_lcharAt_6 : decode jc_lcharAt 6 = .ok (.aload_n 0, 1) := by decide +kernel
theorem jd_lcharAt_7 : decode jc_lcharAt 7 = .ok (.iload_n 1, 1) := by decide +kernel
theorem jd_lcharAt_8 : decode jc_lcharAt 8 = .ok (.baload, 1) := by decide +kernel
theorem jd_lcharAt_9 : decode jc_lcharAt 9 = .ok (.sipush 255, 3) := by decide +kernel
theorem jd_lcharAt_12 : decode jc_lcharAt 12 = .ok (.iand, 1) := by decide +kernel
theorem jd_lcharAt_13 : decode jc_lcharAt 13 = .ok (.i2c, 1) := by decide +kernel
theorem jd_lcharAt_14 : decode jc_lcharAt 14 = .ok (.ireturn, 1) := by decide +kernel
def jy_charAt : MethodName := ⟨"java/lang/String", "charAt", "(I)C"⟩
abbrev jc_charAt : ByteArray := prog_17_method_56_code
set_option maxRecDepth 100000 in
theorem jw_charAt : Cond.code jy_charAt jc_charAt 2 (Option.some FieldType.char) ∈ lw_tbl := List.mem_of_getElem? (i := 831) rfl
set_option maxRecDepth 100000 in
theorem jin_charAt : Cond.instanceMethod jy_charAt ∈ lw_tbl := List.mem_of_getElem? (i := 829) rfl
set_option maxRecDepth 100000 in
theorem jse_charAt : Cond.selects "java/lang/String" jy_charAt jy_charAt ∈ lw_tbl := List.mem_of_getElem? (i := 830) rfl
theorem jd_charAt_0 : decode jc_charAt 0 = .ok (.aload_n 0, 1) := by decide +kernel
theorem jd_charAt_1 : decode jc_charAt 1 = .ok (.invokevirtual 492, 3) := by decide +kernel
theorem jd_charAt_4 : decode jc_charAt 4 = .ok (.ifCond .eq 12, 3) := by decide +kernel
theorem jd_charAt_7 : decode jc_charAt 7 = .ok (.aload_n 0, 1) := by decide +kernel
theorem jd_charAt_8 : decode jc_charAt 8 = .ok (.getfield 9, 3) := by decide +kernel
theorem jd_charAt_11 : decode jc_charAt 11 = .ok (.iload_n 1, 1) := by decide +kernel
theorem jd_charAt_12 : decode jc_charAt 12 = .ok (.invokestatic 495, 3) := by decide +kernel
theorem jd_charAt_15 : decode jc_charAt 15 = .ok (.ireturn, 1) := by decide +kernel
theorem jd_charAt_16 : decode jc_charAt 16 = .ok (.aload_n 0, 1) := by decide +kernel
theorem jd_charAt_17 : decode jc_charAt 17 = .ok (.getfield 9, 3) := by decide +kernel
theorem jd_charAt_20 : decode jc_charAt 20 = .ok (.iload_n 1, 1) := by decide +kernel
theorem jd_charAt_21 : decode jc_charAt 21 = .ok (.invokestatic 498, 3) := by decide +kernel
theorem jd_charAt_24 : decode jc_charAt 24 = .ok (.ireturn, 1) := by decide +kernel
def jy_length : MethodName := ⟨"java/lang/String", "length", "()I"⟩
abbrev jc_length : ByteArray := prog_17_method_54_code
set_option maxRecDepth 100000 in
theorem jw_length : Cond.code jy_length jc_length 1 (Option.some FieldType.int) ∈ lw_tbl := List.mem_of_getElem? (i := 912) rfl
set_option maxRecDepth 100000 in
theorem jin_length : Cond.instanceMethod jy_length ∈ lw_tbl := List.mem_of_getElem? (i := 910) rfl
set_option maxRecDepth 100000 in
theorem jse_length : Cond.selects "java/lang/String" jy_length jy_length ∈ lw_tbl := List.mem_of_getElem? (i := 911) rfl
theorem jd_length_0 : decode jc_length 0 = .ok (.aload_n 0, 1) := by decide +kernel
theorem jd_length_1 : decode jc_length 1 = .ok (.getfield 9, 3) := by decide +kernel
theorem jd_length_4 : decode jc_length 4 = .ok (.arraylength, 1) := by decide +kernel
theorem jd_length_5 : decode jc_length 5 = .ok (.aload_n 0, 1) := by decide +kernel
theorem jd_length_6 : decode jc_length 6 = .ok (.invokevirtual 335, 3) := by decide +kernel
theorem jd_length_9 : decode jc_length 9 = .ok (.ishr, 1) := by decide +kernel
theorem jd_length_10 : decode jc_length 10 = .ok (.ireturn, 1) := by decide +kernel
def jy_canEnc : MethodName := ⟨"java/lang/StringLatin1", "canEncode", "(I)Z"⟩
abbrev jc_canEnc : ByteArray := prog_18_method_4_code
set_option maxRecDepth 100000 in
theorem jw_canEnc : Cond.code jy_canEnc jc_canEnc 1 (Option.some FieldType.boolean) ∈ lw_tbl := List.mem_of_getElem? (i := 922) rfl
set_option maxRecDepth 100000 in
theorem jst_canEnc : Cond.static jy_canEnc ∈ lw_tbl := List.mem_of_getElem? (i := 921) rfl
theorem jd_canEnc_0 : decode jc_canEnc 0 = .ok (.iload_n 0, 1) := by decide +kernel
theorem jd_canEnc_1 : decode jc_canEnc 1 = .ok (.ifCond .lt 14, 3) := by decide +kernel
theorem jd_canEnc_4 : decode jc_canEnc 4 = .ok (.iload_n 0, 1) := by decide +kernel
theorem jd_canEnc_5 : decode jc_canEnc 5 = .ok (.sipush 255, 3) := by decide +kernel
theorem jd_canEnc_8 : decode jc_canEnc 8 = .ok (.if_icmp .gt 7, 3) := by decide +kernel
theorem jd_canEnc_11 : decode jc_canEnc 11 = .ok (.iconst 1, 1) := by decide +kernel
theorem jd_canEnc_12 : decode jc_canEnc 12 = .ok (.goto 4, 3) := by decide +kernel
theorem jd_canEnc_15 : decode jc_canEnc 15 = .ok (.iconst 0, 1) := by decide +kernel
theorem jd_canEnc_16 : decode jc_canEnc 16 = .ok (.ireturn, 1) := by decide +kernel
def jy_ixChar : MethodName := ⟨"java/lang/StringLatin1", "indexOfChar", "([BIII)I"⟩
abbrev jc_ixChar : ByteArray := prog_18_method_23_code
set_option maxRecDepth 100000 in
theorem jw_ixChar : Cond.code jy_ixChar jc_ixChar 6 (Option.some FieldType.int) ∈ lw_tbl := List.mem_of_getElem? (i := 927) rfl
set_option maxRecDepth 100000 in
theorem jst_ixChar : Cond.static jy_ixChar ∈ lw_tbl := List.mem_of_getElem? (i := 926) rfl
theorem jd_ixChar_0 : decode jc_ixChar 0 = .ok (.iload_n 1, 1) := by decide +kernel
theorem jd_ixChar_1 : decode jc_ixChar 1 = .ok (.i2b, 1) := by decide +kernel
theorem jd_ixChar_2 : decode jc_ixChar 2 = .ok (.istore 4, 2) := by decide +kernel
theorem jd_ixChar_4 : decode jc_ixChar 4 = .ok (.iload_n 2, 1) := by decide +kernel
theorem jd_ixChar_5 : decode jc_ixChar 5 = .ok (.istore 5, 2) := by decide +kernel
theorem jd_ixChar_7 : decode jc_ixChar 7 = .ok (.iload 5, 2) := by decide +kernel
theorem jd_ixChar_9 : decode jc_ixChar 9 = .ok (.iload_n 3, 1) := by decide +kernel
theorem jd_ixChar_10 : decode jc_ixChar 10 = .ok (.if_icmp .ge 21, 3) := by decide +kernel
theorem jd_ixChar_13 : decode jc_ixChar 13 = .ok (.aload_n 0, 1) := by decide +kernel
theorem jd_ixChar_14 : decode jc_ixChar 14 = .ok (.iload 5, 2) := by decide +kernel
theorem jd_ixChar_16 : decode jc_ixChar 16 = .ok (.baload, 1) := by decide +kernel
theorem jd_ixChar_17 : decode jc_ixChar 17 = .ok (.iload 4, 2) := by decide +kernel
theorem jd_ixChar_19 : decode jc_ixChar 19 = .ok (.if_icmp .ne 6, 3) := by decide +kernel
theorem jd_ixChar_22 : decode jc_ixChar 22 = .ok (.iload 5, 2) := by decide +kernel
theorem jd_ixChar_24 : decode jc_ixChar 24 = .ok (.ireturn, 1) := by decide +kernel
theorem jd_ixChar_25 : decode jc_ixChar 25 = .ok (.iinc 5 1, 3) := by decide +kernel
theorem jd_ixChar_28 : decode jc_ixChar 28 = .ok (.goto (-21), 3) := by decide +kernel
theorem jd_ixChar_31 : decode jc_ixChar 31 = .ok (.iconst (-1), 1) := by decide +kernel
theorem jd_ixChar_32 : decode jc_ixChar 32 = .ok (.ireturn, 1) := by decide +kernel
def jy_lindexOf : MethodName := ⟨"java/lang/StringLatin1", "indexOf", "([BIII)I"⟩
abbrev jc_lindexOf : ByteArray := prog_18_method_22_code
set_option maxRecDepth 100000 in
theorem jw_lindexOf : Cond.code jy_lindexOf jc_lindexOf 4 (Option.some FieldType.int) ∈ lw_tbl := List.mem_of_getElem? (i := 919) rfl
set_option maxRecDepth 100000 in
theorem jst_lindexOf : Cond.static jy_lindexOf ∈ lw_tbl := List.mem_of_getElem? (i := 918) rfl
theorem jd_lindexOf_0 : decode jc_lindexOf 0 = .ok (.iload_n 1, 1) := by decide +kernel
theorem jd_lindexOf_1 : decode jc_lindexOf 1 = .ok (.invokestatic 88, 3) := by decide +kernel
theorem jd_lindexOf_4 : decode jc_lindexOf 4 = .ok (.ifCond .ne 5, 3) := by decide +kernel
theorem jd_lindexOf_7 : decode jc_lindexOf 7 = .ok (.iconst (-1), 1) := by decide +kernel
theorem jd_lindexOf_8 : decode jc_lindexOf 8 = .ok (.ireturn, 1) := by decide +kernel
theorem jd_lindexOf_9 : decode jc_lindexOf 9 = .ok (.iload_n 2, 1) := by decide +kernel
theorem jd_lindexOf_10 : decode jc_lindexOf 10 = .ok (.iconst 0, 1) := by decide +kernel
theorem jd_lindexOf_11 : decode jc_lindexOf 11 = .ok (.invokestatic 92, 3) := by decide +kernel
theorem jd_lindexOf_14 : decode jc_lindexOf 14 = .ok (.istore_n 2, 1) := by decide +kernel
theorem jd_lindexOf_15 : decode jc_lindexOf 15 = .ok (.iload_n 3, 1) := by decide +kernel
theorem jd_lindexOf_16 : decode jc_lindexOf 16 = .ok (.aload_n 0, 1) := by decide +kernel
theorem jd_lindexOf_17 : decode jc_lindexOf 17 = .ok (.arraylength, 1) := by decide +kernel
theorem jd_lindexOf_18 : decode jc_lindexOf 18 = .ok (.invokestatic 38, 3) := by decide +kernel
theorem jd_lindexOf_21 : decode jc_lindexOf 21 = .ok (.istore_n 3, 1) := by decide +kernel
theorem jd_lindexOf_22 : decode jc_lindexOf 22 = .ok (.iload_n 2, 1) := by decide +kernel
theorem jd_lindexOf_23 : decode jc_lindexOf 23 = .ok (.iload_n 3, 1) := by decide +kernel
theorem jd_lindexOf_24 : decode jc_lindexOf 24 = .ok (.if_icmp .lt 5, 3) := by decide +kernel
theorem jd_lindexOf_27 : decode jc_lindexOf 27 = .ok (.iconst (-1), 1) := by decide +kernel
theorem jd_lindexOf_28 : decode jc_lindexOf 28 = .ok (.ireturn, 1) := by decide +kernel
theorem jd_lindexOf_29 : decode jc_lindexOf 29 = .ok (.aload_n 0, 1) := by decide +kernel
theorem jd_lindexOf_30 : decode jc_lindexOf 30 = .ok (.iload_n 1, 1) := by decide +kernel
theorem jd_lindexOf_31 : decode jc_lindexOf 31 = .ok (.iload_n 2, 1) := by decide +kernel
theorem jd_lindexOf_32 : decode jc_lindexOf 32 = .ok (.iload_n 3, 1) := by decide +kernel
theorem jd_lindexOf_33 : decode jc_lindexOf 33 = .ok (.invokestatic 95, 3) := by decide +kernel
theorem jd_lindexOf_36 : decode jc_lindexOf 36 = .ok (.ireturn, 1) := by decide +kernel
def jy_indexOf2 : MethodName := ⟨"java/lang/String", "indexOf", "(II)I"⟩
abbrev jc_indexOf2 : ByteArray := prog_17_method_80_code
set_option maxRecDepth 100000 in
theorem jw_indexOf2 : Cond.code jy_indexOf2 jc_indexOf2 3 (Option.some FieldType.int) ∈ lw_tbl := List.mem_of_getElem? (i := 908) rfl
set_option maxRecDepth 100000 in
theorem jin_indexOf2 : Cond.instanceMethod jy_indexOf2 ∈ lw_tbl := List.mem_of_getElem? (i := 906) rfl
set_option maxRecDepth 100000 in
theorem jse_indexOf2 : Cond.selects "java/lang/String" jy_indexOf2 jy_indexOf2 ∈ lw_tbl := List.mem_of_getElem? (i := 907) rfl
theorem jd_indexOf2_0 : decode jc_indexOf2 0 = .ok (.aload_n 0, 1) := by decide +kernel
theorem jd_indexOf2_1 : decode jc_indexOf2 1 = .ok (.invokevirtual 492, 3) := by decide +kernel
theorem jd_indexOf2_4 : decode jc_indexOf2 4 = .ok (.ifCond .eq 19, 3) := by decide +kernel
theorem jd_indexOf2_7 : decode jc_indexOf2 7 = .ok (.aload_n 0, 1) := by decide +kernel
theorem jd_indexOf2_8 : decode jc_indexOf2 8 = .ok (.getfield 9, 3) := by decide +kernel
theorem jd_indexOf2_11 : decode jc_indexOf2 11 = .ok (.iload_n 1, 1) := by decide +kernel
theorem jd_indexOf2_12 : decode jc_indexOf2 12 = .ok (.iload_n 2, 1) := by decide +kernel
theorem jd_indexOf2_13 : decode jc_indexOf2 13 = .ok (.aload_n 0, 1) := by decide +kernel
theorem jd_indexOf2_14 : decode jc_indexOf2 14 = .ok (.invokevirtual 505, 3) := by decide +kernel
theorem jd_indexOf2_17 : decode jc_indexOf2 17 = .ok (.invokestatic 637, 3) := by decide +kernel
theorem jd_indexOf2_20 : decode jc_indexOf2 20 = .ok (.goto 16, 3) := by decide +kernel
theorem jd_indexOf2_23 : decode jc_indexOf2 23 = .ok (.aload_n 0, 1) := by decide +kernel
theorem jd_indexOf2_24 : decode jc_indexOf2 24 = .ok (.getfield 9, 3) := by decide +kernel
theorem jd_indexOf2_27 : decode jc_indexOf2 27 = .ok (.iload_n 1, 1) := by decide +kernel
theorem jd_indexOf2_28 : decode jc_indexOf2 28 = .ok (.iload_n 2, 1) := by decide +kernel
theorem jd_indexOf2_29 : decode jc_indexOf2 29 = .ok (.aload_n 0, 1) := by decide +kernel
theorem jd_indexOf2_30 : decode jc_indexOf2 30 = .ok (.invokevirtual 505, 3) := by decide +kernel
theorem jd_indexOf2_33 : decode jc_indexOf2 33 = .ok (.invokestatic 640, 3) := by decide +kernel
theorem jd_indexOf2_36 : decode jc_indexOf2 36 = .ok (.ireturn, 1) := by decide +kernel
def jy_indexOf : MethodName := ⟨"java/lang/String", "indexOf", "(I)I"⟩
abbrev jc_indexOf : ByteArray := prog_17_method_79_code
set_option maxRecDepth 100000 in
theorem jw_indexOf : Cond.code jy_indexOf jc_indexOf 2 (Option.some FieldType.int) ∈ lw_tbl := List.mem_of_getElem? (i := 904) rfl
set_option maxRecDepth 100000 in
theorem jin_indexOf : Cond.instanceMethod jy_indexOf ∈ lw_tbl := List.mem_of_getElem? (i := 902) rfl
set_option maxRecDepth 100000 in
theorem jse_indexOf : Cond.selects "java/lang/String" jy_indexOf jy_indexOf ∈ lw_tbl := List.mem_of_getElem? (i := 903) rfl
theorem jd_indexOf_0 : decode jc_indexOf 0 = .ok (.aload_n 0, 1) := by decide +kernel
theorem jd_indexOf_1 : decode jc_indexOf 1 = .ok (.iload_n 1, 1) := by decide +kernel
theorem jd_indexOf_2 : decode jc_indexOf 2 = .ok (.iconst 0, 1) := by decide +kernel
theorem jd_indexOf_3 : decode jc_indexOf 3 = .ok (.invokevirtual 633, 3) := by decide +kernel
theorem jd_indexOf_6 : decode jc_indexOf 6 = .ok (.ireturn, 1) := by decide +kernel
set_option maxRecDepth 100000 in
theorem jini_S : Cond.initialized "java/lang/String" ∈ lw_tbl := List.mem_of_getElem? (i := 114) rfl
set_option maxRecDepth 100000 in
theorem jini_L : Cond.initialized "java/lang/StringLatin1" ∈ lw_tbl := List.mem_of_getElem? (i := 115) rfl
set_option maxRecDepth 100000 in
theorem jini_P : Cond.initialized "jdk/internal/util/Preconditions" ∈ lw_tbl := List.mem_of_getElem? (i := 116) rfl
set_option maxRecDepth 100000 in
theorem jl_String_492 : Cond.methodLink "java/lang/String" 492 jy_isLatin1 ∈ lw_tbl := List.mem_of_getElem? (i := 832) rfl
set_option maxRecDepth 100000 in
theorem jl_String_495 : Cond.methodLink "java/lang/String" 495 jy_lcharAt ∈ lw_tbl := List.mem_of_getElem? (i := 838) rfl
set_option maxRecDepth 100000 in
theorem jl_StringLatin1_9 : Cond.methodLink "java/lang/StringLatin1" 9 jy_scheck ∈ lw_tbl := List.mem_of_getElem? (i := 841) rfl
set_option maxRecDepth 100000 in
theorem jl_String_1059 : Cond.methodLink "java/lang/String" 1059 jy_pcheck ∈ lw_tbl := List.mem_of_getElem? (i := 846) rfl
set_option maxRecDepth 100000 in
theorem jl_String_633 : Cond.methodLink "java/lang/String" 633 jy_indexOf2 ∈ lw_tbl := List.mem_of_getElem? (i := 905) rfl
set_option maxRecDepth 100000 in
theorem jl_String_505 : Cond.methodLink "java/lang/String" 505 jy_length ∈ lw_tbl := List.mem_of_getElem? (i := 909) rfl
set_option maxRecDepth 100000 in
theorem jl_String_335 : Cond.methodLink "java/lang/String" 335 jy_coder ∈ lw_tbl := List.mem_of_getElem? (i := 913) rfl
set_option maxRecDepth 100000 in
theorem jl_String_637 : Cond.methodLink "java/lang/String" 637 jy_lindexOf ∈ lw_tbl := List.mem_of_getElem? (i := 917) rfl
set_option maxRecDepth 100000 in
theorem jl_StringLatin1_88 : Cond.methodLink "java/lang/StringLatin1" 88 jy_canEnc ∈ lw_tbl := List.mem_of_getElem? (i := 920) rfl
set_option maxRecDepth 100000 in
theorem jl_StringLatin1_92 : Cond.methodLink "java/lang/StringLatin1" 92 Lib.Math.max.name ∈ lw_tbl := List.mem_of_getElem? (i := 923) rfl
set_option maxRecDepth 100000 in
theorem jl_StringLatin1_38 : Cond.methodLink "java/lang/StringLatin1" 38 Lib.Math.min.name ∈ lw_tbl := List.mem_of_getElem? (i := 924) rfl
set_option maxRecDepth 100000 in
theorem jl_StringLatin1_95 : Cond.methodLink "java/lang/StringLatin1" 95 jy_ixChar ∈ lw_tbl := List.mem_of_getElem? (i := 925) rfl
set_option maxRecDepth 100000 in
theorem jf_38 : Cond.fieldLink "java/lang/String" 38 "java/lang/String" "COMPACT_STRINGS" "Z" ∈ lw_tbl := List.mem_of_getElem? (i := 836) rfl
set_option maxRecDepth 100000 in
theorem jf_1053 : Cond.fieldLink "java/lang/String" 1053 "jdk/internal/util/Preconditions" "SIOOBE_FORMATTER" "Ljava/util/function/BiFunction;" ∈ lw_tbl := List.mem_of_getElem? (i := 844) rfl
set_option maxRecDepth 100000 in
theorem jf_15 : Cond.fieldLink "java/lang/String" 15 "java/lang/String" "coder" "B" ∈ lw_tbl := List.mem_of_getElem? (i := 1938) rfl
set_option maxRecDepth 100000 in
theorem jf_9 : Cond.fieldLink "java/lang/String" 9 "java/lang/String" "value" "[B" ∈ lw_tbl := List.mem_of_getElem? (i := 1939) rfl

def jws (y : MethodName) (bytes : ByteArray) (maxL : Nat) (ret : Option FieldType) : List Cond := Cond.code y bytes maxL ret :: zTB
def jrm (k : Nat) : Room := { frames := k, cells := 0, slots := 0, locals := 40 * k }
def jOld (G : zG) (H : Heap) : Prop := ∀ q, q ≤ zgB G → H[q]? = (zgH G)[q]?
def jPc (G : zG) (as : List Value) : Array Value → State → Prop := fun a U => a = as.toArray ∧ zKS G U ∧ jOld G U.heap
def jQc (v : Option Value) : Array Value → State → Outcome → State → Prop := fun _ st o t => o = .returned v ∧ t.heap = st.heap
theorem jblind {G : zG} {as : List Value} : FrameBlind (jPc G as) := fun a U g mk h => ⟨h.1, zKS.same (s := U) (U := U.calling g mk a) rfl h.2.1, h.2.2⟩
section JC
variable {G : zG} {p : Program} {l : Launch} {e : Env} {R : Room} {s : State} {m : MethodId} {args : Array Value} {below : List Frame} {meth : Method} {c : Code} {H : Heap} {locs : List Loc} {cells slots pc : Nat} {ls : Array Slot} {Q : State → Prop}
theorem jafter {v : Option Value} {a : Array Value} {st0 rest : List Value} (hr : va_Run p l e R s m args below meth c H locs cells slots 0 0 (F0 m pc ls st0) rest (jQc v a) (fun _ => False)) (kk : W p l e R s m args below meth c H locs cells slots Q (F0 m (pc + 3) ls (v.toList ++ rest))) : W p l e R s m args below meth c H locs cells slots Q (F0 m pc ls st0) := by
  intro T hT X
  obtain ⟨v', st₀, t, T', L, h0, X', hL, e1, e2, ⟨hv, hh⟩, st⟩ := hr T hT X
  cases hv
  obtain ⟨t2, a1, b1⟩ := kk T' (by rw [e1, hh, h0]) (Stand.forget X' (fun q h => (hL q h).elim))
  exact ⟨t2, st t2 a1, b1⟩
theorem jgi {y : MethodName} {bytes : ByteArray} {maxL : Nat} {ret : Option FieldType} (h : Cond.code y bytes maxL ret ∈ lw_tbl) : GoodIn zTB (jws y bytes maxL ret) := zGI (fun w hw => by
  rcases List.mem_cons.mp hw with q | q
  · rw [q]; exact zgd h rfl
  · exact q)
theorem jcallS {y : MethodName} {bytes cc : ByteArray} {maxL nL k index : Nat} {ret : Option FieldType} {own : String} {As rest : List Value} {v : Option Value} (hfix : CallFix p m c cc nL s args zTB own) (hM : Met l y (jws y bytes maxL ret) (jrm k) (jPc G As) (jQc v) 0 0 (fun _ => False)) (hco : Cond.code y bytes maxL ret ∈ lw_tbl) (hli : Cond.methodLink own index y ∈ lw_tbl) (hst : Cond.static y ∈ lw_tbl) (hini : Cond.initialized y.cls ∈ lw_tbl)
    (hd : y.cls ≠ "java/lang/invoke/MethodHandle" ∧ y.cls ≠ "java/lang/invoke/VarHandle" ∧ (parseMethodDescriptor y.desc).map (fun d => d.parameters.length) = some As.length) (hR : k + 1 ≤ R.frames ∧ 8 + (maxL + 11) + 40 * k ≤ R.locals) (hKS : zKS G s) (hO : jOld G H) (hsz : ls.size = nL) (hc : (rest.map fun v => v.category).sum ≤ 8) (hcap : cells ≤ R.cells ∧ slots ≤ R.slots) (hdg : decode cc pc = .ok (.invokestatic index, 3))
    (kk : W p l e R s m args below meth c H locs cells slots Q (F0 m (pc + 3) ls (v.toList ++ rest))) : W p l e R s m args below meth c H locs cells slots Q (F0 m pc ls (As.reverse ++ rest)) := by
  have hts := hfix.2.2.2.2
  exact jafter (va_runS (As := As) (rest := rest) (n := As.length) hfix hM ⟨callB_of As.length hts (jgi hco) rfl rfl rfl (hts _ (zgd hini rfl)) (hts _ (zgd hli rfl)) hd hR, hts _ (zgd hst rfl)⟩ ⟨jblind, fun U hU hW => ⟨rfl, zKS.warm hW hKS, by rw [hU]; exact hO⟩⟩ rfl rfl hsz rfl (lv_room hc) hdg hcap) kk
theorem jcallV {y : MethodName} {bytes cc : ByteArray} {maxL nL k index b : Nat} {ret : Option FieldType} {own : String} {As rest : List Value} {v : Option Value} (hfix : CallFix p m c cc nL s args zTB own) (hM : Met l y (jws y bytes maxL ret) (jrm k) (jPc G (.ref b :: As)) (jQc v) 0 0 (fun _ => False)) (hco : Cond.code y bytes maxL ret ∈ lw_tbl) (hli : Cond.methodLink own index y ∈ lw_tbl) (hin : Cond.instanceMethod y ∈ lw_tbl) (hse : Cond.selects "java/lang/String" y y ∈ lw_tbl) (hini : Cond.initialized y.cls ∈ lw_tbl)
    (hd : y.cls ≠ "java/lang/invoke/MethodHandle" ∧ y.cls ≠ "java/lang/invoke/VarHandle" ∧ (parseMethodDescriptor y.desc).map (fun d => d.parameters.length) = some As.length) (hR : k + 1 ≤ R.frames ∧ 8 + (maxL + 11) + 40 * k ≤ R.locals) (hKS : zKS G s) (hO : jOld G H) (hrecv : ∃ cellB : Cell, H[b]? = some cellB ∧ cellB.vm.isStatics = false ∧ s.vm.findClass "java/lang/String" = some cellB.cls) (hsz : ls.size = nL) (hc : (rest.map fun v => v.category).sum ≤ 8) (hcap : cells ≤ R.cells ∧ slots ≤ R.slots) (hdg : decode cc pc = .ok (.invokevirtual index, 3))
    (kk : W p l e R s m args below meth c H locs cells slots Q (F0 m (pc + 3) ls (v.toList ++ rest))) : W p l e R s m args below meth c H locs cells slots Q (F0 m pc ls (As.reverse ++ .ref b :: rest)) := by
  have hts := hfix.2.2.2.2
  exact jafter (va_runV (As := As) (rest := rest) (n := As.length) (C := "java/lang/String") hfix hM ⟨callB_of As.length hts (jgi hco) rfl rfl rfl (hts _ (zgd hini rfl)) (hts _ (zgd hli rfl)) hd hR, hts _ (zgd hin rfl), hts _ (zgd hse rfl)⟩ ⟨jblind, hrecv, fun U hU hW => ⟨rfl, zKS.warm hW hKS, by rw [hU]; exact hO⟩⟩ rfl rfl hsz rfl (lv_room hc) hdg hcap) kk
end JC
/-- the String constants as a later heap holds them -/
theorem jS {G : zG} {s : State} (hKS : zKS G s) (hO : jOld G s.heap) : vk_S 2 [(zstr 0).length, (zstr 1).length] [zsb 0, zsb 1] G.2.2.2.1.1 G.2.2.2.1.2 (zgA G) s s.heap ∧ va_Z "java/lang/String" "COMPACT_STRINGS" "Z" (.int 1) (zgA G) s s.heap := by
  have hq : ∀ a : Nat, a < (zgH G).size → ¬ zgA G a → s.heap[a]? = (zgH G)[a]? := fun a _ h => hO a (Nat.le_of_not_lt h)
  exact ⟨hKS.2.2.2.2.2.2.2.1.kept hq, hKS.2.2.2.2.2.2.2.2.1.kept hq⟩
theorem jF {G : zG} {s : State} (hKS : zKS G s) (hO : jOld G s.heap) : ∃ v, (v = .null ∨ ∃ a, v = .ref a) ∧ va_Z "jdk/internal/util/Preconditions" "SIOOBE_FORMATTER" "Ljava/util/function/BiFunction;" v (zgA G) s s.heap := by
  have hq : ∀ a : Nat, a < (zgH G).size → ¬ zgA G a → s.heap[a]? = (zgH G)[a]? := fun a _ h => hO a (Nat.le_of_not_lt h)
  obtain ⟨v, h1, h2⟩ := hKS.2.2.2.2.2.2.2.2.2
  exact ⟨v, h1, h2.kept hq⟩

set_option maxHeartbeats 4000000 in
set_option maxRecDepth 100000 in
theorem jm_isLatin1 (l : Launch) (G : zG) {j : Nat} (hj : j < 2) : Met l jy_isLatin1 (jws jy_isLatin1 jc_isLatin1 1 (Option.some FieldType.boolean)) (jrm 0) (jPc G [.ref (G.2.2.2.1.1 j)]) (jQc (some (.int 1))) 0 0 (fun _ => False) := by
  refine va_MetF (cc := jc_isLatin1) (maxL := 1) (ret := (Option.some FieldType.boolean)) (by decide +kernel) rfl ?_
  intro p e s m args below meth c s₁ B hml hv
  obtain ⟨rfl, hKS, hO⟩ := hv
  have hx := B.exec
  have hb := B.bytes
  have hr := B.returns
  have hts : ∀ w ∈ zTB, w.before ([.ref (G.2.2.2.1.1 j)] : List Value).toArray s = true := fun w hw => atoms_spec (ws := jws jy_isLatin1 jc_isLatin1 1 (Option.some FieldType.boolean)) B.pre w (List.mem_cons_of_mem _ hw)
  have hown : s.vm.findClass "java/lang/String" = some m.cls := findClass_of_methodNamed B.named
  have hlocks := B.notSynchronized
  have hS : va_S (zgA G) s.heap s.heap [] := va_S.rf
  have hfix : CallFix p m c jc_isLatin1 1 s ([.ref (G.2.2.2.1.1 j)] : List Value).toArray zTB "java/lang/String" := ⟨hx, hb, hml, hown, hts⟩
  obtain ⟨hSt, hCS⟩ := jS hKS hO
  have hl := lv_entry ([.ref (G.2.2.2.1.1 j)]) (n := 1) (Nat.le_of_ble_eq_true rfl)
  rw [lg_entry_eq]
  generalize (lg_sl ([.ref (G.2.2.2.1.1 j)]) ++ List.replicate (1 - (lg_sl ([.ref (G.2.2.2.1.1 j)])).length) Slot.unset).toArray = ls at hl ⊢
  have hl : lv_has ls 1 [(0, .ref (G.2.2.2.1.1 j))] := hl
  refine va_gets hx hb hCS hS hown (hts _ (zgd jf_38 rfl)) (fun _ h => h) jd_isLatin1_0 ?_
  refine lv_if_eq (tgt := 17) hx hb jd_isLatin1_3 (by decide) (fun q => absurd q (by decide)) (fun _ => ?_)
  refine lv_aload_n hx hb jd_isLatin1_6 rfl (lv_at hl 0 rfl) ?_
  refine vk_getf hx hb (hSt.1 j hj).2.1 hS hown (hts _ (zgd jf_15 rfl)) (fun _ h => h) jd_isLatin1_7 ?_
  refine lv_if_ne (tgt := 17) hx hb jd_isLatin1_10 (by decide) (fun q => absurd rfl q) (fun _ => ?_)
  refine lv_iconst (v := 1) hx hb jd_isLatin1_13 (by decide) ?_
  refine lv_goto (tgt := 18) hx hb jd_isLatin1_14 (by decide) ?_
  exact W.zret (ty := .boolean) hx hb hr (by decide) (fun t ht _ => ⟨rfl, ht⟩) (fun q h => by cases h) jd_isLatin1_18 hlocks
set_option maxHeartbeats 4000000 in
set_option maxRecDepth 100000 in
theorem jm_coder (l : Launch) (G : zG) {j : Nat} (hj : j < 2) : Met l jy_coder (jws jy_coder jc_coder 1 (Option.some FieldType.byte)) (jrm 0) (jPc G [.ref (G.2.2.2.1.1 j)]) (jQc (some (.int 0))) 0 0 (fun _ => False) := by
  refine va_MetF (cc := jc_coder) (maxL := 1) (ret := (Option.some FieldType.byte)) (by decide +kernel) rfl ?_
  intro p e s m args below meth c s₁ B hml hv
  obtain ⟨rfl, hKS, hO⟩ := hv
  have hx := B.exec
  have hb := B.bytes
  have hr := B.returns
  have hts : ∀ w ∈ zTB, w.before ([.ref (G.2.2.2.1.1 j)] : List Value).toArray s = true := fun w hw => atoms_spec (ws := jws jy_coder jc_coder 1 (Option.some FieldType.byte)) B.pre w (List.mem_cons_of_mem _ hw)
  have hown : s.vm.findClass "java/lang/String" = some m.cls := findClass_of_methodNamed B.named
  have hlocks := B.notSynchronized
  have hS : va_S (zgA G) s.heap s.heap [] := va_S.rf
  have hfix : CallFix p m c jc_coder 1 s ([.ref (G.2.2.2.1.1 j)] : List Value).toArray zTB "java/lang/String" := ⟨hx, hb, hml, hown, hts⟩
  obtain ⟨hSt, hCS⟩ := jS hKS hO
  have hl := lv_entry ([.ref (G.2.2.2.1.1 j)]) (n := 1) (Nat.le_of_ble_eq_true rfl)
  rw [lg_entry_eq]
  generalize (lg_sl ([.ref (G.2.2.2.1.1 j)]) ++ List.replicate (1 - (lg_sl ([.ref (G.2.2.2.1.1 j)])).length) Slot.unset).toArray = ls at hl ⊢
  have hl : lv_has ls 1 [(0, .ref (G.2.2.2.1.1 j))] := hl
  refine va_gets hx hb hCS hS hown (hts _ (zgd jf_38 rfl)) (fun _ h => h) jd_coder_0 ?_
  refine lv_if_eq (tgt := 13) hx hb jd_coder_3 (by decide) (fun q => absurd q (by decide)) (fun _ => ?_)
  refine lv_aload_n hx hb jd_coder_6 rfl (lv_at hl 0 rfl) ?_
  refine vk_getf hx hb (hSt.1 j hj).2.1 hS hown (hts _ (zgd jf_15 rfl)) (fun _ h => h) jd_coder_7 ?_
  refine lv_goto (tgt := 14) hx hb jd_coder_10 (by decide) ?_
  exact W.zret (ty := .byte) hx hb hr (by decide) (fun t ht _ => ⟨rfl, ht⟩) (fun q h => by cases h) jd_coder_14 hlocks
set_option maxHeartbeats 4000000 in
set_option maxRecDepth 100000 in
theorem jm_pcheck (l : Launch) (G : zG) {i n : Int32} {w : Value} (hi : 0 ≤ i) (hn : i < n) (hw : w = .null ∨ ∃ a, w = .ref a) : Met l jy_pcheck (jws jy_pcheck jc_pcheck 3 (Option.some FieldType.int)) (jrm 0) (jPc G [.int i, .int n, w]) (jQc (some (.int i))) 0 0 (fun _ => False) := by
  have hcat : w.category = 1 := by rcases hw with rfl | ⟨a, rfl⟩ <;> rfl
  have hargs : lv_args 0 [.int i, .int n, w] = [(0, .int i), (1, .int n), (2, w)] := by simp [lv_args, Value.category]
  refine va_MetF (cc := jc_pcheck) (maxL := 3) (ret := (Option.some FieldType.int)) (by decide +kernel) rfl ?_
  intro p e s m args below meth c s₁ B hml hv
  obtain ⟨rfl, hKS, hO⟩ := hv
  have hx := B.exec
  have hb := B.bytes
  have hr := B.returns
  have hts : ∀ w ∈ zTB, w.before ([.int i, .int n, w] : List Value).toArray s = true := fun w hw => atoms_spec (ws := jws jy_pcheck jc_pcheck 3 (Option.some FieldType.int)) B.pre w (List.mem_cons_of_mem _ hw)
  have hown : s.vm.findClass "jdk/internal/util/Preconditions" = some m.cls := findClass_of_methodNamed B.named
  have hlocks := B.notSynchronized
  have hS : va_S (zgA G) s.heap s.heap [] := va_S.rf
  have hfix : CallFix p m c jc_pcheck 3 s ([.int i, .int n, w] : List Value).toArray zTB "jdk/internal/util/Preconditions" := ⟨hx, hb, hml, hown, hts⟩
  obtain ⟨hSt, hCS⟩ := jS hKS hO
  have hl := lv_entry ([.int i, .int n, w]) (n := 3) (by rcases hw with rfl | ⟨a, rfl⟩ <;> exact Nat.le_of_ble_eq_true rfl)
  rw [lg_entry_eq]
  generalize (lg_sl ([.int i, .int n, w]) ++ List.replicate (3 - (lg_sl ([.int i, .int n, w])).length) Slot.unset).toArray = ls at hl ⊢
  have hl : lv_has ls 3 [(0, .int i), (1, .int n), (2, w)] := by rw [hargs] at hl; exact hl
  refine lv_iload_n hx hb jd_pcheck_0 rfl (lv_at hl 0 rfl) ?_
  refine lv_if_lt (tgt := 9) hx hb jd_pcheck_1 (by decide) (fun q => absurd q (Int32.not_lt.mpr hi)) (fun _ => ?_)
  refine lv_iload_n hx hb jd_pcheck_4 rfl (lv_at hl 0 rfl) ?_
  refine lv_iload_n hx hb jd_pcheck_5 rfl (lv_at hl 1 rfl) ?_
  refine lv_icmp_lt (tgt := 16) hx hb jd_pcheck_6 (by decide) (fun _ => ?_) (fun q => absurd hn q)
  refine lv_iload_n hx hb jd_pcheck_16 rfl (lv_at hl 0 rfl) ?_
  exact W.iret hx hb hr (fun t ht _ => ⟨rfl, ht⟩) (fun q h => by cases h) jd_pcheck_17 hlocks
set_option maxHeartbeats 4000000 in
set_option maxRecDepth 100000 in
theorem jm_scheck (l : Launch) (G : zG) {i n : Int32} (hi : 0 ≤ i) (hn : i < n) : Met l jy_scheck (jws jy_scheck jc_scheck 2 (Option.none : Option FieldType)) (jrm 1) (jPc G [.int i, .int n]) (jQc (none)) 0 0 (fun _ => False) := by
  refine va_MetF (cc := jc_scheck) (maxL := 2) (ret := (Option.none : Option FieldType)) (by decide +kernel) rfl ?_
  intro p e s m args below meth c s₁ B hml hv
  obtain ⟨rfl, hKS, hO⟩ := hv
  have hx := B.exec
  have hb := B.bytes
  have hr := B.returns
  have hts : ∀ w ∈ zTB, w.before ([.int i, .int n] : List Value).toArray s = true := fun w hw => atoms_spec (ws := jws jy_scheck jc_scheck 2 (Option.none : Option FieldType)) B.pre w (List.mem_cons_of_mem _ hw)
  have hown : s.vm.findClass "java/lang/String" = some m.cls := findClass_of_methodNamed B.named
  have hlocks := B.notSynchronized
  have hS : va_S (zgA G) s.heap s.heap [] := va_S.rf
  have hfix : CallFix p m c jc_scheck 2 s ([.int i, .int n] : List Value).toArray zTB "java/lang/String" := ⟨hx, hb, hml, hown, hts⟩
  obtain ⟨hSt, hCS⟩ := jS hKS hO
  have hl := lv_entry ([.int i, .int n]) (n := 2) (Nat.le_of_ble_eq_true rfl)
  rw [lg_entry_eq]
  generalize (lg_sl ([.int i, .int n]) ++ List.replicate (2 - (lg_sl ([.int i, .int n])).length) Slot.unset).toArray = ls at hl ⊢
  have hl : lv_has ls 2 [(0, .int i), (1, .int n)] := hl
  obtain ⟨w, hw, hWZ⟩ := jF hKS hO
  refine lv_iload_n hx hb jd_scheck_0 rfl (lv_at hl 0 rfl) ?_
  refine lv_iload_n hx hb jd_scheck_1 rfl (lv_at hl 1 rfl) ?_
  refine va_gets hx hb hWZ hS hown (hts _ (zgd jf_1053 rfl)) (fun _ h => h) jd_scheck_2 ?_
  refine jcallS (As := [.int i, .int n, w]) (rest := []) hfix (jm_pcheck l G hi hn hw) jw_pcheck jl_String_1059 jst_pcheck jini_P (by decide +kernel) ⟨Nat.le_of_ble_eq_true rfl, Nat.le_of_ble_eq_true rfl⟩ hKS hO hl.1 (Nat.le_of_ble_eq_true rfl) ⟨Nat.le_refl _, Nat.le_refl _⟩ jd_scheck_5 ?_
  refine lv_pop hx hb jd_scheck_8 rfl ?_
  exact W.vret hx hb hr (fun t ht _ => ⟨rfl, ht⟩) (fun q h => by cases h) jd_scheck_9 hlocks
set_option maxHeartbeats 4000000 in
set_option maxRecDepth 100000 in
theorem jm_lcharAt (l : Launch) (G : zG) {j : Nat} (hj : j < 2) {i : Int32} (hi : vp_in i (([(zstr 0).length, (zstr 1).length] : List Nat).getD j 0)) : Met l jy_lcharAt (jws jy_lcharAt jc_lcharAt 2 (Option.some FieldType.char)) (jrm 2) (jPc G [.ref (G.2.2.2.1.2 j), .int i]) (jQc (some (.int (nI ((zstr j).getD i.toNatClampNeg 0))))) 0 0 (fun _ => False) := by
  refine va_MetF (cc := jc_lcharAt) (maxL := 2) (ret := (Option.some FieldType.char)) (by decide +kernel) rfl ?_
  intro p e s m args below meth c s₁ B hml hv
  obtain ⟨rfl, hKS, hO⟩ := hv
  have hx := B.exec
  have hb := B.bytes
  have hr := B.returns
  have hts : ∀ w ∈ zTB, w.before ([.ref (G.2.2.2.1.2 j), .int i] : List Value).toArray s = true := fun w hw => atoms_spec (ws := jws jy_lcharAt jc_lcharAt 2 (Option.some FieldType.char)) B.pre w (List.mem_cons_of_mem _ hw)
  have hown : s.vm.findClass "java/lang/StringLatin1" = some m.cls := findClass_of_methodNamed B.named
  have hlocks := B.notSynchronized
  have hS : va_S (zgA G) s.heap s.heap [] := va_S.rf
  have hfix : CallFix p m c jc_lcharAt 2 s ([.ref (G.2.2.2.1.2 j), .int i] : List Value).toArray zTB "java/lang/StringLatin1" := ⟨hx, hb, hml, hown, hts⟩
  obtain ⟨hSt, hCS⟩ := jS hKS hO
  have hl := lv_entry ([.ref (G.2.2.2.1.2 j), .int i]) (n := 2) (Nat.le_of_ble_eq_true rfl)
  rw [lg_entry_eq]
  generalize (lg_sl ([.ref (G.2.2.2.1.2 j), .int i]) ++ List.replicate (2 - (lg_sl ([.ref (G.2.2.2.1.2 j), .int i])).length) Slot.unset).toArray = ls at hl ⊢
  have hl : lv_has ls 2 [(0, .ref (G.2.2.2.1.2 j)), (1, .int i)] := hl
  have hT := (hSt.1 j hj).2.2.2
  have hlen : ([(zstr 0).length, (zstr 1).length] : List Nat).getD j 0 < 2 ^ 31 := by rcases (show j = 0 ∨ j = 1 by omega) with rfl | rfl <;> decide
  obtain ⟨k, hk, rfl⟩ := vp_in_of hi hlen
  have hb2 : ∀ k, k < ([(zstr 0).length, (zstr 1).length] : List Nat).getD j 0 → ((([zsb 0, zsb 1] : List (List Int32)).getD j []).getD k 0 &&& 255).toUInt32 % 65536 = (nI ((zstr j).getD k 0)).toUInt32 ∧ narrow .char (.int (nI ((zstr j).getD k 0))) = .int (nI ((zstr j).getD k 0)) := by
    rcases (show j = 0 ∨ j = 1 by omega) with rfl | rfl <;> decide +kernel
  refine lv_iload_n hx hb jd_lcharAt_0 rfl (lv_at hl 1 rfl) ?_
  refine lv_aload_n hx hb jd_lcharAt_1 rfl (lv_at hl 0 rfl) ?_
  refine va_tlen hx hb hT hS rfl jd_lcharAt_2 ?_
  refine jcallS (As := [.int (nI k), .int (Int32.ofNat (([(zstr 0).length, (zstr 1).length] : List Nat).getD j 0))]) (rest := []) hfix (jm_scheck l G (nI_pos' (by omega)) (nI_lt hk hlen)) jw_scheck jl_StringLatin1_9 jst_scheck jini_S (by decide +kernel) ⟨Nat.le_of_ble_eq_true rfl, Nat.le_of_ble_eq_true rfl⟩ hKS hO hl.1 (Nat.le_of_ble_eq_true rfl) ⟨Nat.le_refl _, Nat.le_refl _⟩ jd_lcharAt_3 ?_
  refine lv_aload_n hx hb jd_lcharAt_6 rfl (lv_at hl 0 rfl) ?_
  refine lv_iload_n hx hb jd_lcharAt_7 rfl (lv_at hl 1 rfl) ?_
  refine va_tb hx hb hT hS hi rfl jd_lcharAt_8 ?_
  refine lv_sipush (v := 255) hx hb jd_lcharAt_9 (by decide) ?_
  refine lv_iand hx hb jd_lcharAt_12 ?_
  refine lv_i2c (v := nI ((zstr j).getD (nI k).toNatClampNeg 0)) hx hb jd_lcharAt_13 (by rw [nI_clamp (by omega), (hb2 k hk).1]; simp) ?_
  exact W.zret (ty := .char) hx hb hr (by rw [nI_clamp (by omega)]; exact (hb2 k hk).2) (fun t ht _ => ⟨rfl, ht⟩) (fun q h => by cases h) jd_lcharAt_14 hlocks
set_option maxHeartbeats 4000000 in
set_option maxRecDepth 100000 in
theorem jm_charAt (l : Launch) (G : zG) {j : Nat} (hj : j < 2) {i : Int32} (hi : vp_in i (([(zstr 0).length, (zstr 1).length] : List Nat).getD j 0)) : Met l jy_charAt (jws jy_charAt jc_charAt 2 (Option.some FieldType.char)) (jrm 3) (jPc G [.ref (G.2.2.2.1.1 j), .int i]) (jQc (some (.int (nI ((zstr j).getD i.toNatClampNeg 0))))) 0 0 (fun _ => False) := by
  refine va_MetF (cc := jc_charAt) (maxL := 2) (ret := (Option.some FieldType.char)) (by decide +kernel) rfl ?_
  intro p e s m args below meth c s₁ B hml hv
  obtain ⟨rfl, hKS, hO⟩ := hv
  have hx := B.exec
  have hb := B.bytes
  have hr := B.returns
  have hts : ∀ w ∈ zTB, w.before ([.ref (G.2.2.2.1.1 j), .int i] : List Value).toArray s = true := fun w hw => atoms_spec (ws := jws jy_charAt jc_charAt 2 (Option.some FieldType.char)) B.pre w (List.mem_cons_of_mem _ hw)
  have hown : s.vm.findClass "java/lang/String" = some m.cls := findClass_of_methodNamed B.named
  have hlocks := B.notSynchronized
  have hS : va_S (zgA G) s.heap s.heap [] := va_S.rf
  have hfix : CallFix p m c jc_charAt 2 s ([.ref (G.2.2.2.1.1 j), .int i] : List Value).toArray zTB "java/lang/String" := ⟨hx, hb, hml, hown, hts⟩
  obtain ⟨hSt, hCS⟩ := jS hKS hO
  have hl := lv_entry ([.ref (G.2.2.2.1.1 j), .int i]) (n := 2) (Nat.le_of_ble_eq_true rfl)
  rw [lg_entry_eq]
  generalize (lg_sl ([.ref (G.2.2.2.1.1 j), .int i]) ++ List.replicate (2 - (lg_sl ([.ref (G.2.2.2.1.1 j), .int i])).length) Slot.unset).toArray = ls at hl ⊢
  have hl : lv_has ls 2 [(0, .ref (G.2.2.2.1.1 j)), (1, .int i)] := hl
  have hnar : narrow .char (.int (nI ((zstr j).getD i.toNatClampNeg 0))) = .int (nI ((zstr j).getD i.toNatClampNeg 0)) := by
    have hall : ∀ k, k < ([(zstr 0).length, (zstr 1).length] : List Nat).getD j 0 → narrow .char (.int (nI ((zstr j).getD k 0))) = .int (nI ((zstr j).getD k 0)) := by
      rcases (show j = 0 ∨ j = 1 by omega) with rfl | rfl <;> decide +kernel
    exact hall _ (Nat.not_le.mp fun q => hi (Or.inr q))
  refine lv_aload_n hx hb jd_charAt_0 rfl (lv_at hl 0 rfl) ?_
  refine jcallV (As := []) (rest := []) hfix (jm_isLatin1 l G hj) jw_isLatin1 jl_String_492 jin_isLatin1 jse_isLatin1 jini_S (by decide +kernel) ⟨Nat.le_of_ble_eq_true rfl, Nat.le_of_ble_eq_true rfl⟩ hKS hO (vk_recv hSt hj hS) hl.1 (Nat.le_of_ble_eq_true rfl) ⟨Nat.le_refl _, Nat.le_refl _⟩ jd_charAt_1 ?_
  refine lv_if_eq (tgt := 16) hx hb jd_charAt_4 (by decide) (fun q => absurd q (by decide)) (fun _ => ?_)
  refine lv_aload_n hx hb jd_charAt_7 rfl (lv_at hl 0 rfl) ?_
  refine vk_getf hx hb (hSt.1 j hj).2.2.1 hS hown (hts _ (zgd jf_9 rfl)) (fun _ h => h) jd_charAt_8 ?_
  refine lv_iload_n hx hb jd_charAt_11 rfl (lv_at hl 1 rfl) ?_
  refine jcallS (As := [.ref (G.2.2.2.1.2 j), .int i]) (rest := []) hfix (jm_lcharAt l G hj hi) jw_lcharAt jl_String_495 jst_lcharAt jini_L (by decide +kernel) ⟨Nat.le_of_ble_eq_true rfl, Nat.le_of_ble_eq_true rfl⟩ hKS hO hl.1 (Nat.le_of_ble_eq_true rfl) ⟨Nat.le_refl _, Nat.le_refl _⟩ jd_charAt_12 ?_
  exact W.zret (ty := .char) hx hb hr hnar (fun t ht _ => ⟨rfl, ht⟩) (fun q h => by cases h) jd_charAt_15 hlocks
