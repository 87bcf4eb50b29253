/-! String's own members on the class's constants. -/
abbrev cJ0_coder_7d493 : ByteArray := prog_23_method_152_code
def yJ0_coder_7d493 : MethodName := ⟨"java/lang/String", "coder", "()B"⟩
theorem dJ0_coder_7d493_0 : decode cJ0_coder_7d493 0 = .ok (.getstatic 38, 3) := by decide +kernel
theorem dJ0_coder_7d493_3 : decode cJ0_coder_7d493 3 = .ok (.ifCond .eq 10, 3) := by decide +kernel
theorem dJ0_coder_7d493_6 : decode cJ0_coder_7d493 6 = .ok (.aload_n 0, 1) := by decide +kernel
theorem dJ0_coder_7d493_7 : decode cJ0_coder_7d493 7 = .ok (.getfield 15, 3) := by decide +kernel
theorem dJ0_coder_7d493_10 : decode cJ0_coder_7d493 10 = .ok (.goto 4, 3) := by decide +kernel
theorem dJ0_coder_7d493_13 : decode cJ0_coder_7d493 13 = .ok (.iconst 1, 1) := by decide +kernel
theorem dJ0_coder_7d493_14 : decode cJ0_coder_7d493 14 = .ok (.ireturn, 1) := by decide +kernel
abbrev cJ0_isLatin1_aae02 : ByteArray := prog_23_method_154_code
def yJ0_isLatin1_aae02 : MethodName := ⟨"java/lang/String", "isLatin1", "()Z"⟩
theorem dJ0_isLatin1_aae02_0 : decode cJ0_isLatin1_aae02 0 = .ok (.getstatic 38, 3) := by decide +kernel
theorem dJ0_isLatin1_aae02_3 : decode cJ0_isLatin1_aae02 3 = .ok (.ifCond .eq 14, 3) := by decide +kernel
theorem dJ0_isLatin1_aae02_6 : decode cJ0_isLatin1_aae02 6 = .ok (.aload_n 0, 1) := by decide +kernel
theorem dJ0_isLatin1_aae02_7 : decode cJ0_isLatin1_aae02 7 = .ok (.getfield 15, 3) := by decide +kernel
theorem dJ0_isLatin1_aae02_10 : decode cJ0_isLatin1_aae02 10 = .ok (.ifCond .ne 7, 3) := by decide +kernel
theorem dJ0_isLatin1_aae02_13 : decode cJ0_isLatin1_aae02 13 = .ok (.iconst 1, 1) := by decide +kernel
theorem dJ0_isLatin1_aae02_14 : decode cJ0_isLatin1_aae02 14 = .ok (.goto 4, 3) := by decide +kernel
theorem dJ0_isLatin1_aae02_17 : decode cJ0_isLatin1_aae02 17 = .ok (.iconst 0, 1) := by decide +kernel
theorem dJ0_isLatin1_aae02_18 : decode cJ0_isLatin1_aae02 18 = .ok (.ireturn, 1) := by decide +kernel
abbrev cJ0_length_8abf5 : ByteArray := prog_23_method_54_code
def yJ0_length_8abf5 : MethodName := ⟨"java/lang/String", "length", "()I"⟩
theorem dJ0_length_8abf5_0 : decode cJ0_length_8abf5 0 = .ok (.aload_n 0, 1) := by decide +kernel
theorem dJ0_length_8abf5_1 : decode cJ0_length_8abf5 1 = .ok (.getfield 9, 3) := by decide +kernel
theorem dJ0_length_8abf5_4 : decode cJ0_length_8abf5 4 = .ok (.arraylength, 1) := by decide +kernel
theorem dJ0_length_8abf5_5 : decode cJ0_length_8abf5 5 = .ok (.aload_n 0, 1) := by decide +kernel
theorem dJ0_length_8abf5_6 : decode cJ0_length_8abf5 6 = .ok (.invokevirtual 335, 3) := by decide +kernel
theorem dJ0_length_8abf5_9 : decode cJ0_length_8abf5 9 = .ok (.ishr, 1) := by decide +kernel
theorem dJ0_length_8abf5_10 : decode cJ0_length_8abf5 10 = .ok (.ireturn, 1) := by decide +kernel
abbrev cJ1_canEncode_9a6ad : ByteArray := prog_24_method_4_code
def yJ1_canEncode_9a6ad : MethodName := ⟨"java/lang/StringLatin1", "canEncode", "(I)Z"⟩
theorem dJ1_canEncode_9a6ad_0 : decode cJ1_canEncode_9a6ad 0 = .ok (.iload_n 0, 1) := by decide +kernel
theorem dJ1_canEncode_9a6ad_1 : decode cJ1_canEncode_9a6ad 1 = .ok (.ifCond .lt 14, 3) := by decide +kernel
theorem dJ1_canEncode_9a6ad_4 : decode cJ1_canEncode_9a6ad 4 = .ok (.iload_n 0, 1) := by decide +kernel
theorem dJ1_canEncode_9a6ad_5 : decode cJ1_canEncode_9a6ad 5 = .ok (.sipush 255, 3) := by decide +kernel
theorem dJ1_canEncode_9a6ad_8 : decode cJ1_canEncode_9a6ad 8 = .ok (.if_icmp .gt 7, 3) := by decide +kernel
theorem dJ1_canEncode_9a6ad_11 : decode cJ1_canEncode_9a6ad 11 = .ok (.iconst 1, 1) := by decide +kernel
theorem dJ1_canEncode_9a6ad_12 : decode cJ1_canEncode_9a6ad 12 = .ok (.goto 4, 3) := by decide +kernel
theorem dJ1_canEncode_9a6ad_15 : decode cJ1_canEncode_9a6ad 15 = .ok (.iconst 0, 1) := by decide +kernel
theorem dJ1_canEncode_9a6ad_16 : decode cJ1_canEncode_9a6ad 16 = .ok (.ireturn, 1) := by decide +kernel
abbrev cJ1_indexOfChar_4cfef : ByteArray := prog_24_method_23_code
def yJ1_indexOfChar_4cfef : MethodName := ⟨"java/lang/StringLatin1", "indexOfChar", "([BIII)I"⟩
theorem dJ1_indexOfChar_4cfef_0 : decode cJ1_indexOfChar_4cfef 0 = .ok (.iload_n 1, 1) := by decide +kernel
theorem dJ1_indexOfChar_4cfef_1 : decode cJ1_indexOfChar_4cfef 1 = .ok (.i2b, 1) := by decide +kernel
theorem dJ1_indexOfChar_4cfef_2 : decode cJ1_indexOfChar_4cfef 2 = .ok (.istore 4, 2) := by decide +kernel
theorem dJ1_indexOfChar_4cfef_4 : decode cJ1_indexOfChar_4cfef 4 = .ok (.iload_n 2, 1) := by decide +kernel
theorem dJ1_indexOfChar_4cfef_5 : decode cJ1_indexOfChar_4cfef 5 = .ok (.istore 5, 2) := by decide +kernel
theorem dJ1_indexOfChar_4cfef_7 : decode cJ1_indexOfChar_4cfef 7 = .ok (.iload 5, 2) := by decide +kernel
theorem dJ1_indexOfChar_4cfef_9 : decode cJ1_indexOfChar_4cfef 9 = .ok (.iload_n 3, 1) := by decide +kernel
theorem dJ1_indexOfChar_4cfef_10 : decode cJ1_indexOfChar_4cfef 10 = .ok (.if_icmp .ge 21, 3) := by decide +kernel
theorem dJ1_indexOfChar_4cfef_13 : decode cJ1_indexOfChar_4cfef 13 = .ok (.aload_n 0, 1) := by decide +kernel
theorem dJ1_indexOfChar_4cfef_14 : decode cJ1_indexOfChar_4cfef 14 = .ok (.iload 5, 2) := by decide +kernel
theorem dJ1_indexOfChar_4cfef_16 : decode cJ1_indexOfChar_4cfef 16 = .ok (.baload, 1) := by decide +kernel
theorem dJ1_indexOfChar_4cfef_17 : decode cJ1_indexOfChar_4cfef 17 = .ok (.iload 4, 2) := by decide +kernel
theorem dJ1_indexOfChar_4cfef_19 : decode cJ1_indexOfChar_4cfef 19 = .ok (.if_icmp .ne 6, 3) := by decide +kernel
theorem dJ1_indexOfChar_4cfef_22 : decode cJ1_indexOfChar_4cfef 22 = .ok (.iload 5, 2) := by decide +kernel
theorem dJ1_indexOfChar_4cfef_24 : decode cJ1_indexOfChar_4cfef 24 = .ok (.ireturn, 1) := by decide +kernel
theorem dJ1_indexOfChar_4cfef_25 : decode cJ1_indexOfChar_4cfef 25 = .ok (.iinc 5 1, 3) := by decide +kernel
theorem dJ1_indexOfChar_4cfef_28 : decode cJ1_indexOfChar_4cfef 28 = .ok (.goto (-21), 3) := by decide +kernel
theorem dJ1_indexOfChar_4cfef_31 : decode cJ1_indexOfChar_4cfef 31 = .ok (.iconst (-1), 1) := by decide +kernel
theorem dJ1_indexOfChar_4cfef_32 : decode cJ1_indexOfChar_4cfef 32 = .ok (.ireturn, 1) := by decide +kernel
abbrev cJ1_indexOf_4cfef : ByteArray := prog_24_method_22_code
def yJ1_indexOf_4cfef : MethodName := ⟨"java/lang/StringLatin1", "indexOf", "([BIII)I"⟩
theorem dJ1_indexOf_4cfef_0 : decode cJ1_indexOf_4cfef 0 = .ok (.iload_n 1, 1) := by decide +kernel
theorem dJ1_indexOf_4cfef_1 : decode cJ1_indexOf_4cfef 1 = .ok (.invokestatic 88, 3) := by decide +kernel
theorem dJ1_indexOf_4cfef_4 : decode cJ1_indexOf_4cfef 4 = .ok (.ifCond .ne 5, 3) := by decide +kernel
theorem dJ1_indexOf_4cfef_7 : decode cJ1_indexOf_4cfef 7 = .ok (.iconst (-1), 1) := by decide +kernel
theorem dJ1_indexOf_4cfef_8 : decode cJ1_indexOf_4cfef 8 = .ok (.ireturn, 1) := by decide +kernel
theorem dJ1_indexOf_4cfef_9 : decode cJ1_indexOf_4cfef 9 = .ok (.iload_n 2, 1) := by decide +kernel
theorem dJ1_indexOf_4cfef_10 : decode cJ1_indexOf_4cfef 10 = .ok (.iconst 0, 1) := by decide +kernel
theorem dJ1_indexOf_4cfef_11 : decode cJ1_indexOf_4cfef 11 = .ok (.invokestatic 92, 3) := by decide +kernel
theorem dJ1_indexOf_4cfef_14 : decode cJ1_indexOf_4cfef 14 = .ok (.istore_n 2, 1) := by decide +kernel
theorem dJ1_indexOf_4cfef_15 : decode cJ1_indexOf_4cfef 15 = .ok (.iload_n 3, 1) := by decide +kernel
theorem dJ1_indexOf_4cfef_16 : decode cJ1_indexOf_4cfef 16 = .ok (.aload_n 0, 1) := by decide +kernel
theorem dJ1_indexOf_4cfef_17 : decode cJ1_indexOf_4cfef 17 = .ok (.arraylength, 1) := by decide +kernel
theorem dJ1_indexOf_4cfef_18 : decode cJ1_indexOf_4cfef 18 = .ok (.invokestatic 38, 3) := by decide +kernel
theorem dJ1_indexOf_4cfef_21 : decode cJ1_indexOf_4cfef 21 = .ok (.istore_n 3, 1) := by decide +kernel
theorem dJ1_indexOf_4cfef_22 : decode cJ1_indexOf_4cfef 22 = .ok (.iload_n 2, 1) := by decide +kernel
theorem dJ1_indexOf_4cfef_23 : decode cJ1_indexOf_4cfef 23 = .ok (.iload_n 3, 1) := by decide +kernel
theorem dJ1_indexOf_4cfef_24 : decode cJ1_indexOf_4cfef 24 = .ok (.if_icmp .lt 5, 3) := by decide +kernel
theorem dJ1_indexOf_4cfef_27 : decode cJ1_indexOf_4cfef 27 = .ok (.iconst (-1), 1) := by decide +kernel
theorem dJ1_indexOf_4cfef_28 : decode cJ1_indexOf_4cfef 28 = .ok (.ireturn, 1) := by decide +kernel
theorem dJ1_indexOf_4cfef_29 : decode cJ1_indexOf_4cfef 29 = .ok (.aload_n 0, 1) := by decide +kernel
theorem dJ1_indexOf_4cfef_30 : decode cJ1_indexOf_4cfef 30 = .ok (.iload_n 1, 1) := by decide +kernel
theorem dJ1_indexOf_4cfef_31 : decode cJ1_indexOf_4cfef 31 = .ok (.iload_n 2, 1) := by decide +kernel
theorem dJ1_indexOf_4cfef_32 : decode cJ1_indexOf_4cfef 32 = .ok (.iload_n 3, 1) := by decide +kernel
theorem dJ1_indexOf_4cfef_33 : decode cJ1_indexOf_4cfef 33 = .ok (.invokestatic 95, 3) := by decide +kernel
theorem dJ1_indexOf_4cfef_36 : decode cJ1_indexOf_4cfef 36 = .ok (.ireturn, 1) := by decide +kernel
abbrev cJ0_indexOf_7cf53 : ByteArray := prog_23_method_80_code
def yJ0_indexOf_7cf53 : MethodName := ⟨"java/lang/String", "indexOf", "(II)I"⟩
theorem dJ0_indexOf_7cf53_0 : decode cJ0_indexOf_7cf53 0 = .ok (.aload_n 0, 1) := by decide +kernel
theorem dJ0_indexOf_7cf53_1 : decode cJ0_indexOf_7cf53 1 = .ok (.invokevirtual 492, 3) := by decide +kernel
theorem dJ0_indexOf_7cf53_4 : decode cJ0_indexOf_7cf53 4 = .ok (.ifCond .eq 19, 3) := by decide +kernel
theorem dJ0_indexOf_7cf53_7 : decode cJ0_indexOf_7cf53 7 = .ok (.aload_n 0, 1) := by decide +kernel
theorem dJ0_indexOf_7cf53_8 : decode cJ0_indexOf_7cf53 8 = .ok (.getfield 9, 3) := by decide +kernel
theorem dJ0_indexOf_7cf53_11 : decode cJ0_indexOf_7cf53 11 = .ok (.iload_n 1, 1) := by decide +kernel
theorem dJ0_indexOf_7cf53_12 : decode cJ0_indexOf_7cf53 12 = .ok (.iload_n 2, 1) := by decide +kernel
theorem dJ0_indexOf_7cf53_13 : decode cJ0_indexOf_7cf53 13 = .ok (.aload_n 0, 1) := by decide +kernel
theorem dJ0_indexOf_7cf53_14 : decode cJ0_indexOf_7cf53 14 = .ok (.invokevirtual 505, 3) := by decide +kernel
theorem dJ0_indexOf_7cf53_17 : decode cJ0_indexOf_7cf53 17 = .ok (.invokestatic 637, 3) := by decide +kernel
theorem dJ0_indexOf_7cf53_20 : decode cJ0_indexOf_7cf53 20 = .ok (.goto 16, 3) := by decide +kernel
theorem dJ0_indexOf_7cf53_23 : decode cJ0_indexOf_7cf53 23 = .ok (.aload_n 0, 1) := by decide +kernel
theorem dJ0_indexOf_7cf53_24 : decode cJ0_indexOf_7cf53 24 = .ok (.getfield 9, 3) := by decide +kernel
theorem dJ0_indexOf_7cf53_27 : decode cJ0_indexOf_7cf53 27 = .ok (.iload_n 1, 1) := by decide +kernel
theorem dJ0_indexOf_7cf53_28 : decode cJ0_indexOf_7cf53 28 = .ok (.iload_n 2, 1) := by decide +kernel
theorem dJ0_indexOf_7cf53_29 : decode cJ0_indexOf_7cf53 29 = .ok (.aload_n 0, 1) := by decide +kernel
theorem dJ0_indexOf_7cf53_30 : decode cJ0_indexOf_7cf53 30 = .ok (.invokevirtual 505, 3) := by decide +kernel
theorem dJ0_indexOf_7cf53_33 : decode cJ0_indexOf_7cf53 33 = .ok (.invokestatic 640, 3) := by decide +kernel
theorem dJ0_indexOf_7cf53_36 : decode cJ0_indexOf_7cf53 36 = .ok (.ireturn, 1) := by decide +kernel
abbrev cJ0_indexOf_0f7a4 : ByteArray := prog_23_method_79_code
def yJ0_indexOf_0f7a4 : MethodName := ⟨"java/lang/String", "indexOf", "(I)I"⟩
theorem dJ0_indexOf_0f7a4_0 : decode cJ0_indexOf_0f7a4 0 = .ok (.aload_n 0, 1) := by decide +kernel
theorem dJ0_indexOf_0f7a4_1 : decode cJ0_indexOf_0f7a4 1 = .ok (.iload_n 1, 1) := by decide +kernel
theorem dJ0_indexOf_0f7a4_2 : decode cJ0_indexOf_0f7a4 2 = .ok (.iconst 0, 1) := by decide +kernel
theorem dJ0_indexOf_0f7a4_3 : decode cJ0_indexOf_0f7a4 3 = .ok (.invokevirtual 633, 3) := by decide +kernel
theorem dJ0_indexOf_0f7a4_6 : decode cJ0_indexOf_0f7a4 6 = .ok (.ireturn, 1) := by decide +kernel
abbrev cJ3_checkIndex_8e157 : ByteArray := prog_31_method_11_code
def yJ3_checkIndex_8e157 : MethodName := ⟨"jdk/internal/util/Preconditions", "checkIndex", "(IILjava/util/function/BiFunction;)I"⟩
theorem dJ3_checkIndex_8e157_0 : decode cJ3_checkIndex_8e157 0 = .ok (.iload_n 0, 1) := by decide +kernel
theorem dJ3_checkIndex_8e157_1 : decode cJ3_checkIndex_8e157 1 = .ok (.ifCond .lt 8, 3) := by decide +kernel
theorem dJ3_checkIndex_8e157_4 : decode cJ3_checkIndex_8e157 4 = .ok (.iload_n 0, 1) := by decide +kernel
theorem dJ3_checkIndex_8e157_5 : decode cJ3_checkIndex_8e157 5 = .ok (.iload_n 1, 1) := by decide +kernel
theorem dJ3_checkIndex_8e157_6 : decode cJ3_checkIndex_8e157 6 = .ok (.if_icmp .lt 10, 3) := by decide +kernel
theorem dJ3_checkIndex_8e157_9 : decode cJ3_checkIndex_8e157 9 = .ok (.aload_n 2, 1) := by decide +kernel
theorem dJ3_checkIndex_8e157_10 : decode cJ3_checkIndex_8e157 10 = .ok (.iload_n 0, 1) := by decide +kernel
theorem dJ3_checkIndex_8e157_11 : decode cJ3_checkIndex_8e157 11 = .ok (.iload_n 1, 1) := by decide +kernel
theorem dJ3_checkIndex_8e157_12 : decode cJ3_checkIndex_8e157 12 = .ok (.invokestatic 95, 3) := by decide +kernel
theorem dJ3_checkIndex_8e157_15 : decode cJ3_checkIndex_8e157 15 = .ok (.athrow, 1) := by decide +kernel
theorem dJ3_checkIndex_8e157_16 : decode cJ3_checkIndex_8e157 16 = .ok (.iload_n 0, 1) := by decide +kernel
theorem dJ3_checkIndex_8e157_17 : decode cJ3_checkIndex_8e157 17 = .ok (.ireturn, 1) := by decide +kernel
abbrev cJ0_checkIndex_df160 : ByteArray := prog_23_method_155_code
def yJ0_checkIndex_df160 : MethodName := ⟨"java/lang/String", "checkIndex", "(II)V"⟩
theorem dJ0_checkIndex_df160_0 : decode cJ0_checkIndex_df160 0 = .ok (.iload_n 0, 1) := by decide +kernel
theorem dJ0_checkIndex_df160_1 : decode cJ0_checkIndex_df160 1 = .ok (.iload_n 1, 1) := by decide +kernel
theorem dJ0_checkIndex_df160_2 : decode cJ0_checkIndex_df160 2 = .ok (.getstatic 1053, 3) := by decide +kernel
theorem dJ0_checkIndex_df160_5 : decode cJ0_checkIndex_df160 5 = .ok (.invokestatic 1059, 3) := by decide +kernel
theorem dJ0_checkIndex_df160_8 : decode cJ0_checkIndex_df160 8 = .ok (.pop, 1) := by decide +kernel
theorem dJ0_checkIndex_df160_9 : decode cJ0_checkIndex_df160 9 = .ok (.return_, 1) := by decide +kernel
abbrev cJ1_charAt_3b067 : ByteArray := prog_24_method_2_code
def yJ1_charAt_3b067 : MethodName := ⟨"java/lang/StringLatin1", "charAt", "([BI)C"⟩
theorem dJ1_charAt_3b067_0 : decode cJ1_charAt_3b067 0 = .ok (.iload_n 1, 1) := by decide +kernel
theorem dJ1_charAt_3b067_1 : decode cJ1_charAt_3b067 1 = .ok (.aload_n 0, 1) := by decide +kernel
theorem dJ1_charAt_3b067_2 : decode cJ1_charAt_3b067 2 = .ok (.arraylength, 1) := by decide +kernel
theorem dJ1_charAt_3b067_3 : decode cJ1_charAt_3b067 3 = .ok (.invokestatic 9, 3) := by decide +kernel
theorem dJ1_charAt_3b067_6 : decode cJ1_charAt_3b067 6 = .ok (.aload_n 0, 1) := by decide +kernel
theorem dJ1_charAt_3b067_7 : decode cJ1_charAt_3b067 7 = .ok (.iload_n 1, 1) := by decide +kernel
theorem dJ1_charAt_3b067_8 : decode cJ1_charAt_3b067 8 = .ok (.baload, 1) := by decide +kernel
theorem dJ1_charAt_3b067_9 : decode cJ1_charAt_3b067 9 = .ok (.sipush 255, 3) := by decide +kernel
theorem dJ1_charAt_3b067_12 : decode cJ1_charAt_3b067 12 = .ok (.iand, 1) := by decide +kernel
theorem dJ1_charAt_3b067_13 : decode cJ1_charAt_3b067 13 = .ok (.i2c, 1) := by decide +kernel
theorem dJ1_charAt_3b067_14 : decode cJ1_charAt_3b067 14 = .ok (.ireturn, 1) := by decide +kernel
abbrev cJ0_charAt_5068e : ByteArray := prog_23_method_56_code
def yJ0_charAt_5068e : MethodName := ⟨"java/lang/String", "charAt", "(I)C"⟩
theorem dJ0_charAt_5068e_0 : decode cJ0_charAt_5068e 0 = .ok (.aload_n 0, 1) := by decide +kernel
theorem dJ0_charAt_5068e_1 : decode cJ0_charAt_5068e 1 = .ok (.invokevirtual 492, 3) := by decide +kernel
theorem dJ0_charAt_5068e_4 : decode cJ0_charAt_5068e 4 = .ok (.ifCond .eq 12, 3) := by decide +kernel
theorem dJ0_charAt_5068e_7 : decode cJ0_charAt_5068e 7 = .ok (.aload_n 0, 1) := by decide +kernel
theorem dJ0_charAt_5068e_8 : decode cJ0_charAt_5068e 8 = .ok (.getfield 9, 3) := by decide +kernel
theorem dJ0_charAt_5068e_11 : decode cJ0_charAt_5068e 11 = .ok (.iload_n 1, 1) := by decide +kernel
theorem dJ0_charAt_5068e_12 : decode cJ0_charAt_5068e 12 = .ok (.invokestatic 495, 3) := by decide +kernel
theorem dJ0_charAt_5068e_15 : decode cJ0_charAt_5068e 15 = .ok (.ireturn, 1) := by decide +kernel
theorem dJ0_charAt_5068e_16 : decode cJ0_charAt_5068e 16 = .ok (.aload_n 0, 1) := by decide +kernel
theorem dJ0_charAt_5068e_17 : decode cJ0_charAt_5068e 17 = .ok (.getfield 9, 3) := by decide +kernel
theorem dJ0_charAt_5068e_20 : decode cJ0_charAt_5068e 20 = .ok (.iload_n 1, 1) := by decide +kernel
theorem dJ0_charAt_5068e_21 : decode cJ0_charAt_5068e 21 = .ok (.invokestatic 498, 3) := by decide +kernel
theorem dJ0_charAt_5068e_24 : decode cJ0_charAt_5068e 24 = .ok (.ireturn, 1) := by decide +kernel
def am_jw : List Cond := [.code yJ0_coder_7d493 cJ0_coder_7d493 1 (some .byte), .initialized "java/lang/String", .instanceMethod yJ0_coder_7d493, .selects "java/lang/String" yJ0_coder_7d493 yJ0_coder_7d493, .code yJ0_isLatin1_aae02 cJ0_isLatin1_aae02 1 (some .boolean), .instanceMethod yJ0_isLatin1_aae02, .selects "java/lang/String" yJ0_isLatin1_aae02 yJ0_isLatin1_aae02, .code yJ0_length_8abf5 cJ0_length_8abf5 1 (some .int), .instanceMethod yJ0_length_8abf5, .selects "java/lang/String" yJ0_length_8abf5 yJ0_length_8abf5, .code yJ1_canEncode_9a6ad cJ1_canEncode_9a6ad 1 (some .boolean), .initialized "java/lang/StringLatin1", .static yJ1_canEncode_9a6ad, .code yJ1_indexOfChar_4cfef cJ1_indexOfChar_4cfef 6 (some .int), .static yJ1_indexOfChar_4cfef, .code yJ1_indexOf_4cfef cJ1_indexOf_4cfef 4 (some .int), .static yJ1_indexOf_4cfef, .code yJ0_indexOf_7cf53 cJ0_indexOf_7cf53 3 (some .int), .instanceMethod yJ0_indexOf_7cf53, .selects "java/lang/String" yJ0_indexOf_7cf53 yJ0_indexOf_7cf53, .code yJ0_indexOf_0f7a4 cJ0_indexOf_0f7a4 2 (some .int), .instanceMethod yJ0_indexOf_0f7a4, .selects "java/lang/String" yJ0_indexOf_0f7a4 yJ0_indexOf_0f7a4, .code yJ3_checkIndex_8e157 cJ3_checkIndex_8e157 3 (some .int), .initialized "jdk/internal/util/Preconditions", .static yJ3_checkIndex_8e157, .code yJ0_checkIndex_df160 cJ0_checkIndex_df160 2 none, .static yJ0_checkIndex_df160, .code yJ1_charAt_3b067 cJ1_charAt_3b067 2 (some .char), .static yJ1_charAt_3b067, .code yJ0_charAt_5068e cJ0_charAt_5068e 2 (some .char), .instanceMethod yJ0_charAt_5068e, .selects "java/lang/String" yJ0_charAt_5068e yJ0_charAt_5068e, .methodLink "java/lang/String" 335 yJ0_coder_7d493, .methodLink "java/lang/String" 492 yJ0_isLatin1_aae02, .methodLink "java/lang/String" 495 yJ1_charAt_3b067, .methodLink "java/lang/String" 505 yJ0_length_8abf5, .methodLink "java/lang/String" 633 yJ0_indexOf_7cf53, .methodLink "java/lang/String" 637 yJ1_indexOf_4cfef, .methodLink "java/lang/String" 1059 yJ3_checkIndex_8e157, .methodLink "java/lang/StringLatin1" 9 yJ0_checkIndex_df160, .methodLink "java/lang/StringLatin1" 38 Lib.Math.min.name, .methodLink "java/lang/StringLatin1" 88 yJ1_canEncode_9a6ad, .methodLink "java/lang/StringLatin1" 92 Lib.Math.max.name, .methodLink "java/lang/StringLatin1" 95 yJ1_indexOfChar_4cfef, .fieldLink "java/lang/String" 9 "java/lang/String" "value" "[B", .fieldLink "java/lang/String" 15 "java/lang/String" "coder" "B", .fieldLink "java/lang/String" 38 "java/lang/String" "COMPACT_STRINGS" "Z", .fieldLink "java/lang/String" 1053 "jdk/internal/util/Preconditions" "SIOOBE_FORMATTER" "Ljava/util/function/BiFunction;"]
theorem am_jw_in : ∀ w ∈ am_jw, w ∈ am_ws := fun w h => am_zip_in (f := id) (l := am_jw) (ps := [561, 113, 559, 560, 551, 549, 550, 557, 555, 556, 567, 114, 566, 576, 575, 564, 563, 547, 545, 546, 543, 541, 542, 671, 117, 670, 668, 667, 665, 664, 662, 660, 661, 558, 548, 663, 554, 544, 562, 669, 666, 571, 565, 568, 574, 1991, 1990, 552, 595]) (by decide +kernel) (by decide +kernel) w h
theorem am_jw_at (i : Nat) {w : Cond} (h : am_jw[i]? = some w := by rfl) : w ∈ am_ws := am_jw_in w (List.mem_of_getElem? h)
def am_sl8 : List Nat := [6, 2, 3, 2, 2, 6, 4, 14]
def am_sb8 : List (List Int32) := [[112, 109, 116, 105, 100, 101], [33, 40], [61, 60, 62], [43, 45], [42, 47], [112, 109, 116, 105, 100, 101], [115, 102, 109, 100], [119, 104, 112, 115, 98, 97, 99, 116, 105, 100, 99, 115, 110, 119]]
theorem am_sl8_lt {j : Nat} (h : j < 8) : am_sl8.getD j 0 < 100 := (by decide +kernel : ∀ j, j < 8 → am_sl8.getD j 0 < 100) j h
theorem am_sl8_pos {j : Nat} (h : j < 8) : 0 < am_sl8.getD j 0 := (by decide +kernel : ∀ j, j < 8 → 0 < am_sl8.getD j 0) j h
theorem am_sb8_ok : ∀ j, j < 8 → ∀ i, i < am_sl8.getD j 0 → (0 ≤ (am_sb8.getD j []).getD i 0 ∧ (am_sb8.getD j []).getD i 0 ≤ 127) ∧ (((am_sb8.getD j []).getD i 0 &&& 255).toUInt32 % 65536).toInt32 = (am_sb8.getD j []).getD i 0 ∧ narrow .char (.int ((am_sb8.getD j []).getD i 0)) = .int ((am_sb8.getD j []).getD i 0) := by decide +kernel
theorem am_byte_c {j i : Nat} (hj : j < 8) (hi : i < am_sl8.getD j 0) : (((am_sb8.getD j []).getD i 0 &&& 255).toUInt32 % 65536).toInt32 = (am_sb8.getD j []).getD i 0 ∧ narrow .char (.int ((am_sb8.getD j []).getD i 0)) = .int ((am_sb8.getD j []).getD i 0) := (am_sb8_ok j hj i hi).2
theorem am_byte_256 : ∀ n, n < 256 → ∀ b, b < 128 → (nI b = (nI n).toInt8.toInt32 ↔ nI n = nI b) := by decide +kernel
theorem am_nat_of {x : Int32} {m : Nat} (h0 : 0 ≤ x) (h1 : x ≤ nI m) (hm : m < 2 ^ 31) : ∃ n, n ≤ m ∧ x = nI n := by
  obtain ⟨j, h2, h3⟩ := nI_of (Int32.not_lt.mpr h0)
  subst h3
  exact ⟨j, (nI_leI h2 hm).mp h1, rfl⟩
theorem am_byte_eq {j i : Nat} {x : Int32} (hj : j < 8) (hi : i < am_sl8.getD j 0) (hx : 0 ≤ x ∧ x ≤ 255) : ((am_sb8.getD j []).getD i 0 = x.toInt8.toInt32) ↔ x = (am_sb8.getD j []).getD i 0 := by
  obtain ⟨n, hn, rfl⟩ := am_nat_of hx.1 (m := 255) hx.2 (by decide)
  obtain ⟨⟨h1, h2⟩, -⟩ := am_sb8_ok j hj i hi
  obtain ⟨b, hb, e⟩ := am_nat_of h1 (m := 127) h2 (by decide)
  rw [e]
  exact am_byte_256 n (by omega) b (by omega)
theorem am_shr0 {n : Nat} (h : n < 100) : nI n >>> ((0 : Int32) &&& 31) = nI n := (by decide +kernel : ∀ n, n < 100 → nI n >>> ((0 : Int32) &&& 31) = nI n) n h
theorem am_find_no {f : Nat → Int32} {x : Int32} : ∀ (n c : Nat), (∀ i, c ≤ i → i < c + n → f i ≠ x) → am_find f x n c = -1 := by
  intro n
  induction n with
  | zero => intro c h; rfl
  | succ n ih => intro c h; rw [am_find, if_neg (h c (Nat.le_refl _) (by omega))]; exact ih (c + 1) (fun i h1 h2 => h i (by omega) (by omega))
theorem am_find_out {j : Nat} {x : Int32} (hj : j < 8) (hx : ¬ (0 ≤ x ∧ x ≤ 255)) : am_find (fun i => (am_sb8.getD j []).getD i 0) x (am_sl8.getD j 0) 0 = -1 := by
  refine am_find_no _ _ (fun i _ hi h => hx ?_)
  obtain ⟨⟨h1, h2⟩, -⟩ := am_sb8_ok j hj i (by omega)
  rw [← h]
  exact ⟨h1, Int32.le_trans h2 (by decide)⟩
def am_SF (A : Nat → Prop) (aK aV : Nat → Nat) (U : State) : Prop := (∀ i : Nat, i < 8 → vk_S 1 [am_sl8.getD i 0] [am_sb8.getD i []] (fun _ => aK i) (fun _ => aV i) A U U.heap) ∧ va_Z "java/lang/String" "COMPACT_STRINGS" "Z" (.int 1) A U U.heap ∧ va_Zq "jdk/internal/util/Preconditions" "SIOOBE_FORMATTER" "Ljava/util/function/BiFunction;" A U U.heap
/-- one of the eight strings (two of them are one object) -/
theorem am_SF_at {A : Nat → Prop} {aK aV : Nat → Nat} {U : State} (h : am_SF A aK aV U) {j : Nat} (hj : j < 8) : va_O "java/lang/String" (aK j) A U U.heap ∧ va_OF "java/lang/String" "coder" "B" (.int 0) (aK j) A U U.heap ∧ va_OF "java/lang/String" "value" "[B" (.ref (aV j)) (aK j) A U U.heap ∧ va_T .byte (aV j) (am_sl8.getD j 0) (fun i => .int ((am_sb8.getD j []).getD i 0)) A U U.heap := (h.1 j hj).1 0 (by decide)
theorem am_SF_T {A : Nat → Prop} {aK aV : Nat → Nat} : am_FxT A (am_SF A aK aV) := by
  refine ⟨fun U U' hvm hh h => ?_, fun s U locs hW hS h => ?_⟩
  · obtain ⟨h1, h2, h3⟩ := h
    have hal : U.vm.Alike U'.vm := by rw [hvm]; exact Vm.Alike.refl _
    unfold am_SF
    rw [hh]
    exact ⟨fun i hi => (h1 i hi).moved hal, h2.moved hal, h3.moved hal⟩
  · obtain ⟨h1, h2, h3⟩ := h
    exact ⟨fun i hi => ((h1 i hi).moved hW.alike).kept hS.2.1, (h2.moved hW.alike).kept hS.2.1, (h3.moved hW.alike).kept hS.2.1⟩
def am_QcV : Array Value → State → Outcome → State → Prop := fun _ st oc t => oc = .returned none ∧ t.heap = st.heap
theorem am_SF_blind {A : Nat → Prop} {aK aV : Nat → Nat} {vs : List Value} : FrameBlind (va_Pc vs (am_SF A aK aV)) := fun a U g mk h => ⟨h.1, am_SF_T.1 U (U.calling g mk a) rfl rfl h.2⟩
theorem am_callV0 {p : Program} {l : Launch} {e : Env} {R : Room} {s : State} {m : MethodId} {args : Array Value} {below : List Frame} {meth : Method} {c : Code} {H : Heap} {locs : List Loc} {cells slots : Nat} {Q : State → Prop} {g : JFrame} {rest : List Value} {a : Array Value} (hr : CallRun p l e R s m args below meth c H locs cells slots 0 0 g rest (am_QcV a) (fun _ => False)) (kk : W p l e R s m args below meth c H locs cells slots Q { g with pc := g.pc + 3, stack := rest }) : W p l e R s m args below meth c H locs cells slots Q g := by
  intro T hT X
  obtain ⟨v, st₀, t, T', L, h0, X', hL, e1, ⟨hv, hh⟩, st⟩ := hr T hT X
  cases hv
  obtain ⟨t2, a1, b1⟩ := kk T' (by rw [e1, hh, h0]) (Stand.forget X' (fun q h => (hL q h).elim))
  exact ⟨t2, st t2 a1, b1⟩
def am_jr (f : Nat) : Room := { frames := f, cells := 0, slots := 0, locals := 40 * (f + 1) }
theorem am_coder {l : Launch} {A : Nat → Prop} {aK aV : Nat → Nat} {j : Nat} (hj : j < 8) : Met l yJ0_coder_7d493 (.code yJ0_coder_7d493 cJ0_coder_7d493 1 (some .byte) :: am_ws) (am_jr 0) (va_Pc [.ref (aK j)] (am_SF A aK aV)) (QcRead (0)) 0 0 (fun _ => False) := by
  refine am_ofWF (cc := cJ0_coder_7d493) (maxL := 1) (ret := (some .byte)) (by decide +kernel) rfl ?_
  intro p e s m args below meth c s₁ B hml hv0
  obtain ⟨rfl, hSF⟩ := hv0
  have hx := B.exec
  have hb := B.bytes
  have hr := B.returns
  have hts0 := atoms_spec (ws := .code yJ0_coder_7d493 cJ0_coder_7d493 1 (some .byte) :: am_ws) B.pre
  have hts : ∀ w ∈ am_ws, w.before _ s = true := fun w hw => hts0 w (List.mem_cons_of_mem _ hw)
  have hown : s.vm.findClass "java/lang/String" = some m.cls := findClass_of_methodNamed B.named
  have hlocks := B.notSynchronized
  have hS : va_S A s.heap s.heap [] := va_S.rf
  have hl := lv_entry ([.ref (aK j)]) (n := 1) (Nat.le_of_ble_eq_true rfl)
  rw [lg_entry_eq]
  generalize (lg_sl ([.ref (aK j)]) ++ List.replicate (1 - (lg_sl ([.ref (aK j)])).length) Slot.unset).toArray = ls at hl ⊢
  have hl : lv_has ls 1 [(0, .ref (aK j))] := hl
  refine va_gets (own := "java/lang/String") (ref := "java/lang/String") hx hb hSF.2.1 hS hown (hts _ (am_jw_at 47)) (fun x h => h) dJ0_coder_7d493_0 ?_
  refine lv_if_eq (tgt := 13) hx hb dJ0_coder_7d493_3 (by decide) (fun q => absurd q (by decide)) (fun _ => ?_)
  refine lv_aload_n hx hb dJ0_coder_7d493_6 rfl (lv_at hl 0 rfl) ?_
  refine vk_getf (own := "java/lang/String") (ref := "java/lang/String") (n := "coder") (d := "B") (o := "java/lang/String") hx hb (am_SF_at hSF hj).2.1 hS hown (hts _ (am_jw_at 46)) (fun x h => h) dJ0_coder_7d493_7 ?_
  refine lv_goto (tgt := 14) hx hb dJ0_coder_7d493_10 (by decide) ?_
  exact W.zret (ty := .byte) hx hb hr (rfl) (fun t ht hW => ⟨rfl, ht⟩) (fun q h => by cases h) dJ0_coder_7d493_14 hlocks
theorem am_isLatin {l : Launch} {A : Nat → Prop} {aK aV : Nat → Nat} {j : Nat} (hj : j < 8) : Met l yJ0_isLatin1_aae02 (.code yJ0_isLatin1_aae02 cJ0_isLatin1_aae02 1 (some .boolean) :: am_ws) (am_jr 0) (va_Pc [.ref (aK j)] (am_SF A aK aV)) (QcRead (1)) 0 0 (fun _ => False) := by
  refine am_ofWF (cc := cJ0_isLatin1_aae02) (maxL := 1) (ret := (some .boolean)) (by decide +kernel) rfl ?_
  intro p e s m args below meth c s₁ B hml hv0
  obtain ⟨rfl, hSF⟩ := hv0
  have hx := B.exec
  have hb := B.bytes
  have hr := B.returns
  have hts0 := atoms_spec (ws := .code yJ0_isLatin1_aae02 cJ0_isLatin1_aae02 1 (some .boolean) :: am_ws) B.pre
  have hts : ∀ w ∈ am_ws, w.before _ s = true := fun w hw => hts0 w (List.mem_cons_of_mem _ hw)
  have hown : s.vm.findClass "java/lang/String" = some m.cls := findClass_of_methodNamed B.named
  have hlocks := B.notSynchronized
  have hS : va_S A s.heap s.heap [] := va_S.rf
  have hl := lv_entry ([.ref (aK j)]) (n := 1) (Nat.le_of_ble_eq_true rfl)
  rw [lg_entry_eq]
  generalize (lg_sl ([.ref (aK j)]) ++ List.replicate (1 - (lg_sl ([.ref (aK j)])).length) Slot.unset).toArray = ls at hl ⊢
  have hl : lv_has ls 1 [(0, .ref (aK j))] := hl
  refine va_gets (own := "java/lang/String") (ref := "java/lang/String") hx hb hSF.2.1 hS hown (hts _ (am_jw_at 47)) (fun x h => h) dJ0_isLatin1_aae02_0 ?_
  refine lv_if_eq (tgt := 17) hx hb dJ0_isLatin1_aae02_3 (by decide) (fun q => absurd q (by decide)) (fun _ => ?_)
  refine lv_aload_n hx hb dJ0_isLatin1_aae02_6 rfl (lv_at hl 0 rfl) ?_
  refine vk_getf (own := "java/lang/String") (ref := "java/lang/String") (n := "coder") (d := "B") (o := "java/lang/String") hx hb (am_SF_at hSF hj).2.1 hS hown (hts _ (am_jw_at 46)) (fun x h => h) dJ0_isLatin1_aae02_7 ?_
  refine lv_if_ne (tgt := 17) hx hb dJ0_isLatin1_aae02_10 (by decide) (fun q => absurd rfl q) (fun _ => ?_)
  refine lv_iconst (v := 1) hx hb dJ0_isLatin1_aae02_13 (by decide) ?_
  refine lv_goto (tgt := 18) hx hb dJ0_isLatin1_aae02_14 (by decide) ?_
  exact W.zret (ty := .boolean) hx hb hr (rfl) (fun t ht hW => ⟨rfl, ht⟩) (fun q h => by cases h) dJ0_isLatin1_aae02_18 hlocks
theorem am_length {l : Launch} {A : Nat → Prop} {aK aV : Nat → Nat} {j : Nat} (hj : j < 8) : Met l yJ0_length_8abf5 (.code yJ0_length_8abf5 cJ0_length_8abf5 1 (some .int) :: am_ws) (am_jr 1) (va_Pc [.ref (aK j)] (am_SF A aK aV)) (QcRead ((nI (am_sl8.getD j 0)))) 0 0 (fun _ => False) := by
  refine am_ofWF (cc := cJ0_length_8abf5) (maxL := 1) (ret := (some .int)) (by decide +kernel) rfl ?_
  intro p e s m args below meth c s₁ B hml hv0
  obtain ⟨rfl, hSF⟩ := hv0
  have hx := B.exec
  have hb := B.bytes
  have hr := B.returns
  have hts0 := atoms_spec (ws := .code yJ0_length_8abf5 cJ0_length_8abf5 1 (some .int) :: am_ws) B.pre
  have hts : ∀ w ∈ am_ws, w.before _ s = true := fun w hw => hts0 w (List.mem_cons_of_mem _ hw)
  have hown : s.vm.findClass "java/lang/String" = some m.cls := findClass_of_methodNamed B.named
  have hlocks := B.notSynchronized
  have hS : va_S A s.heap s.heap [] := va_S.rf
  have hl := lv_entry ([.ref (aK j)]) (n := 1) (Nat.le_of_ble_eq_true rfl)
  rw [lg_entry_eq]
  generalize (lg_sl ([.ref (aK j)]) ++ List.replicate (1 - (lg_sl ([.ref (aK j)])).length) Slot.unset).toArray = ls at hl ⊢
  have hl : lv_has ls 1 [(0, .ref (aK j))] := hl
  refine lv_aload_n hx hb dJ0_length_8abf5_0 rfl (lv_at hl 0 rfl) ?_
  refine vk_getf (own := "java/lang/String") (ref := "java/lang/String") (n := "value") (d := "[B") (o := "java/lang/String") hx hb (am_SF_at hSF hj).2.2.1 hS hown (hts _ (am_jw_at 45)) (fun x h => h) dJ0_length_8abf5_1 ?_
  refine va_tlen hx hb (am_SF_at hSF hj).2.2.2 hS rfl dJ0_length_8abf5_4 ?_
  refine lv_aload_n hx hb dJ0_length_8abf5_5 rfl (lv_at hl 0 rfl) ?_
  refine W.callR (W.runV (b := aK j) (As := []) (rest := [.int (nI (am_sl8.getD j 0))]) ⟨hx, hb, hml, hown, hts⟩ (am_coder hj) ⟨callB_of (ws' := am_ws) (bytes := cJ0_coder_7d493) (maxL := 1) (ret := (some .byte)) (rm := am_jr 0) 0 hts (am_goodIn (am_jw_at 0)) rfl rfl rfl (hts _ (am_jw_at 1)) (hts _ (am_jw_at 33)) ⟨by decide, by decide, by decide +kernel⟩ ⟨Nat.le_of_ble_eq_true rfl, Nat.le_of_ble_eq_true rfl⟩, (hts _ (am_jw_at 2)), (hts _ (am_jw_at 3))⟩ ⟨am_SF_blind, vk_recv (adK := fun _ => aK j) (i := 0) (hSF.1 j hj) (by decide) hS, fun U hU hW => ⟨rfl, am_SF_T.2 s U [] hW (by rw [hU]; exact hS) hSF⟩⟩ rfl rfl hl.1 rfl (lv_room (Nat.le_of_ble_eq_true rfl)) dJ0_length_8abf5_6 ⟨Nat.le_of_ble_eq_true rfl, Nat.le_of_ble_eq_true rfl⟩) ?_
  refine lv_ishr hx hb dJ0_length_8abf5_9 ?_
  rw [am_shr0 (am_sl8_lt hj)]
  exact W.zret (ty := .int) hx hb hr (rfl) (fun t ht hW => ⟨rfl, ht⟩) (fun q h => by cases h) dJ0_length_8abf5_10 hlocks
theorem am_canE {l : Launch} {A : Nat → Prop} {aK aV : Nat → Nat} {x : Int32} : Met l yJ1_canEncode_9a6ad (.code yJ1_canEncode_9a6ad cJ1_canEncode_9a6ad 1 (some .boolean) :: am_ws) (am_jr 0) (va_Pc [.int x] (am_SF A aK aV)) (QcRead (if 0 ≤ x ∧ x ≤ 255 then 1 else 0)) 0 0 (fun _ => False) := by
  refine am_ofWF (cc := cJ1_canEncode_9a6ad) (maxL := 1) (ret := (some .boolean)) (by decide +kernel) rfl ?_
  intro p e s m args below meth c s₁ B hml hv0
  obtain ⟨rfl, hSF⟩ := hv0
  have hx := B.exec
  have hb := B.bytes
  have hr := B.returns
  have hts0 := atoms_spec (ws := .code yJ1_canEncode_9a6ad cJ1_canEncode_9a6ad 1 (some .boolean) :: am_ws) B.pre
  have hts : ∀ w ∈ am_ws, w.before _ s = true := fun w hw => hts0 w (List.mem_cons_of_mem _ hw)
  have hown : s.vm.findClass "java/lang/StringLatin1" = some m.cls := findClass_of_methodNamed B.named
  have hlocks := B.notSynchronized
  have hS : va_S A s.heap s.heap [] := va_S.rf
  have hl := lv_entry ([.int x]) (n := 1) (Nat.le_of_ble_eq_true rfl)
  rw [lg_entry_eq]
  generalize (lg_sl ([.int x]) ++ List.replicate (1 - (lg_sl ([.int x])).length) Slot.unset).toArray = ls at hl ⊢
  have hl : lv_has ls 1 [(0, .int x)] := hl
  refine lv_iload_n hx hb dJ1_canEncode_9a6ad_0 rfl (lv_at hl 0 rfl) ?_
  refine lv_if_lt (tgt := 15) hx hb dJ1_canEncode_9a6ad_1 (by decide) (fun q => ?_) (fun q => ?_)
  · rw [if_neg (fun h => absurd q (Int32.not_lt.mpr h.1))]
    refine lv_iconst (v := 0) hx hb dJ1_canEncode_9a6ad_15 (by decide) ?_
    exact W.zret (ty := .boolean) hx hb hr (rfl) (fun t ht hW => ⟨rfl, ht⟩) (fun q h => by cases h) dJ1_canEncode_9a6ad_16 hlocks
  · refine lv_iload_n hx hb dJ1_canEncode_9a6ad_4 rfl (lv_at hl 0 rfl) ?_
    refine lv_sipush (v := 255) hx hb dJ1_canEncode_9a6ad_5 (by decide) ?_
    refine lv_icmp_gt (tgt := 15) hx hb dJ1_canEncode_9a6ad_8 (by decide) (fun q2 => ?_) (fun q2 => ?_)
    · rw [if_neg (fun h => absurd q2 (Int32.not_lt.mpr h.2))]
      refine lv_iconst (v := 0) hx hb dJ1_canEncode_9a6ad_15 (by decide) ?_
      exact W.zret (ty := .boolean) hx hb hr (rfl) (fun t ht hW => ⟨rfl, ht⟩) (fun q h => by cases h) dJ1_canEncode_9a6ad_16 hlocks
    · rw [if_pos ⟨Int32.not_lt.mp q, Int32.not_lt.mp q2⟩]
      refine lv_iconst (v := 1) hx hb dJ1_canEncode_9a6ad_11 (by decide) ?_
      refine lv_goto (tgt := 16) hx hb dJ1_canEncode_9a6ad_12 (by decide) ?_
      exact W.zret (ty := .boolean) hx hb hr (rfl) (fun t ht hW => ⟨rfl, ht⟩) (fun q h => by cases h) dJ1_canEncode_9a6ad_16 hlocks
theorem am_ixChar {l : Launch} {A : Nat → Prop} {aK aV : Nat → Nat} {j : Nat} (hj : j < 8) {x : Int32} (hx1 : 0 ≤ x ∧ x ≤ 255) : Met l yJ1_indexOfChar_4cfef (.code yJ1_indexOfChar_4cfef cJ1_indexOfChar_4cfef 6 (some .int) :: am_ws) (am_jr 0) (va_Pc [.ref (aV j), .int x, .int (nI 0), .int (nI (am_sl8.getD j 0))] (am_SF A aK aV)) (QcRead (am_find (fun i => (am_sb8.getD j []).getD i 0) x (am_sl8.getD j 0) 0)) 0 0 (fun _ => False) := by
  refine am_ofWF (cc := cJ1_indexOfChar_4cfef) (maxL := 6) (ret := (some .int)) (by decide +kernel) rfl ?_
  intro p e s m args below meth c s₁ B hml hv0
  obtain ⟨rfl, hSF⟩ := hv0
  have hx := B.exec
  have hb := B.bytes
  have hr := B.returns
  have hts0 := atoms_spec (ws := .code yJ1_indexOfChar_4cfef cJ1_indexOfChar_4cfef 6 (some .int) :: am_ws) B.pre
  have hts : ∀ w ∈ am_ws, w.before _ s = true := fun w hw => hts0 w (List.mem_cons_of_mem _ hw)
  have hown : s.vm.findClass "java/lang/StringLatin1" = some m.cls := findClass_of_methodNamed B.named
  have hlocks := B.notSynchronized
  have hS : va_S A s.heap s.heap [] := va_S.rf
  have hl := lv_entry ([.ref (aV j), .int x, .int (nI 0), .int (nI (am_sl8.getD j 0))]) (n := 6) (Nat.le_of_ble_eq_true rfl)
  rw [lg_entry_eq]
  generalize (lg_sl ([.ref (aV j), .int x, .int (nI 0), .int (nI (am_sl8.getD j 0))]) ++ List.replicate (6 - (lg_sl ([.ref (aV j), .int x, .int (nI 0), .int (nI (am_sl8.getD j 0))])).length) Slot.unset).toArray = ls at hl ⊢
  have hl : lv_has ls 6 [(0, .ref (aV j)), (1, .int x), (2, .int (nI 0)), (3, .int (nI (am_sl8.getD j 0)))] := hl
  refine lv_iload_n hx hb dJ1_indexOfChar_4cfef_0 rfl (lv_at hl 1 rfl) ?_
  refine lv_i2b (v := x.toInt8.toInt32) hx hb dJ1_indexOfChar_4cfef_1 rfl ?_
  refine lv_istore (lv' := [(4, .int x.toInt8.toInt32), (0, .ref (aV j)), (1, .int x), (2, .int (nI 0)), (3, .int (nI (am_sl8.getD j 0)))]) hx hb dJ1_indexOfChar_4cfef_2 hl (by decide) rfl (fun ls hl => ?_)
  refine lv_iload_n hx hb dJ1_indexOfChar_4cfef_4 rfl (lv_at hl 3 rfl) ?_
  refine lv_istore (lv' := [(5, .int (nI 0)), (4, .int x.toInt8.toInt32), (0, .ref (aV j)), (1, .int x), (2, .int (nI 0)), (3, .int (nI (am_sl8.getD j 0)))]) hx hb dJ1_indexOfChar_4cfef_5 hl (by decide) rfl (fun ls hl => ?_)
  have hloop : ∀ (n b0 : Nat) (ls : Array Slot), b0 + n = am_sl8.getD j 0 → lv_has ls 6 [(5, .int (nI b0)), (4, .int x.toInt8.toInt32), (0, .ref (aV j)), (1, .int x), (2, .int (nI 0)), (3, .int (nI (am_sl8.getD j 0)))] → W p l e (headSpec (.code yJ1_indexOfChar_4cfef cJ1_indexOfChar_4cfef 6 (some .int) :: am_ws) (am_jr 0)).room s m [.ref (aV j), .int x, .int (nI 0), .int (nI (am_sl8.getD j 0))].toArray below meth c s.heap [] 0 0 (MQ below (QcRead (am_find (fun i => (am_sb8.getD j []).getD i 0) x n b0)) [.ref (aV j), .int x, .int (nI 0), .int (nI (am_sl8.getD j 0))].toArray s 0 0 (fun _ => False)) (F0 m 7 ls []) := by
    intro n
    induction n with
    | zero =>
      intro b0 ls hcn hl
      refine lv_iload hx hb dJ1_indexOfChar_4cfef_7 (lv_at hl 0 rfl) ?_
      refine lv_iload_n hx hb dJ1_indexOfChar_4cfef_9 rfl (lv_at hl 5 rfl) ?_
      refine lv_icmp_ge (tgt := 31) hx hb dJ1_indexOfChar_4cfef_10 (by decide) (fun _ => ?_) (fun q => absurd (by rw [← hcn]; exact nI_le (by omega) (by have := am_sl8_lt hj; omega)) q)
      refine lv_iconst (v := -1) hx hb dJ1_indexOfChar_4cfef_31 (by decide) ?_
      exact W.zret (ty := .int) hx hb hr (rfl) (fun t ht hW => ⟨rfl, ht⟩) (fun q h => by cases h) dJ1_indexOfChar_4cfef_32 hlocks
    | succ n ih =>
      intro b0 ls hcn hl
      refine lv_iload hx hb dJ1_indexOfChar_4cfef_7 (lv_at hl 0 rfl) ?_
      refine lv_iload_n hx hb dJ1_indexOfChar_4cfef_9 rfl (lv_at hl 5 rfl) ?_
      have hlt := am_sl8_lt hj
      refine lv_icmp_ge (tgt := 31) hx hb dJ1_indexOfChar_4cfef_10 (by decide) (fun q => absurd q (nI_ge (by omega) (by omega))) (fun _ => ?_)
      refine lv_aload_n hx hb dJ1_indexOfChar_4cfef_13 rfl (lv_at hl 2 rfl) ?_
      refine lv_iload hx hb dJ1_indexOfChar_4cfef_14 (lv_at hl 0 rfl) ?_
      refine va_tb hx hb (am_SF_at hSF hj).2.2.2 hS (vp_in_nI (by omega) (by omega)) rfl dJ1_indexOfChar_4cfef_16 ?_
      rw [nI_clamp (by omega)]
      refine lv_iload hx hb dJ1_indexOfChar_4cfef_17 (lv_at hl 1 rfl) ?_
      refine lv_icmp_ne (tgt := 25) hx hb dJ1_indexOfChar_4cfef_19 (by decide) (fun q => ?_) (fun q => ?_)
      · obtain ⟨x5, ex5⟩ : ∃ y : Int32, y = nI b0 + 1 := ⟨_, rfl⟩
        refine lv_iinc (v := x5) (lv' := [(5, .int x5), (4, .int x.toInt8.toInt32), (0, .ref (aV j)), (1, .int x), (2, .int (nI 0)), (3, .int (nI (am_sl8.getD j 0)))]) hx hb dJ1_indexOfChar_4cfef_25 hl (k := 0) rfl (by rw [ex5]; rfl) (by decide) rfl (fun ls hl => ?_)
        refine lv_goto (tgt := 7) hx hb dJ1_indexOfChar_4cfef_28 (by decide) ?_
        rw [nI_1] at ex5
        subst ex5
        have key := ih (b0 + 1) ls (by omega) hl
        rw [am_find, if_neg (fun h => q ((am_byte_eq hj (by omega) hx1).mpr h.symm))]
        exact key
      · rw [am_find, if_pos ((am_byte_eq hj (by omega) hx1).mp q).symm]
        refine lv_iload hx hb dJ1_indexOfChar_4cfef_22 (lv_at hl 0 rfl) ?_
        exact W.zret (ty := .int) hx hb hr (rfl) (fun t ht hW => ⟨rfl, ht⟩) (fun q h => by cases h) dJ1_indexOfChar_4cfef_24 hlocks
  exact hloop (am_sl8.getD j 0) 0 ls (by omega) hl
theorem am_ixLat {l : Launch} {A : Nat → Prop} {aK aV : Nat → Nat} {j : Nat} (hj : j < 8) {x : Int32} : Met l yJ1_indexOf_4cfef (.code yJ1_indexOf_4cfef cJ1_indexOf_4cfef 4 (some .int) :: am_ws) (am_jr 1) (va_Pc [.ref (aV j), .int x, .int (nI 0), .int (nI (am_sl8.getD j 0))] (am_SF A aK aV)) (QcRead (am_find (fun i => (am_sb8.getD j []).getD i 0) x (am_sl8.getD j 0) 0)) 0 0 (fun _ => False) := by
  refine am_ofWF (cc := cJ1_indexOf_4cfef) (maxL := 4) (ret := (some .int)) (by decide +kernel) rfl ?_
  intro p e s m args below meth c s₁ B hml hv0
  obtain ⟨rfl, hSF⟩ := hv0
  have hx := B.exec
  have hb := B.bytes
  have hr := B.returns
  have hts0 := atoms_spec (ws := .code yJ1_indexOf_4cfef cJ1_indexOf_4cfef 4 (some .int) :: am_ws) B.pre
  have hts : ∀ w ∈ am_ws, w.before _ s = true := fun w hw => hts0 w (List.mem_cons_of_mem _ hw)
  have hown : s.vm.findClass "java/lang/StringLatin1" = some m.cls := findClass_of_methodNamed B.named
  have hlocks := B.notSynchronized
  have hS : va_S A s.heap s.heap [] := va_S.rf
  have hl := lv_entry ([.ref (aV j), .int x, .int (nI 0), .int (nI (am_sl8.getD j 0))]) (n := 4) (Nat.le_of_ble_eq_true rfl)
  rw [lg_entry_eq]
  generalize (lg_sl ([.ref (aV j), .int x, .int (nI 0), .int (nI (am_sl8.getD j 0))]) ++ List.replicate (4 - (lg_sl ([.ref (aV j), .int x, .int (nI 0), .int (nI (am_sl8.getD j 0))])).length) Slot.unset).toArray = ls at hl ⊢
  have hl : lv_has ls 4 [(0, .ref (aV j)), (1, .int x), (2, .int (nI 0)), (3, .int (nI (am_sl8.getD j 0)))] := hl
  refine lv_iload_n hx hb dJ1_indexOf_4cfef_0 rfl (lv_at hl 1 rfl) ?_
  refine W.callR (W.runS (As := [.int x]) (rest := []) ⟨hx, hb, hml, hown, hts⟩ am_canE ⟨callB_of (ws' := am_ws) (bytes := cJ1_canEncode_9a6ad) (maxL := 1) (ret := (some .boolean)) (rm := am_jr 0) 1 hts (am_goodIn (am_jw_at 10)) rfl rfl rfl (hts _ (am_jw_at 11)) (hts _ (am_jw_at 42)) ⟨by decide, by decide, by decide +kernel⟩ ⟨Nat.le_of_ble_eq_true rfl, Nat.le_of_ble_eq_true rfl⟩, (hts _ (am_jw_at 12))⟩ ⟨am_SF_blind, fun U hU hW => ⟨rfl, am_SF_T.2 s U [] hW (by rw [hU]; exact hS) hSF⟩⟩ rfl rfl hl.1 rfl (lv_room (Nat.le_of_ble_eq_true rfl)) dJ1_indexOf_4cfef_1 ⟨Nat.le_of_ble_eq_true rfl, Nat.le_of_ble_eq_true rfl⟩) ?_
  refine lv_if_ne (tgt := 9) hx hb dJ1_indexOf_4cfef_4 rfl (fun q => ?_) (fun q => ?_)
  · have hx1 : 0 ≤ x ∧ x ≤ 255 := by
      rcases Classical.em (0 ≤ x ∧ x ≤ 255) with h | h
      · exact h
      · exact absurd (if_neg h) q
    refine lv_iload_n hx hb dJ1_indexOf_4cfef_9 rfl (lv_at hl 2 rfl) ?_
    refine lv_iconst (v := 0) hx hb dJ1_indexOf_4cfef_10 (by decide) ?_
    refine va_mmax (own := "java/lang/StringLatin1") hx hb (by rw [hml]; exact hl.1.symm) hown (hts _ (am_jw_at 43)) (hts _ (am_iw_at 0)) (hts _ (am_iw_at 10)) (hts _ (am_iw_at 1)) (Nat.le_of_ble_eq_true rfl) (Nat.le_of_ble_eq_true rfl) (Nat.le_refl _) (Nat.le_refl _) dJ1_indexOf_4cfef_11 ?_
    rw [if_neg (by decide)]
    refine lv_istore_n (lv' := [(2, .int (nI 0)), (0, .ref (aV j)), (1, .int x), (3, .int (nI (am_sl8.getD j 0)))]) hx hb dJ1_indexOf_4cfef_14 rfl hl (by decide) rfl (fun ls hl => ?_)
    refine lv_iload_n hx hb dJ1_indexOf_4cfef_15 rfl (lv_at hl 3 rfl) ?_
    refine lv_aload_n hx hb dJ1_indexOf_4cfef_16 rfl (lv_at hl 1 rfl) ?_
    refine va_tlen hx hb (am_SF_at hSF hj).2.2.2 hS rfl dJ1_indexOf_4cfef_17 ?_
    refine va_mmin (own := "java/lang/StringLatin1") hx hb (by rw [hml]; exact hl.1.symm) hown (hts _ (am_jw_at 41)) (hts _ (am_iw_at 2)) (hts _ (am_iw_at 10)) (hts _ (am_iw_at 3)) (Nat.le_of_ble_eq_true rfl) (Nat.le_of_ble_eq_true rfl) (Nat.le_refl _) (Nat.le_refl _) dJ1_indexOf_4cfef_18 ?_
    rw [show (if Int32.ofNat (am_sl8.getD j 0) < (nI (am_sl8.getD j 0)) then Int32.ofNat (am_sl8.getD j 0) else (nI (am_sl8.getD j 0))) = (nI (am_sl8.getD j 0)) by split <;> rfl]
    refine lv_istore_n (lv' := [(3, .int (nI (am_sl8.getD j 0))), (2, .int (nI 0)), (0, .ref (aV j)), (1, .int x)]) hx hb dJ1_indexOf_4cfef_21 rfl hl (by decide) rfl (fun ls hl => ?_)
    refine lv_iload_n hx hb dJ1_indexOf_4cfef_22 rfl (lv_at hl 1 rfl) ?_
    refine lv_iload_n hx hb dJ1_indexOf_4cfef_23 rfl (lv_at hl 0 rfl) ?_
    refine lv_icmp_lt (tgt := 29) hx hb dJ1_indexOf_4cfef_24 (by decide) (fun _ => ?_) (fun q => absurd (nI_lt (am_sl8_pos hj) (by have := am_sl8_lt hj; omega)) q)
    refine lv_aload_n hx hb dJ1_indexOf_4cfef_29 rfl (lv_at hl 2 rfl) ?_
    refine lv_iload_n hx hb dJ1_indexOf_4cfef_30 rfl (lv_at hl 3 rfl) ?_
    refine lv_iload_n hx hb dJ1_indexOf_4cfef_31 rfl (lv_at hl 1 rfl) ?_
    refine lv_iload_n hx hb dJ1_indexOf_4cfef_32 rfl (lv_at hl 0 rfl) ?_
    refine W.callR (W.runS (As := [.ref (aV j), .int x, .int (nI 0), .int (nI (am_sl8.getD j 0))]) (rest := []) ⟨hx, hb, hml, hown, hts⟩ (am_ixChar hj hx1) ⟨callB_of (ws' := am_ws) (bytes := cJ1_indexOfChar_4cfef) (maxL := 6) (ret := (some .int)) (rm := am_jr 0) 4 hts (am_goodIn (am_jw_at 13)) rfl rfl rfl (hts _ (am_jw_at 11)) (hts _ (am_jw_at 44)) ⟨by decide, by decide, by decide +kernel⟩ ⟨Nat.le_of_ble_eq_true rfl, Nat.le_of_ble_eq_true rfl⟩, (hts _ (am_jw_at 14))⟩ ⟨am_SF_blind, fun U hU hW => ⟨rfl, am_SF_T.2 s U [] hW (by rw [hU]; exact hS) hSF⟩⟩ rfl rfl hl.1 rfl (lv_room (Nat.le_of_ble_eq_true rfl)) dJ1_indexOf_4cfef_33 ⟨Nat.le_of_ble_eq_true rfl, Nat.le_of_ble_eq_true rfl⟩) ?_
    exact W.zret (ty := .int) hx hb hr (rfl) (fun t ht hW => ⟨rfl, ht⟩) (fun q h => by cases h) dJ1_indexOf_4cfef_36 hlocks
  · have hx1 : ¬ (0 ≤ x ∧ x ≤ 255) := fun h => by rw [if_pos h] at q; exact absurd q (by decide)
    rw [am_find_out hj hx1]
    refine lv_iconst (v := -1) hx hb dJ1_indexOf_4cfef_7 (by decide) ?_
    exact W.zret (ty := .int) hx hb hr (rfl) (fun t ht hW => ⟨rfl, ht⟩) (fun q h => by cases h) dJ1_indexOf_4cfef_8 hlocks
theorem am_ix2 {l : Launch} {A : Nat → Prop} {aK aV : Nat → Nat} {j : Nat} (hj : j < 8) {x : Int32} : Met l yJ0_indexOf_7cf53 (.code yJ0_indexOf_7cf53 cJ0_indexOf_7cf53 3 (some .int) :: am_ws) (am_jr 2) (va_Pc [.ref (aK j), .int x, .int (nI 0)] (am_SF A aK aV)) (QcRead (am_find (fun i => (am_sb8.getD j []).getD i 0) x (am_sl8.getD j 0) 0)) 0 0 (fun _ => False) := by
  refine am_ofWF (cc := cJ0_indexOf_7cf53) (maxL := 3) (ret := (some .int)) (by decide +kernel) rfl ?_
  intro p e s m args below meth c s₁ B hml hv0
  obtain ⟨rfl, hSF⟩ := hv0
  have hx := B.exec
  have hb := B.bytes
  have hr := B.returns
  have hts0 := atoms_spec (ws := .code yJ0_indexOf_7cf53 cJ0_indexOf_7cf53 3 (some .int) :: am_ws) B.pre
  have hts : ∀ w ∈ am_ws, w.before _ s = true := fun w hw => hts0 w (List.mem_cons_of_mem _ hw)
  have hown : s.vm.findClass "java/lang/String" = some m.cls := findClass_of_methodNamed B.named
  have hlocks := B.notSynchronized
  have hS : va_S A s.heap s.heap [] := va_S.rf
  have hl := lv_entry ([.ref (aK j), .int x, .int (nI 0)]) (n := 3) (Nat.le_of_ble_eq_true rfl)
  rw [lg_entry_eq]
  generalize (lg_sl ([.ref (aK j), .int x, .int (nI 0)]) ++ List.replicate (3 - (lg_sl ([.ref (aK j), .int x, .int (nI 0)])).length) Slot.unset).toArray = ls at hl ⊢
  have hl : lv_has ls 3 [(0, .ref (aK j)), (1, .int x), (2, .int (nI 0))] := hl
  refine lv_aload_n hx hb dJ0_indexOf_7cf53_0 rfl (lv_at hl 0 rfl) ?_
  refine W.callR (W.runV (b := aK j) (As := []) (rest := []) ⟨hx, hb, hml, hown, hts⟩ (am_isLatin hj) ⟨callB_of (ws' := am_ws) (bytes := cJ0_isLatin1_aae02) (maxL := 1) (ret := (some .boolean)) (rm := am_jr 0) 0 hts (am_goodIn (am_jw_at 4)) rfl rfl rfl (hts _ (am_jw_at 1)) (hts _ (am_jw_at 34)) ⟨by decide, by decide, by decide +kernel⟩ ⟨Nat.le_of_ble_eq_true rfl, Nat.le_of_ble_eq_true rfl⟩, (hts _ (am_jw_at 5)), (hts _ (am_jw_at 6))⟩ ⟨am_SF_blind, vk_recv (adK := fun _ => aK j) (i := 0) (hSF.1 j hj) (by decide) hS, fun U hU hW => ⟨rfl, am_SF_T.2 s U [] hW (by rw [hU]; exact hS) hSF⟩⟩ rfl rfl hl.1 rfl (lv_room (Nat.le_of_ble_eq_true rfl)) dJ0_indexOf_7cf53_1 ⟨Nat.le_of_ble_eq_true rfl, Nat.le_of_ble_eq_true rfl⟩) ?_
  refine lv_if_eq (tgt := 23) hx hb dJ0_indexOf_7cf53_4 rfl (fun q => absurd q (by decide)) (fun _ => ?_)
  refine lv_aload_n hx hb dJ0_indexOf_7cf53_7 rfl (lv_at hl 0 rfl) ?_
  refine vk_getf (own := "java/lang/String") (ref := "java/lang/String") (n := "value") (d := "[B") (o := "java/lang/String") hx hb (am_SF_at hSF hj).2.2.1 hS hown (hts _ (am_jw_at 45)) (fun x h => h) dJ0_indexOf_7cf53_8 ?_
  refine lv_iload_n hx hb dJ0_indexOf_7cf53_11 rfl (lv_at hl 1 rfl) ?_
  refine lv_iload_n hx hb dJ0_indexOf_7cf53_12 rfl (lv_at hl 2 rfl) ?_
  refine lv_aload_n hx hb dJ0_indexOf_7cf53_13 rfl (lv_at hl 0 rfl) ?_
  refine W.callR (W.runV (b := aK j) (As := []) (rest := [.int (nI 0), .int x, .ref (aV j)]) ⟨hx, hb, hml, hown, hts⟩ (am_length hj) ⟨callB_of (ws' := am_ws) (bytes := cJ0_length_8abf5) (maxL := 1) (ret := (some .int)) (rm := am_jr 1) 0 hts (am_goodIn (am_jw_at 7)) rfl rfl rfl (hts _ (am_jw_at 1)) (hts _ (am_jw_at 36)) ⟨by decide, by decide, by decide +kernel⟩ ⟨Nat.le_of_ble_eq_true rfl, Nat.le_of_ble_eq_true rfl⟩, (hts _ (am_jw_at 8)), (hts _ (am_jw_at 9))⟩ ⟨am_SF_blind, vk_recv (adK := fun _ => aK j) (i := 0) (hSF.1 j hj) (by decide) hS, fun U hU hW => ⟨rfl, am_SF_T.2 s U [] hW (by rw [hU]; exact hS) hSF⟩⟩ rfl rfl hl.1 rfl (lv_room (Nat.le_of_ble_eq_true rfl)) dJ0_indexOf_7cf53_14 ⟨Nat.le_of_ble_eq_true rfl, Nat.le_of_ble_eq_true rfl⟩) ?_
  refine W.callR (W.runS (As := [.ref (aV j), .int x, .int (nI 0), .int (nI (am_sl8.getD j 0))]) (rest := []) ⟨hx, hb, hml, hown, hts⟩ (am_ixLat hj) ⟨callB_of (ws' := am_ws) (bytes := cJ1_indexOf_4cfef) (maxL := 4) (ret := (some .int)) (rm := am_jr 1) 4 hts (am_goodIn (am_jw_at 15)) rfl rfl rfl (hts _ (am_jw_at 11)) (hts _ (am_jw_at 38)) ⟨by decide, by decide, by decide +kernel⟩ ⟨Nat.le_of_ble_eq_true rfl, Nat.le_of_ble_eq_true rfl⟩, (hts _ (am_jw_at 16))⟩ ⟨am_SF_blind, fun U hU hW => ⟨rfl, am_SF_T.2 s U [] hW (by rw [hU]; exact hS) hSF⟩⟩ rfl rfl hl.1 rfl (lv_room (Nat.le_of_ble_eq_true rfl)) dJ0_indexOf_7cf53_17 ⟨Nat.le_of_ble_eq_true rfl, Nat.le_of_ble_eq_true rfl⟩) ?_
  refine lv_goto (tgt := 36) hx hb dJ0_indexOf_7cf53_20 rfl ?_
  exact W.zret (ty := .int) hx hb hr (rfl) (fun t ht hW => ⟨rfl, ht⟩) (fun q h => by cases h) dJ0_indexOf_7cf53_36 hlocks
theorem am_ix1 {l : Launch} {A : Nat → Prop} {aK aV : Nat → Nat} {j : Nat} (hj : j < 8) {x : Int32} : Met l yJ0_indexOf_0f7a4 (.code yJ0_indexOf_0f7a4 cJ0_indexOf_0f7a4 2 (some .int) :: am_ws) (am_jr 3) (va_Pc [.ref (aK j), .int x] (am_SF A aK aV)) (QcRead (am_find (fun i => (am_sb8.getD j []).getD i 0) x (am_sl8.getD j 0) 0)) 0 0 (fun _ => False) := by
  refine am_ofWF (cc := cJ0_indexOf_0f7a4) (maxL := 2) (ret := (some .int)) (by decide +kernel) rfl ?_
  intro p e s m args below meth c s₁ B hml hv0
  obtain ⟨rfl, hSF⟩ := hv0
  have hx := B.exec
  have hb := B.bytes
  have hr := B.returns
  have hts0 := atoms_spec (ws := .code yJ0_indexOf_0f7a4 cJ0_indexOf_0f7a4 2 (some .int) :: am_ws) B.pre
  have hts : ∀ w ∈ am_ws, w.before _ s = true := fun w hw => hts0 w (List.mem_cons_of_mem _ hw)
  have hown : s.vm.findClass "java/lang/String" = some m.cls := findClass_of_methodNamed B.named
  have hlocks := B.notSynchronized
  have hS : va_S A s.heap s.heap [] := va_S.rf
  have hl := lv_entry ([.ref (aK j), .int x]) (n := 2) (Nat.le_of_ble_eq_true rfl)
  rw [lg_entry_eq]
  generalize (lg_sl ([.ref (aK j), .int x]) ++ List.replicate (2 - (lg_sl ([.ref (aK j), .int x])).length) Slot.unset).toArray = ls at hl ⊢
  have hl : lv_has ls 2 [(0, .ref (aK j)), (1, .int x)] := hl
  refine lv_aload_n hx hb dJ0_indexOf_0f7a4_0 rfl (lv_at hl 0 rfl) ?_
  refine lv_iload_n hx hb dJ0_indexOf_0f7a4_1 rfl (lv_at hl 1 rfl) ?_
  refine lv_iconst (v := (nI 0)) hx hb dJ0_indexOf_0f7a4_2 (by decide) ?_
  refine W.callR (W.runV (b := aK j) (As := [.int x, .int (nI 0)]) (rest := []) ⟨hx, hb, hml, hown, hts⟩ (am_ix2 hj) ⟨callB_of (ws' := am_ws) (bytes := cJ0_indexOf_7cf53) (maxL := 3) (ret := (some .int)) (rm := am_jr 2) 2 hts (am_goodIn (am_jw_at 17)) rfl rfl rfl (hts _ (am_jw_at 1)) (hts _ (am_jw_at 37)) ⟨by decide, by decide, by decide +kernel⟩ ⟨Nat.le_of_ble_eq_true rfl, Nat.le_of_ble_eq_true rfl⟩, (hts _ (am_jw_at 18)), (hts _ (am_jw_at 19))⟩ ⟨am_SF_blind, vk_recv (adK := fun _ => aK j) (i := 0) (hSF.1 j hj) (by decide) hS, fun U hU hW => ⟨rfl, am_SF_T.2 s U [] hW (by rw [hU]; exact hS) hSF⟩⟩ rfl rfl hl.1 rfl (lv_room (Nat.le_of_ble_eq_true rfl)) dJ0_indexOf_0f7a4_3 ⟨Nat.le_of_ble_eq_true rfl, Nat.le_of_ble_eq_true rfl⟩) ?_
  exact W.zret (ty := .int) hx hb hr (rfl) (fun t ht hW => ⟨rfl, ht⟩) (fun q h => by cases h) dJ0_indexOf_0f7a4_6 hlocks
theorem am_chkN {l : Launch} {A : Nat → Prop} {aK aV : Nat → Nat} {j : Nat} (hj : j < 8) {i : Nat} (hi : i < am_sl8.getD j 0) : Met l yJ3_checkIndex_8e157 (.code yJ3_checkIndex_8e157 cJ3_checkIndex_8e157 3 (some .int) :: am_ws) (am_jr 0) (va_Pc [.int (nI i), .int (nI (am_sl8.getD j 0)), .null] (am_SF A aK aV)) (QcRead (nI i)) 0 0 (fun _ => False) := by
  refine am_ofWF (cc := cJ3_checkIndex_8e157) (maxL := 3) (ret := (some .int)) (by decide +kernel) rfl ?_
  intro p e s m args below meth c s₁ B hml hv0
  obtain ⟨rfl, hSF⟩ := hv0
  have hx := B.exec
  have hb := B.bytes
  have hr := B.returns
  have hts0 := atoms_spec (ws := .code yJ3_checkIndex_8e157 cJ3_checkIndex_8e157 3 (some .int) :: am_ws) B.pre
  have hts : ∀ w ∈ am_ws, w.before _ s = true := fun w hw => hts0 w (List.mem_cons_of_mem _ hw)
  have hown : s.vm.findClass "jdk/internal/util/Preconditions" = some m.cls := findClass_of_methodNamed B.named
  have hlocks := B.notSynchronized
  have hS : va_S A s.heap s.heap [] := va_S.rf
  have hl := lv_entry ([.int (nI i), .int (nI (am_sl8.getD j 0)), .null]) (n := 3) (Nat.le_of_ble_eq_true rfl)
  rw [lg_entry_eq]
  generalize (lg_sl ([.int (nI i), .int (nI (am_sl8.getD j 0)), .null]) ++ List.replicate (3 - (lg_sl ([.int (nI i), .int (nI (am_sl8.getD j 0)), .null])).length) Slot.unset).toArray = ls at hl ⊢
  have hl : lv_has ls 3 [(0, .int (nI i)), (1, .int (nI (am_sl8.getD j 0))), (2, .null)] := hl
  have hlt := am_sl8_lt hj
  refine lv_iload_n hx hb dJ3_checkIndex_8e157_0 rfl (lv_at hl 0 rfl) ?_
  refine lv_if_lt (tgt := 9) hx hb dJ3_checkIndex_8e157_1 (by decide) (fun q => absurd q (nI_pos (by omega))) (fun _ => ?_)
  refine lv_iload_n hx hb dJ3_checkIndex_8e157_4 rfl (lv_at hl 0 rfl) ?_
  refine lv_iload_n hx hb dJ3_checkIndex_8e157_5 rfl (lv_at hl 1 rfl) ?_
  refine lv_icmp_lt (tgt := 16) hx hb dJ3_checkIndex_8e157_6 (by decide) (fun _ => ?_) (fun q => absurd (nI_lt hi (by omega)) q)
  refine lv_iload_n hx hb dJ3_checkIndex_8e157_16 rfl (lv_at hl 0 rfl) ?_
  exact W.zret (ty := .int) hx hb hr (rfl) (fun t ht hW => ⟨rfl, ht⟩) (fun q h => by cases h) dJ3_checkIndex_8e157_17 hlocks
theorem am_chkR {l : Launch} {A : Nat → Prop} {aK aV : Nat → Nat} {j : Nat} (hj : j < 8) {i q : Nat} (hi : i < am_sl8.getD j 0) : Met l yJ3_checkIndex_8e157 (.code yJ3_checkIndex_8e157 cJ3_checkIndex_8e157 3 (some .int) :: am_ws) (am_jr 0) (va_Pc [.int (nI i), .int (nI (am_sl8.getD j 0)), .ref q] (am_SF A aK aV)) (QcRead (nI i)) 0 0 (fun _ => False) := by
  refine am_ofWF (cc := cJ3_checkIndex_8e157) (maxL := 3) (ret := (some .int)) (by decide +kernel) rfl ?_
  intro p e s m args below meth c s₁ B hml hv0
  obtain ⟨rfl, hSF⟩ := hv0
  have hx := B.exec
  have hb := B.bytes
  have hr := B.returns
  have hts0 := atoms_spec (ws := .code yJ3_checkIndex_8e157 cJ3_checkIndex_8e157 3 (some .int) :: am_ws) B.pre
  have hts : ∀ w ∈ am_ws, w.before _ s = true := fun w hw => hts0 w (List.mem_cons_of_mem _ hw)
  have hown : s.vm.findClass "jdk/internal/util/Preconditions" = some m.cls := findClass_of_methodNamed B.named
  have hlocks := B.notSynchronized
  have hS : va_S A s.heap s.heap [] := va_S.rf
  have hl := lv_entry ([.int (nI i), .int (nI (am_sl8.getD j 0)), .ref q]) (n := 3) (Nat.le_of_ble_eq_true rfl)
  rw [lg_entry_eq]
  generalize (lg_sl ([.int (nI i), .int (nI (am_sl8.getD j 0)), .ref q]) ++ List.replicate (3 - (lg_sl ([.int (nI i), .int (nI (am_sl8.getD j 0)), .ref q])).length) Slot.unset).toArray = ls at hl ⊢
  have hl : lv_has ls 3 [(0, .int (nI i)), (1, .int (nI (am_sl8.getD j 0))), (2, .ref q)] := hl
  have hlt := am_sl8_lt hj
  refine lv_iload_n hx hb dJ3_checkIndex_8e157_0 rfl (lv_at hl 0 rfl) ?_
  refine lv_if_lt (tgt := 9) hx hb dJ3_checkIndex_8e157_1 (by decide) (fun q => absurd q (nI_pos (by omega))) (fun _ => ?_)
  refine lv_iload_n hx hb dJ3_checkIndex_8e157_4 rfl (lv_at hl 0 rfl) ?_
  refine lv_iload_n hx hb dJ3_checkIndex_8e157_5 rfl (lv_at hl 1 rfl) ?_
  refine lv_icmp_lt (tgt := 16) hx hb dJ3_checkIndex_8e157_6 (by decide) (fun _ => ?_) (fun q => absurd (nI_lt hi (by omega)) q)
  refine lv_iload_n hx hb dJ3_checkIndex_8e157_16 rfl (lv_at hl 0 rfl) ?_
  exact W.zret (ty := .int) hx hb hr (rfl) (fun t ht hW => ⟨rfl, ht⟩) (fun q h => by cases h) dJ3_checkIndex_8e157_17 hlocks
theorem am_sChk {l : Launch} {A : Nat → Prop} {aK aV : Nat → Nat} {j : Nat} (hj : j < 8) {i : Nat} (hi : i < am_sl8.getD j 0) : Met l yJ0_checkIndex_df160 (.code yJ0_checkIndex_df160 cJ0_checkIndex_df160 2 none :: am_ws) (am_jr 1) (va_Pc [.int (nI i), .int (nI (am_sl8.getD j 0))] (am_SF A aK aV)) (am_QcV) 0 0 (fun _ => False) := by
  refine am_ofWF (cc := cJ0_checkIndex_df160) (maxL := 2) (ret := none) (by decide +kernel) rfl ?_
  intro p e s m args below meth c s₁ B hml hv0
  obtain ⟨rfl, hSF⟩ := hv0
  have hx := B.exec
  have hb := B.bytes
  have hr := B.returns
  have hts0 := atoms_spec (ws := .code yJ0_checkIndex_df160 cJ0_checkIndex_df160 2 none :: am_ws) B.pre
  have hts : ∀ w ∈ am_ws, w.before _ s = true := fun w hw => hts0 w (List.mem_cons_of_mem _ hw)
  have hown : s.vm.findClass "java/lang/String" = some m.cls := findClass_of_methodNamed B.named
  have hlocks := B.notSynchronized
  have hS : va_S A s.heap s.heap [] := va_S.rf
  have hl := lv_entry ([.int (nI i), .int (nI (am_sl8.getD j 0))]) (n := 2) (Nat.le_of_ble_eq_true rfl)
  rw [lg_entry_eq]
  generalize (lg_sl ([.int (nI i), .int (nI (am_sl8.getD j 0))]) ++ List.replicate (2 - (lg_sl ([.int (nI i), .int (nI (am_sl8.getD j 0))])).length) Slot.unset).toArray = ls at hl ⊢
  have hl : lv_has ls 2 [(0, .int (nI i)), (1, .int (nI (am_sl8.getD j 0)))] := hl
  refine lv_iload_n hx hb dJ0_checkIndex_df160_0 rfl (lv_at hl 0 rfl) ?_
  refine lv_iload_n hx hb dJ0_checkIndex_df160_1 rfl (lv_at hl 1 rfl) ?_
  rcases hSF.2.2 with hZ | ⟨q, hZ⟩
  · refine va_gets (own := "java/lang/String") (ref := "jdk/internal/util/Preconditions") hx hb hZ hS hown (hts _ (am_jw_at 48)) (fun x h => h) dJ0_checkIndex_df160_2 ?_
    refine W.callR (W.runS (As := [.int (nI i), .int (nI (am_sl8.getD j 0)), .null]) (rest := []) ⟨hx, hb, hml, hown, hts⟩ (am_chkN hj hi) ⟨callB_of (ws' := am_ws) (bytes := cJ3_checkIndex_8e157) (maxL := 3) (ret := (some .int)) (rm := am_jr 0) 3 hts (am_goodIn (am_jw_at 23)) rfl rfl rfl (hts _ (am_jw_at 24)) (hts _ (am_jw_at 39)) ⟨by decide, by decide, by decide +kernel⟩ ⟨Nat.le_of_ble_eq_true rfl, Nat.le_of_ble_eq_true rfl⟩, (hts _ (am_jw_at 25))⟩ ⟨am_SF_blind, fun U hU hW => ⟨rfl, am_SF_T.2 s U [] hW (by rw [hU]; exact hS) hSF⟩⟩ rfl rfl hl.1 rfl (lv_room (Nat.le_of_ble_eq_true rfl)) dJ0_checkIndex_df160_5 ⟨Nat.le_of_ble_eq_true rfl, Nat.le_of_ble_eq_true rfl⟩) ?_
    refine lv_pop hx hb dJ0_checkIndex_df160_8 rfl ?_
    exact W.vret hx hb hr (fun t ht hW => ⟨rfl, ht⟩) (fun q h => by cases h) dJ0_checkIndex_df160_9 hlocks
  · refine va_gets (own := "java/lang/String") (ref := "jdk/internal/util/Preconditions") hx hb hZ hS hown (hts _ (am_jw_at 48)) (fun x h => h) dJ0_checkIndex_df160_2 ?_
    refine W.callR (W.runS (As := [.int (nI i), .int (nI (am_sl8.getD j 0)), .ref q]) (rest := []) ⟨hx, hb, hml, hown, hts⟩ (am_chkR hj hi) ⟨callB_of (ws' := am_ws) (bytes := cJ3_checkIndex_8e157) (maxL := 3) (ret := (some .int)) (rm := am_jr 0) 3 hts (am_goodIn (am_jw_at 23)) rfl rfl rfl (hts _ (am_jw_at 24)) (hts _ (am_jw_at 39)) ⟨by decide, by decide, by decide +kernel⟩ ⟨Nat.le_of_ble_eq_true rfl, Nat.le_of_ble_eq_true rfl⟩, (hts _ (am_jw_at 25))⟩ ⟨am_SF_blind, fun U hU hW => ⟨rfl, am_SF_T.2 s U [] hW (by rw [hU]; exact hS) hSF⟩⟩ rfl rfl hl.1 rfl (lv_room (Nat.le_of_ble_eq_true rfl)) dJ0_checkIndex_df160_5 ⟨Nat.le_of_ble_eq_true rfl, Nat.le_of_ble_eq_true rfl⟩) ?_
    refine lv_pop hx hb dJ0_checkIndex_df160_8 rfl ?_
    exact W.vret hx hb hr (fun t ht hW => ⟨rfl, ht⟩) (fun q h => by cases h) dJ0_checkIndex_df160_9 hlocks
theorem am_chLat {l : Launch} {A : Nat → Prop} {aK aV : Nat → Nat} {j : Nat} (hj : j < 8) {i : Nat} (hi : i < am_sl8.getD j 0) : Met l yJ1_charAt_3b067 (.code yJ1_charAt_3b067 cJ1_charAt_3b067 2 (some .char) :: am_ws) (am_jr 2) (va_Pc [.ref (aV j), .int (nI i)] (am_SF A aK aV)) (QcRead ((am_sb8.getD j []).getD i 0)) 0 0 (fun _ => False) := by
  refine am_ofWF (cc := cJ1_charAt_3b067) (maxL := 2) (ret := (some .char)) (by decide +kernel) rfl ?_
  intro p e s m args below meth c s₁ B hml hv0
  obtain ⟨rfl, hSF⟩ := hv0
  have hx := B.exec
  have hb := B.bytes
  have hr := B.returns
  have hts0 := atoms_spec (ws := .code yJ1_charAt_3b067 cJ1_charAt_3b067 2 (some .char) :: am_ws) B.pre
  have hts : ∀ w ∈ am_ws, w.before _ s = true := fun w hw => hts0 w (List.mem_cons_of_mem _ hw)
  have hown : s.vm.findClass "java/lang/StringLatin1" = some m.cls := findClass_of_methodNamed B.named
  have hlocks := B.notSynchronized
  have hS : va_S A s.heap s.heap [] := va_S.rf
  have hl := lv_entry ([.ref (aV j), .int (nI i)]) (n := 2) (Nat.le_of_ble_eq_true rfl)
  rw [lg_entry_eq]
  generalize (lg_sl ([.ref (aV j), .int (nI i)]) ++ List.replicate (2 - (lg_sl ([.ref (aV j), .int (nI i)])).length) Slot.unset).toArray = ls at hl ⊢
  have hl : lv_has ls 2 [(0, .ref (aV j)), (1, .int (nI i))] := hl
  have hlt := am_sl8_lt hj
  refine lv_iload_n hx hb dJ1_charAt_3b067_0 rfl (lv_at hl 1 rfl) ?_
  refine lv_aload_n hx hb dJ1_charAt_3b067_1 rfl (lv_at hl 0 rfl) ?_
  refine va_tlen hx hb (am_SF_at hSF hj).2.2.2 hS rfl dJ1_charAt_3b067_2 ?_
  refine am_callV0 (W.runS (As := [.int (nI i), .int (nI (am_sl8.getD j 0))]) (rest := []) ⟨hx, hb, hml, hown, hts⟩ (am_sChk hj hi) ⟨callB_of (ws' := am_ws) (bytes := cJ0_checkIndex_df160) (maxL := 2) (ret := none) (rm := am_jr 1) 2 hts (am_goodIn (am_jw_at 26)) rfl rfl rfl (hts _ (am_jw_at 1)) (hts _ (am_jw_at 40)) ⟨by decide, by decide, by decide +kernel⟩ ⟨Nat.le_of_ble_eq_true rfl, Nat.le_of_ble_eq_true rfl⟩, (hts _ (am_jw_at 27))⟩ ⟨am_SF_blind, fun U hU hW => ⟨rfl, am_SF_T.2 s U [] hW (by rw [hU]; exact hS) hSF⟩⟩ rfl rfl hl.1 rfl (lv_room (Nat.le_of_ble_eq_true rfl)) dJ1_charAt_3b067_3 ⟨Nat.le_of_ble_eq_true rfl, Nat.le_of_ble_eq_true rfl⟩) ?_
  refine lv_aload_n hx hb dJ1_charAt_3b067_6 rfl (lv_at hl 0 rfl) ?_
  refine lv_iload_n hx hb dJ1_charAt_3b067_7 rfl (lv_at hl 1 rfl) ?_
  refine va_tb hx hb (am_SF_at hSF hj).2.2.2 hS (vp_in_nI hi (by omega)) rfl dJ1_charAt_3b067_8 ?_
  rw [nI_clamp (by omega)]
  refine lv_sipush (v := 255) hx hb dJ1_charAt_3b067_9 (by decide) ?_
  refine lv_iand hx hb dJ1_charAt_3b067_12 ?_
  refine lv_i2c (v := (am_sb8.getD j []).getD i 0) hx hb dJ1_charAt_3b067_13 (am_byte_c hj hi).1 ?_
  exact W.zret (ty := .char) hx hb hr ((am_byte_c hj hi).2) (fun t ht hW => ⟨rfl, ht⟩) (fun q h => by cases h) dJ1_charAt_3b067_14 hlocks
theorem am_sCh {l : Launch} {A : Nat → Prop} {aK aV : Nat → Nat} {j : Nat} (hj : j < 8) {i : Nat} (hi : i < am_sl8.getD j 0) : Met l yJ0_charAt_5068e (.code yJ0_charAt_5068e cJ0_charAt_5068e 2 (some .char) :: am_ws) (am_jr 3) (va_Pc [.ref (aK j), .int (nI i)] (am_SF A aK aV)) (QcRead ((am_sb8.getD j []).getD i 0)) 0 0 (fun _ => False) := by
  refine am_ofWF (cc := cJ0_charAt_5068e) (maxL := 2) (ret := (some .char)) (by decide +kernel) rfl ?_
  intro p e s m args below meth c s₁ B hml hv0
  obtain ⟨rfl, hSF⟩ := hv0
  have hx := B.exec
  have hb := B.bytes
  have hr := B.returns
  have hts0 := atoms_spec (ws := .code yJ0_charAt_5068e cJ0_charAt_5068e 2 (some .char) :: am_ws) B.pre
  have hts : ∀ w ∈ am_ws, w.before _ s = true := fun w hw => hts0 w (List.mem_cons_of_mem _ hw)
  have hown : s.vm.findClass "java/lang/String" = some m.cls := findClass_of_methodNamed B.named
  have hlocks := B.notSynchronized
  have hS : va_S A s.heap s.heap [] := va_S.rf
  have hl := lv_entry ([.ref (aK j), .int (nI i)]) (n := 2) (Nat.le_of_ble_eq_true rfl)
  rw [lg_entry_eq]
  generalize (lg_sl ([.ref (aK j), .int (nI i)]) ++ List.replicate (2 - (lg_sl ([.ref (aK j), .int (nI i)])).length) Slot.unset).toArray = ls at hl ⊢
  have hl : lv_has ls 2 [(0, .ref (aK j)), (1, .int (nI i))] := hl
  refine lv_aload_n hx hb dJ0_charAt_5068e_0 rfl (lv_at hl 0 rfl) ?_
  refine W.callR (W.runV (b := aK j) (As := []) (rest := []) ⟨hx, hb, hml, hown, hts⟩ (am_isLatin hj) ⟨callB_of (ws' := am_ws) (bytes := cJ0_isLatin1_aae02) (maxL := 1) (ret := (some .boolean)) (rm := am_jr 0) 0 hts (am_goodIn (am_jw_at 4)) rfl rfl rfl (hts _ (am_jw_at 1)) (hts _ (am_jw_at 34)) ⟨by decide, by decide, by decide +kernel⟩ ⟨Nat.le_of_ble_eq_true rfl, Nat.le_of_ble_eq_true rfl⟩, (hts _ (am_jw_at 5)), (hts _ (am_jw_at 6))⟩ ⟨am_SF_blind, vk_recv (adK := fun _ => aK j) (i := 0) (hSF.1 j hj) (by decide) hS, fun U hU hW => ⟨rfl, am_SF_T.2 s U [] hW (by rw [hU]; exact hS) hSF⟩⟩ rfl rfl hl.1 rfl (lv_room (Nat.le_of_ble_eq_true rfl)) dJ0_charAt_5068e_1 ⟨Nat.le_of_ble_eq_true rfl, Nat.le_of_ble_eq_true rfl⟩) ?_
  refine lv_if_eq (tgt := 16) hx hb dJ0_charAt_5068e_4 rfl (fun q => absurd q (by decide)) (fun _ => ?_)
  refine lv_aload_n hx hb dJ0_charAt_5068e_7 rfl (lv_at hl 0 rfl) ?_
  refine vk_getf (own := "java/lang/String") (ref := "java/lang/String") (n := "value") (d := "[B") (o := "java/lang/String") hx hb (am_SF_at hSF hj).2.2.1 hS hown (hts _ (am_jw_at 45)) (fun x h => h) dJ0_charAt_5068e_8 ?_
  refine lv_iload_n hx hb dJ0_charAt_5068e_11 rfl (lv_at hl 1 rfl) ?_
  refine W.callR (W.runS (As := [.ref (aV j), .int (nI i)]) (rest := []) ⟨hx, hb, hml, hown, hts⟩ (am_chLat hj hi) ⟨callB_of (ws' := am_ws) (bytes := cJ1_charAt_3b067) (maxL := 2) (ret := (some .char)) (rm := am_jr 2) 2 hts (am_goodIn (am_jw_at 28)) rfl rfl rfl (hts _ (am_jw_at 11)) (hts _ (am_jw_at 35)) ⟨by decide, by decide, by decide +kernel⟩ ⟨Nat.le_of_ble_eq_true rfl, Nat.le_of_ble_eq_true rfl⟩, (hts _ (am_jw_at 29))⟩ ⟨am_SF_blind, fun U hU hW => ⟨rfl, am_SF_T.2 s U [] hW (by rw [hU]; exact hS) hSF⟩⟩ rfl rfl hl.1 rfl (lv_room (Nat.le_of_ble_eq_true rfl)) dJ0_charAt_5068e_12 ⟨Nat.le_of_ble_eq_true rfl, Nat.le_of_ble_eq_true rfl⟩) ?_
  exact W.zret (ty := .char) hx hb hr ((am_byte_c hj hi).2) (fun t ht hW => ⟨rfl, ht⟩) (fun q h => by cases h) dJ0_charAt_5068e_15 hlocks
