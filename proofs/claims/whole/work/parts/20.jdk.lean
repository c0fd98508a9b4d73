/-! The JDK's own methods that are walked: their instructions, what they name. Written by wip/tools/jdk.py. -/
theorem d_java_lang_Long_bitCount_0 : decode c_java_lang_Long_bitCount 0 = .ok (.lload_n 0, 1) := by decide +kernel
theorem d_java_lang_Long_bitCount_1 : decode c_java_lang_Long_bitCount 1 = .ok (.lload_n 0, 1) := by decide +kernel
theorem d_java_lang_Long_bitCount_2 : decode c_java_lang_Long_bitCount 2 = .ok (.iconst 1, 1) := by decide +kernel
theorem d_java_lang_Long_bitCount_3 : decode c_java_lang_Long_bitCount 3 = .ok (.lushr, 1) := by decide +kernel
theorem d_java_lang_Long_bitCount_4 : decode c_java_lang_Long_bitCount 4 = .ok (.ldc2_w 314, 3) := by decide +kernel
theorem d_java_lang_Long_bitCount_7 : decode c_java_lang_Long_bitCount 7 = .ok (.land, 1) := by decide +kernel
theorem d_java_lang_Long_bitCount_8 : decode c_java_lang_Long_bitCount 8 = .ok (.lsub, 1) := by decide +kernel
theorem d_java_lang_Long_bitCount_9 : decode c_java_lang_Long_bitCount 9 = .ok (.lstore_n 0, 1) := by decide +kernel
theorem d_java_lang_Long_bitCount_10 : decode c_java_lang_Long_bitCount 10 = .ok (.lload_n 0, 1) := by decide +kernel
theorem d_java_lang_Long_bitCount_11 : decode c_java_lang_Long_bitCount 11 = .ok (.ldc2_w 316, 3) := by decide +kernel
theorem d_java_lang_Long_bitCount_14 : decode c_java_lang_Long_bitCount 14 = .ok (.land, 1) := by decide +kernel
theorem d_java_lang_Long_bitCount_15 : decode c_java_lang_Long_bitCount 15 = .ok (.lload_n 0, 1) := by decide +kernel
theorem d_java_lang_Long_bitCount_16 : decode c_java_lang_Long_bitCount 16 = .ok (.iconst 2, 1) := by decide +kernel
theorem d_java_lang_Long_bitCount_17 : decode c_java_lang_Long_bitCount 17 = .ok (.lushr, 1) := by decide +kernel
theorem d_java_lang_Long_bitCount_18 : decode c_java_lang_Long_bitCount 18 = .ok (.ldc2_w 316, 3) := by decide +kernel
theorem d_java_lang_Long_bitCount_21 : decode c_java_lang_Long_bitCount 21 = .ok (.land, 1) := by decide +kernel
theorem d_java_lang_Long_bitCount_22 : decode c_java_lang_Long_bitCount 22 = .ok (.ladd, 1) := by decide +kernel
theorem d_java_lang_Long_bitCount_23 : decode c_java_lang_Long_bitCount 23 = .ok (.lstore_n 0, 1) := by decide +kernel
theorem d_java_lang_Long_bitCount_24 : decode c_java_lang_Long_bitCount 24 = .ok (.lload_n 0, 1) := by decide +kernel
theorem d_java_lang_Long_bitCount_25 : decode c_java_lang_Long_bitCount 25 = .ok (.lload_n 0, 1) := by decide +kernel
theorem d_java_lang_Long_bitCount_26 : decode c_java_lang_Long_bitCount 26 = .ok (.iconst 4, 1) := by decide +kernel
theorem d_java_lang_Long_bitCount_27 : decode c_java_lang_Long_bitCount 27 = .ok (.lushr, 1) := by decide +kernel
theorem d_java_lang_Long_bitCount_28 : decode c_java_lang_Long_bitCount 28 = .ok (.ladd, 1) := by decide +kernel
theorem d_java_lang_Long_bitCount_29 : decode c_java_lang_Long_bitCount 29 = .ok (.ldc2_w 318, 3) := by decide +kernel
theorem d_java_lang_Long_bitCount_32 : decode c_java_lang_Long_bitCount 32 = .ok (.land, 1) := by decide +kernel
theorem d_java_lang_Long_bitCount_33 : decode c_java_lang_Long_bitCount 33 = .ok (.lstore_n 0, 1) := by decide +kernel
theorem d_java_lang_Long_bitCount_34 : decode c_java_lang_Long_bitCount 34 = .ok (.lload_n 0, 1) := by decide +kernel
theorem d_java_lang_Long_bitCount_35 : decode c_java_lang_Long_bitCount 35 = .ok (.lload_n 0, 1) := by decide +kernel
theorem d_java_lang_Long_bitCount_36 : decode c_java_lang_Long_bitCount 36 = .ok (.bipush 8, 2) := by decide +kernel
theorem d_java_lang_Long_bitCount_38 : decode c_java_lang_Long_bitCount 38 = .ok (.lushr, 1) := by decide +kernel
theorem d_java_lang_Long_bitCount_39 : decode c_java_lang_Long_bitCount 39 = .ok (.ladd, 1) := by decide +kernel
theorem d_java_lang_Long_bitCount_40 : decode c_java_lang_Long_bitCount 40 = .ok (.lstore_n 0, 1) := by decide +kernel
theorem d_java_lang_Long_bitCount_41 : decode c_java_lang_Long_bitCount 41 = .ok (.lload_n 0, 1) := by decide +kernel
theorem d_java_lang_Long_bitCount_42 : decode c_java_lang_Long_bitCount 42 = .ok (.lload_n 0, 1) := by decide +kernel
theorem d_java_lang_Long_bitCount_43 : decode c_java_lang_Long_bitCount 43 = .ok (.bipush 16, 2) := by decide +kernel
theorem d_java_lang_Long_bitCount_45 : decode c_java_lang_Long_bitCount 45 = .ok (.lushr, 1) := by decide +kernel
theorem d_java_lang_Long_bitCount_46 : decode c_java_lang_Long_bitCount 46 = .ok (.ladd, 1) := by decide +kernel
theorem d_java_lang_Long_bitCount_47 : decode c_java_lang_Long_bitCount 47 = .ok (.lstore_n 0, 1) := by decide +kernel
theorem d_java_lang_Long_bitCount_48 : decode c_java_lang_Long_bitCount 48 = .ok (.lload_n 0, 1) := by decide +kernel
theorem d_java_lang_Long_bitCount_49 : decode c_java_lang_Long_bitCount 49 = .ok (.lload_n 0, 1) := by decide +kernel
theorem d_java_lang_Long_bitCount_50 : decode c_java_lang_Long_bitCount 50 = .ok (.bipush 32, 2) := by decide +kernel
theorem d_java_lang_Long_bitCount_52 : decode c_java_lang_Long_bitCount 52 = .ok (.lushr, 1) := by decide +kernel
theorem d_java_lang_Long_bitCount_53 : decode c_java_lang_Long_bitCount 53 = .ok (.ladd, 1) := by decide +kernel
theorem d_java_lang_Long_bitCount_54 : decode c_java_lang_Long_bitCount 54 = .ok (.lstore_n 0, 1) := by decide +kernel
theorem d_java_lang_Long_bitCount_55 : decode c_java_lang_Long_bitCount 55 = .ok (.lload_n 0, 1) := by decide +kernel
theorem d_java_lang_Long_bitCount_56 : decode c_java_lang_Long_bitCount 56 = .ok (.l2i, 1) := by decide +kernel
theorem d_java_lang_Long_bitCount_57 : decode c_java_lang_Long_bitCount 57 = .ok (.bipush 127, 2) := by decide +kernel
theorem d_java_lang_Long_bitCount_59 : decode c_java_lang_Long_bitCount 59 = .ok (.iand, 1) := by decide +kernel
theorem d_java_lang_Long_bitCount_60 : decode c_java_lang_Long_bitCount 60 = .ok (.ireturn, 1) := by decide +kernel
theorem d_java_lang_Math_max_0 : decode c_java_lang_Math_max 0 = .ok (.iload_n 0, 1) := by decide +kernel
theorem d_java_lang_Math_max_1 : decode c_java_lang_Math_max 1 = .ok (.iload_n 1, 1) := by decide +kernel
theorem d_java_lang_Math_max_2 : decode c_java_lang_Math_max 2 = .ok (.if_icmp .lt 7, 3) := by decide +kernel
theorem d_java_lang_Math_max_5 : decode c_java_lang_Math_max 5 = .ok (.iload_n 0, 1) := by decide +kernel
theorem d_java_lang_Math_max_6 : decode c_java_lang_Math_max 6 = .ok (.goto 4, 3) := by decide +kernel
theorem d_java_lang_Math_max_9 : decode c_java_lang_Math_max 9 = .ok (.iload_n 1, 1) := by decide +kernel
theorem d_java_lang_Math_max_10 : decode c_java_lang_Math_max 10 = .ok (.ireturn, 1) := by decide +kernel
theorem d_java_lang_Math_min_0 : decode c_java_lang_Math_min 0 = .ok (.iload_n 0, 1) := by decide +kernel
theorem d_java_lang_Math_min_1 : decode c_java_lang_Math_min 1 = .ok (.iload_n 1, 1) := by decide +kernel
theorem d_java_lang_Math_min_2 : decode c_java_lang_Math_min 2 = .ok (.if_icmp .gt 7, 3) := by decide +kernel
theorem d_java_lang_Math_min_5 : decode c_java_lang_Math_min 5 = .ok (.iload_n 0, 1) := by decide +kernel
theorem d_java_lang_Math_min_6 : decode c_java_lang_Math_min 6 = .ok (.goto 4, 3) := by decide +kernel
theorem d_java_lang_Math_min_9 : decode c_java_lang_Math_min 9 = .ok (.iload_n 1, 1) := by decide +kernel
theorem d_java_lang_Math_min_10 : decode c_java_lang_Math_min 10 = .ok (.ireturn, 1) := by decide +kernel
theorem d_java_lang_Enum_ordinal_0 : decode c_java_lang_Enum_ordinal 0 = .ok (.aload_n 0, 1) := by decide +kernel
theorem d_java_lang_Enum_ordinal_1 : decode c_java_lang_Enum_ordinal 1 = .ok (.getfield 7, 3) := by decide +kernel
theorem d_java_lang_Enum_ordinal_4 : decode c_java_lang_Enum_ordinal 4 = .ok (.ireturn, 1) := by decide +kernel
theorem d_java_lang_String_length_0 : decode c_java_lang_String_length 0 = .ok (.aload_n 0, 1) := by decide +kernel
theorem d_java_lang_String_length_1 : decode c_java_lang_String_length 1 = .ok (.getfield 9, 3) := by decide +kernel
theorem d_java_lang_String_length_4 : decode c_java_lang_String_length 4 = .ok (.arraylength, 1) := by decide +kernel
theorem d_java_lang_String_length_5 : decode c_java_lang_String_length 5 = .ok (.aload_n 0, 1) := by decide +kernel
theorem d_java_lang_String_length_6 : decode c_java_lang_String_length 6 = .ok (.invokevirtual 335, 3) := by decide +kernel
theorem d_java_lang_String_length_9 : decode c_java_lang_String_length 9 = .ok (.ishr, 1) := by decide +kernel
theorem d_java_lang_String_length_10 : decode c_java_lang_String_length 10 = .ok (.ireturn, 1) := by decide +kernel
theorem d_java_lang_String_coder_0 : decode c_java_lang_String_coder 0 = .ok (.getstatic 38, 3) := by decide +kernel
theorem d_java_lang_String_coder_3 : decode c_java_lang_String_coder 3 = .ok (.ifCond .eq 10, 3) := by decide +kernel
theorem d_java_lang_String_coder_6 : decode c_java_lang_String_coder 6 = .ok (.aload_n 0, 1) := by decide +kernel
theorem d_java_lang_String_coder_7 : decode c_java_lang_String_coder 7 = .ok (.getfield 15, 3) := by decide +kernel
theorem d_java_lang_String_coder_10 : decode c_java_lang_String_coder 10 = .ok (.goto 4, 3) := by decide +kernel
theorem d_java_lang_String_coder_13 : decode c_java_lang_String_coder 13 = .ok (.iconst 1, 1) := by decide +kernel
theorem d_java_lang_String_coder_14 : decode c_java_lang_String_coder 14 = .ok (.ireturn, 1) := by decide +kernel
theorem d_java_lang_String_charAt_0 : decode c_java_lang_String_charAt 0 = .ok (.aload_n 0, 1) := by decide +kernel
theorem d_java_lang_String_charAt_1 : decode c_java_lang_String_charAt 1 = .ok (.invokevirtual 492, 3) := by decide +kernel
theorem d_java_lang_String_charAt_4 : decode c_java_lang_String_charAt 4 = .ok (.ifCond .eq 12, 3) := by decide +kernel
theorem d_java_lang_String_charAt_7 : decode c_java_lang_String_charAt 7 = .ok (.aload_n 0, 1) := by decide +kernel
theorem d_java_lang_String_charAt_8 : decode c_java_lang_String_charAt 8 = .ok (.getfield 9, 3) := by decide +kernel
theorem d_java_lang_String_charAt_11 : decode c_java_lang_String_charAt 11 = .ok (.iload_n 1, 1) := by decide +kernel
theorem d_java_lang_String_charAt_12 : decode c_java_lang_String_charAt 12 = .ok (.invokestatic 495, 3) := by decide +kernel
theorem d_java_lang_String_charAt_15 : decode c_java_lang_String_charAt 15 = .ok (.ireturn, 1) := by decide +kernel
theorem d_java_lang_String_charAt_16 : decode c_java_lang_String_charAt 16 = .ok (.aload_n 0, 1) := by decide +kernel
theorem d_java_lang_String_charAt_17 : decode c_java_lang_String_charAt 17 = .ok (.getfield 9, 3) := by decide +kernel
theorem d_java_lang_String_charAt_20 : decode c_java_lang_String_charAt 20 = .ok (.iload_n 1, 1) := by decide +kernel
theorem d_java_lang_String_charAt_21 : decode c_java_lang_String_charAt 21 = .ok (.invokestatic 498, 3) := by decide +kernel
theorem d_java_lang_String_charAt_24 : decode c_java_lang_String_charAt 24 = .ok (.ireturn, 1) := by decide +kernel
theorem d_java_lang_String_isLatin1_0 : decode c_java_lang_String_isLatin1 0 = .ok (.getstatic 38, 3) := by decide +kernel
theorem d_java_lang_String_isLatin1_3 : decode c_java_lang_String_isLatin1 3 = .ok (.ifCond .eq 14, 3) := by decide +kernel
theorem d_java_lang_String_isLatin1_6 : decode c_java_lang_String_isLatin1 6 = .ok (.aload_n 0, 1) := by decide +kernel
theorem d_java_lang_String_isLatin1_7 : decode c_java_lang_String_isLatin1 7 = .ok (.getfield 15, 3) := by decide +kernel
theorem d_java_lang_String_isLatin1_10 : decode c_java_lang_String_isLatin1 10 = .ok (.ifCond .ne 7, 3) := by decide +kernel
theorem d_java_lang_String_isLatin1_13 : decode c_java_lang_String_isLatin1 13 = .ok (.iconst 1, 1) := by decide +kernel
theorem d_java_lang_String_isLatin1_14 : decode c_java_lang_String_isLatin1 14 = .ok (.goto 4, 3) := by decide +kernel
theorem d_java_lang_String_isLatin1_17 : decode c_java_lang_String_isLatin1 17 = .ok (.iconst 0, 1) := by decide +kernel
theorem d_java_lang_String_isLatin1_18 : decode c_java_lang_String_isLatin1 18 = .ok (.ireturn, 1) := by decide +kernel
theorem d_java_lang_StringLatin1_charAt_0 : decode c_java_lang_StringLatin1_charAt 0 = .ok (.iload_n 1, 1) := by decide +kernel
theorem d_java_lang_StringLatin1_charAt_1 : decode c_java_lang_StringLatin1_charAt 1 = .ok (.aload_n 0, 1) := by decide +kernel
theorem d_java_lang_StringLatin1_charAt_2 : decode c_java_lang_StringLatin1_charAt 2 = .ok (.arraylength, 1) := by decide +kernel
theorem d_java_lang_StringLatin1_charAt_3 : decode c_java_lang_StringLatin1_charAt 3 = .ok (.invokestatic 9, 3) := by decide +kernel
theorem d_java_lang_StringLatin1_charAt_6 : decode c_java_lang_StringLatin1_charAt 6 = .ok (.aload_n 0, 1) := by decide +kernel
theorem d_java_lang_StringLatin1_charAt_7 : decode c_java_lang_StringLatin1_charAt 7 = .ok (.iload_n 1, 1) := by decide +kernel
theorem d_java_lang_StringLatin1_charAt_8 : decode c_java_lang_StringLatin1_charAt 8 = .ok (.baload, 1) := by decide +kernel
theorem d_java_lang_StringLatin1_charAt_9 : decode c_java_lang_StringLatin1_charAt 9 = .ok (.sipush 255, 3) := by decide +kernel
theorem d_java_lang_StringLatin1_charAt_12 : decode c_java_lang_StringLatin1_charAt 12 = .ok (.iand, 1) := by decide +kernel
theorem d_java_lang_StringLatin1_charAt_13 : decode c_java_lang_StringLatin1_charAt 13 = .ok (.i2c, 1) := by decide +kernel
theorem d_java_lang_StringLatin1_charAt_14 : decode c_java_lang_StringLatin1_charAt 14 = .ok (.ireturn, 1) := by decide +kernel
theorem d_java_lang_String_checkIndex_0 : decode c_java_lang_String_checkIndex 0 = .ok (.iload_n 0, 1) := by decide +kernel
theorem d_java_lang_String_checkIndex_1 : decode c_java_lang_String_checkIndex 1 = .ok (.iload_n 1, 1) := by decide +kernel
theorem d_java_lang_String_checkIndex_2 : decode c_java_lang_String_checkIndex 2 = .ok (.getstatic 1053, 3) := by decide +kernel
theorem d_java_lang_String_checkIndex_5 : decode c_java_lang_String_checkIndex 5 = .ok (.invokestatic 1059, 3) := by decide +kernel
theorem d_java_lang_String_checkIndex_8 : decode c_java_lang_String_checkIndex 8 = .ok (.pop, 1) := by decide +kernel
theorem d_java_lang_String_checkIndex_9 : decode c_java_lang_String_checkIndex 9 = .ok (.return_, 1) := by decide +kernel
theorem d_jdk_internal_util_Preconditions_checkIndex_0 : decode c_jdk_internal_util_Preconditions_checkIndex 0 = .ok (.iload_n 0, 1) := by decide +kernel
theorem d_jdk_internal_util_Preconditions_checkIndex_1 : decode c_jdk_internal_util_Preconditions_checkIndex 1 = .ok (.ifCond .lt 8, 3) := by decide +kernel
theorem d_jdk_internal_util_Preconditions_checkIndex_4 : decode c_jdk_internal_util_Preconditions_checkIndex 4 = .ok (.iload_n 0, 1) := by decide +kernel
theorem d_jdk_internal_util_Preconditions_checkIndex_5 : decode c_jdk_internal_util_Preconditions_checkIndex 5 = .ok (.iload_n 1, 1) := by decide +kernel
theorem d_jdk_internal_util_Preconditions_checkIndex_6 : decode c_jdk_internal_util_Preconditions_checkIndex 6 = .ok (.if_icmp .lt 10, 3) := by decide +kernel
theorem d_jdk_internal_util_Preconditions_checkIndex_9 : decode c_jdk_internal_util_Preconditions_checkIndex 9 = .ok (.aload_n 2, 1) := by decide +kernel
theorem d_jdk_internal_util_Preconditions_checkIndex_10 : decode c_jdk_internal_util_Preconditions_checkIndex 10 = .ok (.iload_n 0, 1) := by decide +kernel
theorem d_jdk_internal_util_Preconditions_checkIndex_11 : decode c_jdk_internal_util_Preconditions_checkIndex 11 = .ok (.iload_n 1, 1) := by decide +kernel
theorem d_jdk_internal_util_Preconditions_checkIndex_12 : decode c_jdk_internal_util_Preconditions_checkIndex 12 = .ok (.invokestatic 95, 3) := by decide +kernel
theorem d_jdk_internal_util_Preconditions_checkIndex_15 : decode c_jdk_internal_util_Preconditions_checkIndex 15 = .ok (.athrow, 1) := by decide +kernel
theorem d_jdk_internal_util_Preconditions_checkIndex_16 : decode c_jdk_internal_util_Preconditions_checkIndex 16 = .ok (.iload_n 0, 1) := by decide +kernel
theorem d_jdk_internal_util_Preconditions_checkIndex_17 : decode c_jdk_internal_util_Preconditions_checkIndex 17 = .ok (.ireturn, 1) := by decide +kernel
theorem cw_java_lang_String_335 : gWV "java/lang/String" 335 y_java_lang_String_coder (.code y_java_lang_String_coder c_java_lang_String_coder 1 (some .byte)) 0 := ⟨km_java_lang_String_335, ki_java_lang_String_coder, ko_java_lang_String_coder, kt_java_lang_String, kc_java_lang_String_coder, by decide, by decide⟩
theorem cw_java_lang_String_492 : gWV "java/lang/String" 492 y_java_lang_String_isLatin1 (.code y_java_lang_String_isLatin1 c_java_lang_String_isLatin1 1 (some .boolean)) 0 := ⟨km_java_lang_String_492, ki_java_lang_String_isLatin1, ko_java_lang_String_isLatin1, kt_java_lang_String, kc_java_lang_String_isLatin1, by decide, by decide⟩
theorem cw_java_lang_String_495 : gWS "java/lang/String" 495 y_java_lang_StringLatin1_charAt (.code y_java_lang_StringLatin1_charAt c_java_lang_StringLatin1_charAt 2 (some .char)) 2 := ⟨km_java_lang_String_495, ks_java_lang_StringLatin1_charAt, kt_java_lang_StringLatin1, kc_java_lang_StringLatin1_charAt, by decide, by decide⟩
theorem cw_java_lang_StringLatin1_9 : gWS "java/lang/StringLatin1" 9 y_java_lang_String_checkIndex (.code y_java_lang_String_checkIndex c_java_lang_String_checkIndex 2 none) 2 := ⟨km_java_lang_StringLatin1_9, ks_java_lang_String_checkIndex, kt_java_lang_String, kc_java_lang_String_checkIndex, by decide, by decide⟩
theorem cw_java_lang_String_1059 : gWS "java/lang/String" 1059 y_jdk_internal_util_Preconditions_checkIndex (.code y_jdk_internal_util_Preconditions_checkIndex c_jdk_internal_util_Preconditions_checkIndex 3 (some .int)) 3 := ⟨km_java_lang_String_1059, ks_jdk_internal_util_Preconditions_checkIndex, kt_jdk_internal_util_Preconditions, kc_jdk_internal_util_Preconditions_checkIndex, by decide, by decide⟩
theorem cw_java_lang_StringUTF16_414 : gWS "java/lang/StringUTF16" 414 y_java_lang_String_checkIndex (.code y_java_lang_String_checkIndex c_java_lang_String_checkIndex 2 none) 2 := ⟨km_java_lang_StringUTF16_414, ks_java_lang_String_checkIndex, kt_java_lang_String, kc_java_lang_String_checkIndex, by decide, by decide⟩
theorem kq_ord : Cond.sameMethod "PlaceRules$Kind" "java/lang/Enum" "ordinal" "()I" ∈ gts := gt_4 89 rfl rfl
theorem kr_ord : Cond.selects "PlaceRules$Kind" ⟨"PlaceRules$Kind", "ordinal", "()I"⟩ ⟨"java/lang/Enum", "ordinal", "()I"⟩ ∈ gts := gt_4 91 rfl rfl
