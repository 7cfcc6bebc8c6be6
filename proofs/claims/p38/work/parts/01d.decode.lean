/-! decode rows (printed by TURN) -/
theorem dJ6_bitCount_0f7a4_0 : decode cJ6_bitCount_0f7a4 0 = .ok (.iload_n 0, 1) := by decide +kernel
theorem dJ6_bitCount_0f7a4_1 : decode cJ6_bitCount_0f7a4 1 = .ok (.iload_n 0, 1) := by decide +kernel
theorem dJ6_bitCount_0f7a4_2 : decode cJ6_bitCount_0f7a4 2 = .ok (.iconst 1, 1) := by decide +kernel
theorem dJ6_bitCount_0f7a4_3 : decode cJ6_bitCount_0f7a4 3 = .ok (.iushr, 1) := by decide +kernel
theorem dJ6_bitCount_0f7a4_4 : decode cJ6_bitCount_0f7a4 4 = .ok (.ldc_w 265, 3) := by decide +kernel
theorem dJ6_bitCount_0f7a4_7 : decode cJ6_bitCount_0f7a4 7 = .ok (.iand, 1) := by decide +kernel
theorem dJ6_bitCount_0f7a4_8 : decode cJ6_bitCount_0f7a4 8 = .ok (.isub, 1) := by decide +kernel
theorem dJ6_bitCount_0f7a4_9 : decode cJ6_bitCount_0f7a4 9 = .ok (.istore_n 0, 1) := by decide +kernel
theorem dJ6_bitCount_0f7a4_10 : decode cJ6_bitCount_0f7a4 10 = .ok (.iload_n 0, 1) := by decide +kernel
theorem dJ6_bitCount_0f7a4_11 : decode cJ6_bitCount_0f7a4 11 = .ok (.ldc_w 266, 3) := by decide +kernel
theorem dJ6_bitCount_0f7a4_14 : decode cJ6_bitCount_0f7a4 14 = .ok (.iand, 1) := by decide +kernel
theorem dJ6_bitCount_0f7a4_15 : decode cJ6_bitCount_0f7a4 15 = .ok (.iload_n 0, 1) := by decide +kernel
theorem dJ6_bitCount_0f7a4_16 : decode cJ6_bitCount_0f7a4 16 = .ok (.iconst 2, 1) := by decide +kernel
theorem dJ6_bitCount_0f7a4_17 : decode cJ6_bitCount_0f7a4 17 = .ok (.iushr, 1) := by decide +kernel
theorem dJ6_bitCount_0f7a4_18 : decode cJ6_bitCount_0f7a4 18 = .ok (.ldc_w 266, 3) := by decide +kernel
theorem dJ6_bitCount_0f7a4_21 : decode cJ6_bitCount_0f7a4 21 = .ok (.iand, 1) := by decide +kernel
theorem dJ6_bitCount_0f7a4_22 : decode cJ6_bitCount_0f7a4 22 = .ok (.iadd, 1) := by decide +kernel
theorem dJ6_bitCount_0f7a4_23 : decode cJ6_bitCount_0f7a4 23 = .ok (.istore_n 0, 1) := by decide +kernel
theorem dJ6_bitCount_0f7a4_24 : decode cJ6_bitCount_0f7a4 24 = .ok (.iload_n 0, 1) := by decide +kernel
theorem dJ6_bitCount_0f7a4_25 : decode cJ6_bitCount_0f7a4 25 = .ok (.iload_n 0, 1) := by decide +kernel
theorem dJ6_bitCount_0f7a4_26 : decode cJ6_bitCount_0f7a4 26 = .ok (.iconst 4, 1) := by decide +kernel
theorem dJ6_bitCount_0f7a4_27 : decode cJ6_bitCount_0f7a4 27 = .ok (.iushr, 1) := by decide +kernel
theorem dJ6_bitCount_0f7a4_28 : decode cJ6_bitCount_0f7a4 28 = .ok (.iadd, 1) := by decide +kernel
theorem dJ6_bitCount_0f7a4_29 : decode cJ6_bitCount_0f7a4 29 = .ok (.ldc_w 267, 3) := by decide +kernel
theorem dJ6_bitCount_0f7a4_32 : decode cJ6_bitCount_0f7a4 32 = .ok (.iand, 1) := by decide +kernel
theorem dJ6_bitCount_0f7a4_33 : decode cJ6_bitCount_0f7a4 33 = .ok (.istore_n 0, 1) := by decide +kernel
theorem dJ6_bitCount_0f7a4_34 : decode cJ6_bitCount_0f7a4 34 = .ok (.iload_n 0, 1) := by decide +kernel
theorem dJ6_bitCount_0f7a4_35 : decode cJ6_bitCount_0f7a4 35 = .ok (.iload_n 0, 1) := by decide +kernel
theorem dJ6_bitCount_0f7a4_36 : decode cJ6_bitCount_0f7a4 36 = .ok (.bipush 8, 2) := by decide +kernel
theorem dJ6_bitCount_0f7a4_38 : decode cJ6_bitCount_0f7a4 38 = .ok (.iushr, 1) := by decide +kernel
theorem dJ6_bitCount_0f7a4_39 : decode cJ6_bitCount_0f7a4 39 = .ok (.iadd, 1) := by decide +kernel
theorem dJ6_bitCount_0f7a4_40 : decode cJ6_bitCount_0f7a4 40 = .ok (.istore_n 0, 1) := by decide +kernel
theorem dJ6_bitCount_0f7a4_41 : decode cJ6_bitCount_0f7a4 41 = .ok (.iload_n 0, 1) := by decide +kernel
theorem dJ6_bitCount_0f7a4_42 : decode cJ6_bitCount_0f7a4 42 = .ok (.iload_n 0, 1) := by decide +kernel
theorem dJ6_bitCount_0f7a4_43 : decode cJ6_bitCount_0f7a4 43 = .ok (.bipush 16, 2) := by decide +kernel
theorem dJ6_bitCount_0f7a4_45 : decode cJ6_bitCount_0f7a4 45 = .ok (.iushr, 1) := by decide +kernel
theorem dJ6_bitCount_0f7a4_46 : decode cJ6_bitCount_0f7a4 46 = .ok (.iadd, 1) := by decide +kernel
theorem dJ6_bitCount_0f7a4_47 : decode cJ6_bitCount_0f7a4 47 = .ok (.istore_n 0, 1) := by decide +kernel
theorem dJ6_bitCount_0f7a4_48 : decode cJ6_bitCount_0f7a4 48 = .ok (.iload_n 0, 1) := by decide +kernel
theorem dJ6_bitCount_0f7a4_49 : decode cJ6_bitCount_0f7a4 49 = .ok (.bipush 63, 2) := by decide +kernel
theorem dJ6_bitCount_0f7a4_51 : decode cJ6_bitCount_0f7a4 51 = .ok (.iand, 1) := by decide +kernel
theorem dJ6_bitCount_0f7a4_52 : decode cJ6_bitCount_0f7a4 52 = .ok (.ireturn, 1) := by decide +kernel
theorem dJ13_bitCount_95d88_0 : decode cJ13_bitCount_95d88 0 = .ok (.lload_n 0, 1) := by decide +kernel
theorem dJ13_bitCount_95d88_1 : decode cJ13_bitCount_95d88 1 = .ok (.lload_n 0, 1) := by decide +kernel
theorem dJ13_bitCount_95d88_2 : decode cJ13_bitCount_95d88 2 = .ok (.iconst 1, 1) := by decide +kernel
theorem dJ13_bitCount_95d88_3 : decode cJ13_bitCount_95d88 3 = .ok (.lushr, 1) := by decide +kernel
theorem dJ13_bitCount_95d88_4 : decode cJ13_bitCount_95d88 4 = .ok (.ldc2_w 314, 3) := by decide +kernel
theorem dJ13_bitCount_95d88_7 : decode cJ13_bitCount_95d88 7 = .ok (.land, 1) := by decide +kernel
theorem dJ13_bitCount_95d88_8 : decode cJ13_bitCount_95d88 8 = .ok (.lsub, 1) := by decide +kernel
theorem dJ13_bitCount_95d88_9 : decode cJ13_bitCount_95d88 9 = .ok (.lstore_n 0, 1) := by decide +kernel
theorem dJ13_bitCount_95d88_10 : decode cJ13_bitCount_95d88 10 = .ok (.lload_n 0, 1) := by decide +kernel
theorem dJ13_bitCount_95d88_11 : decode cJ13_bitCount_95d88 11 = .ok (.ldc2_w 316, 3) := by decide +kernel
theorem dJ13_bitCount_95d88_14 : decode cJ13_bitCount_95d88 14 = .ok (.land, 1) := by decide +kernel
theorem dJ13_bitCount_95d88_15 : decode cJ13_bitCount_95d88 15 = .ok (.lload_n 0, 1) := by decide +kernel
theorem dJ13_bitCount_95d88_16 : decode cJ13_bitCount_95d88 16 = .ok (.iconst 2, 1) := by decide +kernel
theorem dJ13_bitCount_95d88_17 : decode cJ13_bitCount_95d88 17 = .ok (.lushr, 1) := by decide +kernel
theorem dJ13_bitCount_95d88_18 : decode cJ13_bitCount_95d88 18 = .ok (.ldc2_w 316, 3) := by decide +kernel
theorem dJ13_bitCount_95d88_21 : decode cJ13_bitCount_95d88 21 = .ok (.land, 1) := by decide +kernel
theorem dJ13_bitCount_95d88_22 : decode cJ13_bitCount_95d88 22 = .ok (.ladd, 1) := by decide +kernel
theorem dJ13_bitCount_95d88_23 : decode cJ13_bitCount_95d88 23 = .ok (.lstore_n 0, 1) := by decide +kernel
theorem dJ13_bitCount_95d88_24 : decode cJ13_bitCount_95d88 24 = .ok (.lload_n 0, 1) := by decide +kernel
theorem dJ13_bitCount_95d88_25 : decode cJ13_bitCount_95d88 25 = .ok (.lload_n 0, 1) := by decide +kernel
theorem dJ13_bitCount_95d88_26 : decode cJ13_bitCount_95d88 26 = .ok (.iconst 4, 1) := by decide +kernel
theorem dJ13_bitCount_95d88_27 : decode cJ13_bitCount_95d88 27 = .ok (.lushr, 1) := by decide +kernel
theorem dJ13_bitCount_95d88_28 : decode cJ13_bitCount_95d88 28 = .ok (.ladd, 1) := by decide +kernel
theorem dJ13_bitCount_95d88_29 : decode cJ13_bitCount_95d88 29 = .ok (.ldc2_w 318, 3) := by decide +kernel
theorem dJ13_bitCount_95d88_32 : decode cJ13_bitCount_95d88 32 = .ok (.land, 1) := by decide +kernel
theorem dJ13_bitCount_95d88_33 : decode cJ13_bitCount_95d88 33 = .ok (.lstore_n 0, 1) := by decide +kernel
theorem dJ13_bitCount_95d88_34 : decode cJ13_bitCount_95d88 34 = .ok (.lload_n 0, 1) := by decide +kernel
theorem dJ13_bitCount_95d88_35 : decode cJ13_bitCount_95d88 35 = .ok (.lload_n 0, 1) := by decide +kernel
theorem dJ13_bitCount_95d88_36 : decode cJ13_bitCount_95d88 36 = .ok (.bipush 8, 2) := by decide +kernel
theorem dJ13_bitCount_95d88_38 : decode cJ13_bitCount_95d88 38 = .ok (.lushr, 1) := by decide +kernel
theorem dJ13_bitCount_95d88_39 : decode cJ13_bitCount_95d88 39 = .ok (.ladd, 1) := by decide +kernel
theorem dJ13_bitCount_95d88_40 : decode cJ13_bitCount_95d88 40 = .ok (.lstore_n 0, 1) := by decide +kernel
theorem dJ13_bitCount_95d88_41 : decode cJ13_bitCount_95d88 41 = .ok (.lload_n 0, 1) := by decide +kernel
theorem dJ13_bitCount_95d88_42 : decode cJ13_bitCount_95d88 42 = .ok (.lload_n 0, 1) := by decide +kernel
theorem dJ13_bitCount_95d88_43 : decode cJ13_bitCount_95d88 43 = .ok (.bipush 16, 2) := by decide +kernel
theorem dJ13_bitCount_95d88_45 : decode cJ13_bitCount_95d88 45 = .ok (.lushr, 1) := by decide +kernel
theorem dJ13_bitCount_95d88_46 : decode cJ13_bitCount_95d88 46 = .ok (.ladd, 1) := by decide +kernel
theorem dJ13_bitCount_95d88_47 : decode cJ13_bitCount_95d88 47 = .ok (.lstore_n 0, 1) := by decide +kernel
theorem dJ13_bitCount_95d88_48 : decode cJ13_bitCount_95d88 48 = .ok (.lload_n 0, 1) := by decide +kernel
theorem dJ13_bitCount_95d88_49 : decode cJ13_bitCount_95d88 49 = .ok (.lload_n 0, 1) := by decide +kernel
theorem dJ13_bitCount_95d88_50 : decode cJ13_bitCount_95d88 50 = .ok (.bipush 32, 2) := by decide +kernel
theorem dJ13_bitCount_95d88_52 : decode cJ13_bitCount_95d88 52 = .ok (.lushr, 1) := by decide +kernel
theorem dJ13_bitCount_95d88_53 : decode cJ13_bitCount_95d88 53 = .ok (.ladd, 1) := by decide +kernel
theorem dJ13_bitCount_95d88_54 : decode cJ13_bitCount_95d88 54 = .ok (.lstore_n 0, 1) := by decide +kernel
theorem dJ13_bitCount_95d88_55 : decode cJ13_bitCount_95d88 55 = .ok (.lload_n 0, 1) := by decide +kernel
theorem dJ13_bitCount_95d88_56 : decode cJ13_bitCount_95d88 56 = .ok (.l2i, 1) := by decide +kernel
theorem dJ13_bitCount_95d88_57 : decode cJ13_bitCount_95d88 57 = .ok (.bipush 127, 2) := by decide +kernel
theorem dJ13_bitCount_95d88_59 : decode cJ13_bitCount_95d88 59 = .ok (.iand, 1) := by decide +kernel
theorem dJ13_bitCount_95d88_60 : decode cJ13_bitCount_95d88 60 = .ok (.ireturn, 1) := by decide +kernel
theorem dJ0_length_8abf5_0 : decode cJ0_length_8abf5 0 = .ok (.aload_n 0, 1) := by decide +kernel
theorem dJ0_length_8abf5_1 : decode cJ0_length_8abf5 1 = .ok (.getfield 9, 3) := by decide +kernel
theorem dJ0_length_8abf5_4 : decode cJ0_length_8abf5 4 = .ok (.arraylength, 1) := by decide +kernel
theorem dJ0_length_8abf5_5 : decode cJ0_length_8abf5 5 = .ok (.aload_n 0, 1) := by decide +kernel
theorem dJ0_length_8abf5_6 : decode cJ0_length_8abf5 6 = .ok (.invokevirtual 335, 3) := by decide +kernel
theorem dJ0_length_8abf5_9 : decode cJ0_length_8abf5 9 = .ok (.ishr, 1) := by decide +kernel
theorem dJ0_length_8abf5_10 : decode cJ0_length_8abf5 10 = .ok (.ireturn, 1) := by decide +kernel
theorem dJ0_indexOf_0f7a4_0 : decode cJ0_indexOf_0f7a4 0 = .ok (.aload_n 0, 1) := by decide +kernel
theorem dJ0_indexOf_0f7a4_1 : decode cJ0_indexOf_0f7a4 1 = .ok (.iload_n 1, 1) := by decide +kernel
theorem dJ0_indexOf_0f7a4_2 : decode cJ0_indexOf_0f7a4 2 = .ok (.iconst 0, 1) := by decide +kernel
theorem dJ0_indexOf_0f7a4_3 : decode cJ0_indexOf_0f7a4 3 = .ok (.invokevirtual 633, 3) := by decide +kernel
theorem dJ0_indexOf_0f7a4_6 : decode cJ0_indexOf_0f7a4 6 = .ok (.ireturn, 1) := by decide +kernel
theorem dJ0_indexOf_7cf53_0 : decode cJ0_indexOf_7cf53 0 = .ok (.aload_n 0, 1) := by decide +kernel
theorem dJ0_indexOf_7cf53_1 : decode cJ0_indexOf_7cf53 1 = .ok (.invokevirtual 492, 3) := by decide +kernel
theorem dJ0_indexOf_7cf53_4 : decode cJ0_indexOf_7cf53 4 = .ok (.ifCond .eq 19, 3) := by decide +kernel
theorem dJ0_indexOf_7cf53_7 : decode cJ0_indexOf_7cf53 7 = .ok (.aload_n 0, 1) := by decide +kernel
theorem dJ0_indexOf_7cf53_8 : decode cJ0_indexOf_7cf53 8 = .ok (.getfield 9, 3) := by decide +kernel
theorem dJ0_indexOf_7cf53_11 : decode cJ0_indexOf_7cf53 11 = .ok (.iload_n 1, 1) := by decide +kernel
theorem dJ0_indexOf_7cf53_12 : decode cJ0_indexOf_7cf53 12 = .ok (.iload_n 2, 1) := by decide +kernel
theorem dJ0_indexOf_7cf53_13 : decode cJ0_indexOf_7cf53 13 = .ok (.aload_n 0, 1) := by decide +kernel
theorem dJ0_indexOf_7cf53_14 : decode cJ0_indexOf_7cf53 14 = .ok (.invokevirtual 505, 3) := by decide +kernel
theorem dJ0_indexOf_7cf53_17 : decode cJ0_indexOf_7cf53 17 = .ok (.invokestatic 637, 3) := by decide +kernel
theorem dJ0_indexOf_7cf53_20 : decode cJ0_indexOf_7cf53 20 = .ok (.goto 16, 3) := by decide +kernel
theorem dJ0_indexOf_7cf53_36 : decode cJ0_indexOf_7cf53 36 = .ok (.ireturn, 1) := by decide +kernel
theorem dJ0_coder_7d493_0 : decode cJ0_coder_7d493 0 = .ok (.getstatic 38, 3) := by decide +kernel
theorem dJ0_coder_7d493_3 : decode cJ0_coder_7d493 3 = .ok (.ifCond .eq 10, 3) := by decide +kernel
theorem dJ0_coder_7d493_6 : decode cJ0_coder_7d493 6 = .ok (.aload_n 0, 1) := by decide +kernel
theorem dJ0_coder_7d493_7 : decode cJ0_coder_7d493 7 = .ok (.getfield 15, 3) := by decide +kernel
theorem dJ0_coder_7d493_10 : decode cJ0_coder_7d493 10 = .ok (.goto 4, 3) := by decide +kernel
theorem dJ0_coder_7d493_14 : decode cJ0_coder_7d493 14 = .ok (.ireturn, 1) := by decide +kernel
theorem dJ0_isLatin1_aae02_0 : decode cJ0_isLatin1_aae02 0 = .ok (.getstatic 38, 3) := by decide +kernel
theorem dJ0_isLatin1_aae02_3 : decode cJ0_isLatin1_aae02 3 = .ok (.ifCond .eq 14, 3) := by decide +kernel
theorem dJ0_isLatin1_aae02_6 : decode cJ0_isLatin1_aae02 6 = .ok (.aload_n 0, 1) := by decide +kernel
theorem dJ0_isLatin1_aae02_7 : decode cJ0_isLatin1_aae02 7 = .ok (.getfield 15, 3) := by decide +kernel
theorem dJ0_isLatin1_aae02_10 : decode cJ0_isLatin1_aae02 10 = .ok (.ifCond .ne 7, 3) := by decide +kernel
theorem dJ0_isLatin1_aae02_13 : decode cJ0_isLatin1_aae02 13 = .ok (.iconst 1, 1) := by decide +kernel
theorem dJ0_isLatin1_aae02_14 : decode cJ0_isLatin1_aae02 14 = .ok (.goto 4, 3) := by decide +kernel
theorem dJ0_isLatin1_aae02_18 : decode cJ0_isLatin1_aae02 18 = .ok (.ireturn, 1) := by decide +kernel
theorem dJ1_canEncode_9a6ad_0 : decode cJ1_canEncode_9a6ad 0 = .ok (.iload_n 0, 1) := by decide +kernel
theorem dJ1_canEncode_9a6ad_1 : decode cJ1_canEncode_9a6ad 1 = .ok (.ifCond .lt 14, 3) := by decide +kernel
theorem dJ1_canEncode_9a6ad_4 : decode cJ1_canEncode_9a6ad 4 = .ok (.iload_n 0, 1) := by decide +kernel
theorem dJ1_canEncode_9a6ad_5 : decode cJ1_canEncode_9a6ad 5 = .ok (.sipush 255, 3) := by decide +kernel
theorem dJ1_canEncode_9a6ad_8 : decode cJ1_canEncode_9a6ad 8 = .ok (.if_icmp .gt 7, 3) := by decide +kernel
theorem dJ1_canEncode_9a6ad_11 : decode cJ1_canEncode_9a6ad 11 = .ok (.iconst 1, 1) := by decide +kernel
theorem dJ1_canEncode_9a6ad_12 : decode cJ1_canEncode_9a6ad 12 = .ok (.goto 4, 3) := by decide +kernel
theorem dJ1_canEncode_9a6ad_16 : decode cJ1_canEncode_9a6ad 16 = .ok (.ireturn, 1) := by decide +kernel
theorem dJ1_indexOf_4cfef_0 : decode cJ1_indexOf_4cfef 0 = .ok (.iload_n 1, 1) := by decide +kernel
theorem dJ1_indexOf_4cfef_1 : decode cJ1_indexOf_4cfef 1 = .ok (.invokestatic 88, 3) := by decide +kernel
theorem dJ1_indexOf_4cfef_4 : decode cJ1_indexOf_4cfef 4 = .ok (.ifCond .ne 5, 3) := by decide +kernel
theorem dJ1_indexOf_4cfef_9 : decode cJ1_indexOf_4cfef 9 = .ok (.iload_n 2, 1) := by decide +kernel
theorem dJ1_indexOf_4cfef_10 : decode cJ1_indexOf_4cfef 10 = .ok (.iconst 0, 1) := by decide +kernel
theorem dJ1_indexOf_4cfef_11 : decode cJ1_indexOf_4cfef 11 = .ok (.invokestatic 92, 3) := by decide +kernel
theorem dJ1_indexOf_4cfef_14 : decode cJ1_indexOf_4cfef 14 = .ok (.istore_n 2, 1) := by decide +kernel
theorem dJ1_indexOf_4cfef_15 : decode cJ1_indexOf_4cfef 15 = .ok (.iload_n 3, 1) := by decide +kernel
theorem dJ1_indexOf_4cfef_16 : decode cJ1_indexOf_4cfef 16 = .ok (.aload_n 0, 1) := by decide +kernel
theorem dJ1_indexOf_4cfef_17 : decode cJ1_indexOf_4cfef 17 = .ok (.arraylength, 1) := by decide +kernel
theorem dJ1_indexOf_4cfef_18 : decode cJ1_indexOf_4cfef 18 = .ok (.invokestatic 38, 3) := by decide +kernel
theorem dJ1_indexOf_4cfef_21 : decode cJ1_indexOf_4cfef 21 = .ok (.istore_n 3, 1) := by decide +kernel
theorem dJ1_indexOf_4cfef_22 : decode cJ1_indexOf_4cfef 22 = .ok (.iload_n 2, 1) := by decide +kernel
theorem dJ1_indexOf_4cfef_23 : decode cJ1_indexOf_4cfef 23 = .ok (.iload_n 3, 1) := by decide +kernel
theorem dJ1_indexOf_4cfef_24 : decode cJ1_indexOf_4cfef 24 = .ok (.if_icmp .lt 5, 3) := by decide +kernel
theorem dJ1_indexOf_4cfef_29 : decode cJ1_indexOf_4cfef 29 = .ok (.aload_n 0, 1) := by decide +kernel
theorem dJ1_indexOf_4cfef_30 : decode cJ1_indexOf_4cfef 30 = .ok (.iload_n 1, 1) := by decide +kernel
theorem dJ1_indexOf_4cfef_31 : decode cJ1_indexOf_4cfef 31 = .ok (.iload_n 2, 1) := by decide +kernel
theorem dJ1_indexOf_4cfef_32 : decode cJ1_indexOf_4cfef 32 = .ok (.iload_n 3, 1) := by decide +kernel
theorem dJ1_indexOf_4cfef_33 : decode cJ1_indexOf_4cfef 33 = .ok (.invokestatic 95, 3) := by decide +kernel
theorem dJ1_indexOf_4cfef_36 : decode cJ1_indexOf_4cfef 36 = .ok (.ireturn, 1) := by decide +kernel
theorem dJ1_indexOfChar_4cfef_0 : decode cJ1_indexOfChar_4cfef 0 = .ok (.iload_n 1, 1) := by decide +kernel
theorem dJ1_indexOfChar_4cfef_1 : decode cJ1_indexOfChar_4cfef 1 = .ok (.i2b, 1) := by decide +kernel
theorem dJ1_indexOfChar_4cfef_2 : decode cJ1_indexOfChar_4cfef 2 = .ok (.istore 4, 2) := by decide +kernel
theorem dJ1_indexOfChar_4cfef_4 : decode cJ1_indexOfChar_4cfef 4 = .ok (.iload_n 2, 1) := by decide +kernel
theorem dJ1_indexOfChar_4cfef_5 : decode cJ1_indexOfChar_4cfef 5 = .ok (.istore 5, 2) := by decide +kernel
theorem dJ1_indexOfChar_4cfef_7 : decode cJ1_indexOfChar_4cfef 7 = .ok (.iload 5, 2) := by decide +kernel
theorem dJ1_indexOfChar_4cfef_9 : decode cJ1_indexOfChar_4cfef 9 = .ok (.iload_n 3, 1) := by decide +kernel
theorem dJ1_indexOfChar_4cfef_10 : decode cJ1_indexOfChar_4cfef 10 = .ok (.if_icmp .ge 21, 3) := by decide +kernel
theorem dJ1_indexOfChar_4cfef_13 : decode cJ1_indexOfChar_4cfef 13 = .ok (.aload_n 0, 1) := by decide +kernel
theorem dJ1_indexOfChar_4cfef_14 : decode cJ1_indexOfChar_4cfef 14 = .ok (.iload 5, 2) := by decide +kernel
theorem dJ1_indexOfChar_4cfef_16 : decode cJ1_indexOfChar_4cfef 16 = .ok (.baload, 1) := by decide +kernel
theorem dJ1_indexOfChar_4cfef_17 : decode cJ1_indexOfChar_4cfef 17 = .ok (.iload 4, 2) := by decide +kernel
theorem dJ1_indexOfChar_4cfef_19 : decode cJ1_indexOfChar_4cfef 19 = .ok (.if_icmp .ne 6, 3) := by decide +kernel
theorem dJ1_indexOfChar_4cfef_22 : decode cJ1_indexOfChar_4cfef 22 = .ok (.iload 5, 2) := by decide +kernel
theorem dJ1_indexOfChar_4cfef_24 : decode cJ1_indexOfChar_4cfef 24 = .ok (.ireturn, 1) := by decide +kernel
theorem dJ1_indexOfChar_4cfef_25 : decode cJ1_indexOfChar_4cfef 25 = .ok (.iinc 5 1, 3) := by decide +kernel
theorem dJ1_indexOfChar_4cfef_28 : decode cJ1_indexOfChar_4cfef 28 = .ok (.goto (-21), 3) := by decide +kernel
theorem dL_cell_0 : decode cL_cell 0 = .ok (.iload_n 1, 1) := by decide +kernel
theorem dL_cell_1 : decode cL_cell 1 = .ok (.aload_n 0, 1) := by decide +kernel
theorem dL_cell_2 : decode cL_cell 2 = .ok (.arraylength, 1) := by decide +kernel
theorem dL_cell_3 : decode cL_cell 3 = .ok (.if_icmp .ge 9, 3) := by decide +kernel
theorem dL_cell_6 : decode cL_cell 6 = .ok (.aload_n 0, 1) := by decide +kernel
theorem dL_cell_7 : decode cL_cell 7 = .ok (.iload_n 1, 1) := by decide +kernel
theorem dL_cell_8 : decode cL_cell 8 = .ok (.iaload, 1) := by decide +kernel
theorem dL_cell_9 : decode cL_cell 9 = .ok (.goto 11, 3) := by decide +kernel
theorem dL_cell_12 : decode cL_cell 12 = .ok (.sipush 7919, 3) := by decide +kernel
theorem dL_cell_15 : decode cL_cell 15 = .ok (.iload_n 1, 1) := by decide +kernel
theorem dL_cell_16 : decode cL_cell 16 = .ok (.imul, 1) := by decide +kernel
theorem dL_cell_17 : decode cL_cell 17 = .ok (.bipush 12, 2) := by decide +kernel
theorem dL_cell_19 : decode cL_cell 19 = .ok (.iadd, 1) := by decide +kernel
theorem dL_cell_20 : decode cL_cell 20 = .ok (.ireturn, 1) := by decide +kernel
theorem dL_some_0 : decode cL_some 0 = .ok (.aload_n 0, 1) := by decide +kernel
theorem dL_some_1 : decode cL_some 1 = .ok (.iload_n 1, 1) := by decide +kernel
theorem dL_some_2 : decode cL_some 2 = .ok (.invokestatic 7, 3) := by decide +kernel
theorem dL_some_5 : decode cL_some 5 = .ok (.iconst 3, 1) := by decide +kernel
theorem dL_some_6 : decode cL_some 6 = .ok (.iushr, 1) := by decide +kernel
theorem dL_some_7 : decode cL_some 7 = .ok (.iload_n 2, 1) := by decide +kernel
theorem dL_some_8 : decode cL_some 8 = .ok (.irem, 1) := by decide +kernel
theorem dL_some_9 : decode cL_some 9 = .ok (.ireturn, 1) := by decide +kernel
theorem dL_addMachine_0 : decode cL_addMachine 0 = .ok (.aload_n 0, 1) := by decide +kernel
theorem dL_addMachine_1 : decode cL_addMachine 1 = .ok (.iload_n 1, 1) := by decide +kernel
theorem dL_addMachine_2 : decode cL_addMachine 2 = .ok (.iload_n 2, 1) := by decide +kernel
theorem dL_addMachine_3 : decode cL_addMachine 3 = .ok (.iload_n 3, 1) := by decide +kernel
theorem dL_addMachine_4 : decode cL_addMachine 4 = .ok (.iload 4, 2) := by decide +kernel
theorem dL_addMachine_6 : decode cL_addMachine 6 = .ok (.invokevirtual 13, 3) := by decide +kernel
theorem dL_addMachine_9 : decode cL_addMachine 9 = .ok (.ireturn, 1) := by decide +kernel
theorem dL_addMachine_10 : decode cL_addMachine 10 = .ok (.astore 5, 2) := by decide +kernel
theorem dL_addMachine_12 : decode cL_addMachine 12 = .ok (.ldc 21, 2) := by decide +kernel
theorem dL_addMachine_14 : decode cL_addMachine 14 = .ok (.ireturn, 1) := by decide +kernel
theorem dL_addMachine_15 : decode cL_addMachine 15 = .ok (.astore 5, 2) := by decide +kernel
theorem dL_addMachine_17 : decode cL_addMachine 17 = .ok (.ldc 24, 2) := by decide +kernel
theorem dL_addMachine_19 : decode cL_addMachine 19 = .ok (.ireturn, 1) := by decide +kernel
theorem dL_addPart_0 : decode cL_addPart 0 = .ok (.aload_n 0, 1) := by decide +kernel
theorem dL_addPart_1 : decode cL_addPart 1 = .ok (.iload_n 1, 1) := by decide +kernel
theorem dL_addPart_2 : decode cL_addPart 2 = .ok (.iload_n 2, 1) := by decide +kernel
theorem dL_addPart_3 : decode cL_addPart 3 = .ok (.invokevirtual 25, 3) := by decide +kernel
theorem dL_addPart_6 : decode cL_addPart 6 = .ok (.ireturn, 1) := by decide +kernel
theorem dL_addPart_7 : decode cL_addPart 7 = .ok (.astore_n 3, 1) := by decide +kernel
theorem dL_addPart_8 : decode cL_addPart 8 = .ok (.ldc 21, 2) := by decide +kernel
theorem dL_addPart_10 : decode cL_addPart 10 = .ok (.ireturn, 1) := by decide +kernel
theorem dL_addPart_11 : decode cL_addPart 11 = .ok (.astore_n 3, 1) := by decide +kernel
theorem dL_addPart_12 : decode cL_addPart 12 = .ok (.ldc 24, 2) := by decide +kernel
theorem dL_addPart_14 : decode cL_addPart 14 = .ok (.ireturn, 1) := by decide +kernel
theorem dL_addComponent_0 : decode cL_addComponent 0 = .ok (.aload_n 0, 1) := by decide +kernel
theorem dL_addComponent_1 : decode cL_addComponent 1 = .ok (.iload_n 1, 1) := by decide +kernel
theorem dL_addComponent_2 : decode cL_addComponent 2 = .ok (.iload_n 2, 1) := by decide +kernel
theorem dL_addComponent_3 : decode cL_addComponent 3 = .ok (.iload_n 3, 1) := by decide +kernel
theorem dL_addComponent_4 : decode cL_addComponent 4 = .ok (.iload 4, 2) := by decide +kernel
theorem dL_addComponent_6 : decode cL_addComponent 6 = .ok (.invokevirtual 29, 3) := by decide +kernel
theorem dL_addComponent_9 : decode cL_addComponent 9 = .ok (.ireturn, 1) := by decide +kernel
theorem dL_addComponent_10 : decode cL_addComponent 10 = .ok (.astore 5, 2) := by decide +kernel
theorem dL_addComponent_12 : decode cL_addComponent 12 = .ok (.ldc 34, 2) := by decide +kernel
theorem dL_addComponent_14 : decode cL_addComponent 14 = .ok (.ireturn, 1) := by decide +kernel
theorem dL_addComponent_15 : decode cL_addComponent 15 = .ok (.astore 5, 2) := by decide +kernel
theorem dL_addComponent_17 : decode cL_addComponent 17 = .ok (.ldc 37, 2) := by decide +kernel
theorem dL_addComponent_19 : decode cL_addComponent 19 = .ok (.ireturn, 1) := by decide +kernel
theorem dL_addComponent_20 : decode cL_addComponent 20 = .ok (.astore 5, 2) := by decide +kernel
theorem dL_addComponent_22 : decode cL_addComponent 22 = .ok (.ldc 21, 2) := by decide +kernel
theorem dL_addComponent_24 : decode cL_addComponent 24 = .ok (.ireturn, 1) := by decide +kernel
theorem dL_addComponent_25 : decode cL_addComponent 25 = .ok (.astore 5, 2) := by decide +kernel
theorem dL_addComponent_27 : decode cL_addComponent 27 = .ok (.ldc 24, 2) := by decide +kernel
theorem dL_addComponent_29 : decode cL_addComponent 29 = .ok (.ireturn, 1) := by decide +kernel
theorem dL_addOperation_0 : decode cL_addOperation 0 = .ok (.aload_n 0, 1) := by decide +kernel
theorem dL_addOperation_1 : decode cL_addOperation 1 = .ok (.iload_n 1, 1) := by decide +kernel
theorem dL_addOperation_2 : decode cL_addOperation 2 = .ok (.iload_n 2, 1) := by decide +kernel
theorem dL_addOperation_3 : decode cL_addOperation 3 = .ok (.iload_n 3, 1) := by decide +kernel
theorem dL_addOperation_4 : decode cL_addOperation 4 = .ok (.iload 4, 2) := by decide +kernel
theorem dL_addOperation_6 : decode cL_addOperation 6 = .ok (.invokevirtual 38, 3) := by decide +kernel
theorem dL_addOperation_9 : decode cL_addOperation 9 = .ok (.ireturn, 1) := by decide +kernel
theorem dL_addOperation_10 : decode cL_addOperation 10 = .ok (.astore 5, 2) := by decide +kernel
theorem dL_addOperation_12 : decode cL_addOperation 12 = .ok (.ldc 34, 2) := by decide +kernel
theorem dL_addOperation_14 : decode cL_addOperation 14 = .ok (.ireturn, 1) := by decide +kernel
theorem dL_addOperation_15 : decode cL_addOperation 15 = .ok (.astore 5, 2) := by decide +kernel
theorem dL_addOperation_17 : decode cL_addOperation 17 = .ok (.ldc 37, 2) := by decide +kernel
theorem dL_addOperation_19 : decode cL_addOperation 19 = .ok (.ireturn, 1) := by decide +kernel
theorem dL_addOperation_20 : decode cL_addOperation 20 = .ok (.astore 5, 2) := by decide +kernel
theorem dL_addOperation_22 : decode cL_addOperation 22 = .ok (.ldc 21, 2) := by decide +kernel
theorem dL_addOperation_24 : decode cL_addOperation 24 = .ok (.ireturn, 1) := by decide +kernel
theorem dL_addOperation_25 : decode cL_addOperation 25 = .ok (.astore 5, 2) := by decide +kernel
theorem dL_addOperation_27 : decode cL_addOperation 27 = .ok (.ldc 24, 2) := by decide +kernel
theorem dL_addOperation_29 : decode cL_addOperation 29 = .ok (.ireturn, 1) := by decide +kernel
theorem dL_receive_0 : decode cL_receive 0 = .ok (.aload_n 0, 1) := by decide +kernel
theorem dL_receive_1 : decode cL_receive 1 = .ok (.iload_n 1, 1) := by decide +kernel
theorem dL_receive_2 : decode cL_receive 2 = .ok (.iload_n 2, 1) := by decide +kernel
theorem dL_receive_3 : decode cL_receive 3 = .ok (.iload_n 3, 1) := by decide +kernel
theorem dL_receive_4 : decode cL_receive 4 = .ok (.iload 4, 2) := by decide +kernel
theorem dL_receive_6 : decode cL_receive 6 = .ok (.iload 5, 2) := by decide +kernel
theorem dL_receive_8 : decode cL_receive 8 = .ok (.invokevirtual 41, 3) := by decide +kernel
theorem dL_receive_11 : decode cL_receive 11 = .ok (.ireturn, 1) := by decide +kernel
theorem dL_receive_12 : decode cL_receive 12 = .ok (.astore 6, 2) := by decide +kernel
theorem dL_receive_14 : decode cL_receive 14 = .ok (.ldc 34, 2) := by decide +kernel
theorem dL_receive_16 : decode cL_receive 16 = .ok (.ireturn, 1) := by decide +kernel
theorem dL_receive_17 : decode cL_receive 17 = .ok (.astore 6, 2) := by decide +kernel
theorem dL_receive_19 : decode cL_receive 19 = .ok (.ldc 37, 2) := by decide +kernel
theorem dL_receive_21 : decode cL_receive 21 = .ok (.ireturn, 1) := by decide +kernel
theorem dL_receive_22 : decode cL_receive 22 = .ok (.astore 6, 2) := by decide +kernel
theorem dL_receive_24 : decode cL_receive 24 = .ok (.ldc 21, 2) := by decide +kernel
theorem dL_receive_26 : decode cL_receive 26 = .ok (.ireturn, 1) := by decide +kernel
theorem dL_receive_27 : decode cL_receive 27 = .ok (.astore 6, 2) := by decide +kernel
theorem dL_receive_29 : decode cL_receive 29 = .ok (.ldc 24, 2) := by decide +kernel
theorem dL_receive_31 : decode cL_receive 31 = .ok (.ireturn, 1) := by decide +kernel
theorem dL_hold_0 : decode cL_hold 0 = .ok (.aload_n 0, 1) := by decide +kernel
theorem dL_hold_1 : decode cL_hold 1 = .ok (.iload_n 1, 1) := by decide +kernel
theorem dL_hold_2 : decode cL_hold 2 = .ok (.iload_n 2, 1) := by decide +kernel
theorem dL_hold_3 : decode cL_hold 3 = .ok (.invokevirtual 49, 3) := by decide +kernel
theorem dL_hold_6 : decode cL_hold 6 = .ok (.ireturn, 1) := by decide +kernel
theorem dL_hold_7 : decode cL_hold 7 = .ok (.astore_n 3, 1) := by decide +kernel
theorem dL_hold_8 : decode cL_hold 8 = .ok (.ldc 34, 2) := by decide +kernel
theorem dL_hold_10 : decode cL_hold 10 = .ok (.ireturn, 1) := by decide +kernel
theorem dL_partOf_0 : decode cL_partOf 0 = .ok (.aload_n 0, 1) := by decide +kernel
theorem dL_partOf_1 : decode cL_partOf 1 = .ok (.iload_n 1, 1) := by decide +kernel
theorem dL_partOf_2 : decode cL_partOf 2 = .ok (.invokevirtual 57, 3) := by decide +kernel
theorem dL_partOf_5 : decode cL_partOf 5 = .ok (.ireturn, 1) := by decide +kernel
theorem dL_partOf_6 : decode cL_partOf 6 = .ok (.astore_n 2, 1) := by decide +kernel
theorem dL_partOf_7 : decode cL_partOf 7 = .ok (.ldc 34, 2) := by decide +kernel
theorem dL_partOf_9 : decode cL_partOf 9 = .ok (.ireturn, 1) := by decide +kernel
theorem dL_rest_0 : decode cL_rest 0 = .ok (.aload_n 0, 1) := by decide +kernel
theorem dL_rest_1 : decode cL_rest 1 = .ok (.iload_n 1, 1) := by decide +kernel
theorem dL_rest_2 : decode cL_rest 2 = .ok (.invokevirtual 61, 3) := by decide +kernel
theorem dL_rest_5 : decode cL_rest 5 = .ok (.ireturn, 1) := by decide +kernel
theorem dL_rest_6 : decode cL_rest 6 = .ok (.astore_n 2, 1) := by decide +kernel
theorem dL_rest_7 : decode cL_rest 7 = .ok (.ldc 34, 2) := by decide +kernel
theorem dL_rest_9 : decode cL_rest 9 = .ok (.ireturn, 1) := by decide +kernel
theorem dL_reserved_0 : decode cL_reserved 0 = .ok (.aload_n 0, 1) := by decide +kernel
theorem dL_reserved_1 : decode cL_reserved 1 = .ok (.iload_n 1, 1) := by decide +kernel
theorem dL_reserved_2 : decode cL_reserved 2 = .ok (.invokevirtual 64, 3) := by decide +kernel
theorem dL_reserved_5 : decode cL_reserved 5 = .ok (.ireturn, 1) := by decide +kernel
theorem dL_reserved_6 : decode cL_reserved 6 = .ok (.astore_n 2, 1) := by decide +kernel
theorem dL_reserved_7 : decode cL_reserved 7 = .ok (.ldc 34, 2) := by decide +kernel
theorem dL_reserved_9 : decode cL_reserved 9 = .ok (.ireturn, 1) := by decide +kernel
theorem dL_costOf_0 : decode cL_costOf 0 = .ok (.aload_n 0, 1) := by decide +kernel
theorem dL_costOf_1 : decode cL_costOf 1 = .ok (.iload_n 1, 1) := by decide +kernel
theorem dL_costOf_2 : decode cL_costOf 2 = .ok (.invokevirtual 67, 3) := by decide +kernel
theorem dL_costOf_5 : decode cL_costOf 5 = .ok (.lreturn, 1) := by decide +kernel
theorem dL_costOf_6 : decode cL_costOf 6 = .ok (.astore_n 2, 1) := by decide +kernel
theorem dL_costOf_7 : decode cL_costOf 7 = .ok (.ldc2_w 71, 3) := by decide +kernel
theorem dL_costOf_10 : decode cL_costOf 10 = .ok (.lreturn, 1) := by decide +kernel
theorem dL_order_0 : decode cL_order 0 = .ok (.aload_n 0, 1) := by decide +kernel
theorem dL_order_1 : decode cL_order 1 = .ok (.iload_n 1, 1) := by decide +kernel
theorem dL_order_2 : decode cL_order 2 = .ok (.iload_n 2, 1) := by decide +kernel
theorem dL_order_3 : decode cL_order 3 = .ok (.iload_n 3, 1) := by decide +kernel
theorem dL_order_4 : decode cL_order 4 = .ok (.iload 4, 2) := by decide +kernel
theorem dL_order_6 : decode cL_order 6 = .ok (.invokevirtual 73, 3) := by decide +kernel
theorem dL_order_9 : decode cL_order 9 = .ok (.ireturn, 1) := by decide +kernel
theorem dL_order_10 : decode cL_order 10 = .ok (.astore 5, 2) := by decide +kernel
theorem dL_order_12 : decode cL_order 12 = .ok (.ldc 34, 2) := by decide +kernel
theorem dL_order_14 : decode cL_order 14 = .ok (.ireturn, 1) := by decide +kernel
theorem dL_order_15 : decode cL_order 15 = .ok (.astore 5, 2) := by decide +kernel
theorem dL_order_17 : decode cL_order 17 = .ok (.ldc 21, 2) := by decide +kernel
theorem dL_order_19 : decode cL_order 19 = .ok (.ireturn, 1) := by decide +kernel
theorem dL_order_20 : decode cL_order 20 = .ok (.astore 5, 2) := by decide +kernel
theorem dL_order_22 : decode cL_order 22 = .ok (.ldc 24, 2) := by decide +kernel
theorem dL_order_24 : decode cL_order 24 = .ok (.ireturn, 1) := by decide +kernel
theorem dL_withdraw_0 : decode cL_withdraw 0 = .ok (.aload_n 0, 1) := by decide +kernel
theorem dL_withdraw_1 : decode cL_withdraw 1 = .ok (.iload_n 1, 1) := by decide +kernel
theorem dL_withdraw_2 : decode cL_withdraw 2 = .ok (.invokevirtual 76, 3) := by decide +kernel
theorem dL_withdraw_5 : decode cL_withdraw 5 = .ok (.ireturn, 1) := by decide +kernel
theorem dL_withdraw_6 : decode cL_withdraw 6 = .ok (.astore_n 2, 1) := by decide +kernel
theorem dL_withdraw_7 : decode cL_withdraw 7 = .ok (.ldc 34, 2) := by decide +kernel
theorem dL_withdraw_9 : decode cL_withdraw 9 = .ok (.ireturn, 1) := by decide +kernel
theorem dL_withdraw_10 : decode cL_withdraw 10 = .ok (.astore_n 2, 1) := by decide +kernel
theorem dL_withdraw_11 : decode cL_withdraw 11 = .ok (.ldc 37, 2) := by decide +kernel
theorem dL_withdraw_13 : decode cL_withdraw 13 = .ok (.ireturn, 1) := by decide +kernel
theorem dL_scrap_0 : decode cL_scrap 0 = .ok (.aload_n 0, 1) := by decide +kernel
theorem dL_scrap_1 : decode cL_scrap 1 = .ok (.iload_n 1, 1) := by decide +kernel
theorem dL_scrap_2 : decode cL_scrap 2 = .ok (.iload_n 2, 1) := by decide +kernel
theorem dL_scrap_3 : decode cL_scrap 3 = .ok (.invokevirtual 79, 3) := by decide +kernel
theorem dL_scrap_6 : decode cL_scrap 6 = .ok (.ireturn, 1) := by decide +kernel
theorem dL_scrap_7 : decode cL_scrap 7 = .ok (.astore_n 3, 1) := by decide +kernel
theorem dL_scrap_8 : decode cL_scrap 8 = .ok (.ldc 34, 2) := by decide +kernel
theorem dL_scrap_10 : decode cL_scrap 10 = .ok (.ireturn, 1) := by decide +kernel
theorem dL_scrap_11 : decode cL_scrap 11 = .ok (.astore_n 3, 1) := by decide +kernel
theorem dL_scrap_12 : decode cL_scrap 12 = .ok (.ldc 37, 2) := by decide +kernel
theorem dL_scrap_14 : decode cL_scrap 14 = .ok (.ireturn, 1) := by decide +kernel
theorem dL_scrap_15 : decode cL_scrap 15 = .ok (.astore_n 3, 1) := by decide +kernel
theorem dL_scrap_16 : decode cL_scrap 16 = .ok (.ldc 21, 2) := by decide +kernel
theorem dL_scrap_18 : decode cL_scrap 18 = .ok (.ireturn, 1) := by decide +kernel
theorem dL_advance_0 : decode cL_advance 0 = .ok (.aload_n 0, 1) := by decide +kernel
theorem dL_advance_1 : decode cL_advance 1 = .ok (.iload_n 1, 1) := by decide +kernel
theorem dL_advance_2 : decode cL_advance 2 = .ok (.invokevirtual 83, 3) := by decide +kernel
theorem dL_advance_5 : decode cL_advance 5 = .ok (.ireturn, 1) := by decide +kernel
theorem dL_advance_6 : decode cL_advance 6 = .ok (.astore_n 2, 1) := by decide +kernel
theorem dL_advance_7 : decode cL_advance 7 = .ok (.ldc 21, 2) := by decide +kernel
theorem dL_advance_9 : decode cL_advance 9 = .ok (.ireturn, 1) := by decide +kernel
theorem dL_advance_10 : decode cL_advance 10 = .ok (.astore_n 2, 1) := by decide +kernel
theorem dL_advance_11 : decode cL_advance 11 = .ok (.ldc 24, 2) := by decide +kernel
theorem dL_advance_13 : decode cL_advance 13 = .ok (.ireturn, 1) := by decide +kernel
theorem dL_stateOf_0 : decode cL_stateOf 0 = .ok (.aload_n 0, 1) := by decide +kernel
theorem dL_stateOf_1 : decode cL_stateOf 1 = .ok (.iload_n 1, 1) := by decide +kernel
theorem dL_stateOf_2 : decode cL_stateOf 2 = .ok (.invokevirtual 86, 3) := by decide +kernel
theorem dL_stateOf_5 : decode cL_stateOf 5 = .ok (.ireturn, 1) := by decide +kernel
theorem dL_stateOf_6 : decode cL_stateOf 6 = .ok (.astore_n 2, 1) := by decide +kernel
theorem dL_stateOf_7 : decode cL_stateOf 7 = .ok (.ldc 34, 2) := by decide +kernel
theorem dL_stateOf_9 : decode cL_stateOf 9 = .ok (.ireturn, 1) := by decide +kernel
theorem dL_lotOf_0 : decode cL_lotOf 0 = .ok (.aload_n 0, 1) := by decide +kernel
theorem dL_lotOf_1 : decode cL_lotOf 1 = .ok (.iload_n 1, 1) := by decide +kernel
theorem dL_lotOf_2 : decode cL_lotOf 2 = .ok (.invokevirtual 89, 3) := by decide +kernel
theorem dL_lotOf_5 : decode cL_lotOf 5 = .ok (.ireturn, 1) := by decide +kernel
theorem dL_lotOf_6 : decode cL_lotOf 6 = .ok (.astore_n 2, 1) := by decide +kernel
theorem dL_lotOf_7 : decode cL_lotOf 7 = .ok (.ldc 34, 2) := by decide +kernel
theorem dL_lotOf_9 : decode cL_lotOf 9 = .ok (.ireturn, 1) := by decide +kernel
theorem dL_lotOf_10 : decode cL_lotOf 10 = .ok (.astore_n 2, 1) := by decide +kernel
theorem dL_lotOf_11 : decode cL_lotOf 11 = .ok (.ldc 94, 2) := by decide +kernel
theorem dL_lotOf_13 : decode cL_lotOf 13 = .ok (.ireturn, 1) := by decide +kernel
theorem dL_finishedAt_0 : decode cL_finishedAt 0 = .ok (.aload_n 0, 1) := by decide +kernel
theorem dL_finishedAt_1 : decode cL_finishedAt 1 = .ok (.iload_n 1, 1) := by decide +kernel
theorem dL_finishedAt_2 : decode cL_finishedAt 2 = .ok (.invokevirtual 95, 3) := by decide +kernel
theorem dL_finishedAt_5 : decode cL_finishedAt 5 = .ok (.ireturn, 1) := by decide +kernel
theorem dL_finishedAt_6 : decode cL_finishedAt 6 = .ok (.astore_n 2, 1) := by decide +kernel
theorem dL_finishedAt_7 : decode cL_finishedAt 7 = .ok (.ldc 34, 2) := by decide +kernel
theorem dL_finishedAt_9 : decode cL_finishedAt 9 = .ok (.ireturn, 1) := by decide +kernel
theorem dL_finishedAt_10 : decode cL_finishedAt 10 = .ok (.astore_n 2, 1) := by decide +kernel
theorem dL_finishedAt_11 : decode cL_finishedAt 11 = .ok (.ldc 94, 2) := by decide +kernel
theorem dL_finishedAt_13 : decode cL_finishedAt 13 = .ok (.ireturn, 1) := by decide +kernel
theorem dL_machineIs_0 : decode cL_machineIs 0 = .ok (.aload_n 0, 1) := by decide +kernel
theorem dL_machineIs_1 : decode cL_machineIs 1 = .ok (.iload_n 1, 1) := by decide +kernel
theorem dL_machineIs_2 : decode cL_machineIs 2 = .ok (.invokevirtual 98, 3) := by decide +kernel
theorem dL_machineIs_5 : decode cL_machineIs 5 = .ok (.ireturn, 1) := by decide +kernel
theorem dL_machineIs_6 : decode cL_machineIs 6 = .ok (.astore_n 2, 1) := by decide +kernel
theorem dL_machineIs_7 : decode cL_machineIs 7 = .ok (.ldc 34, 2) := by decide +kernel
theorem dL_machineIs_9 : decode cL_machineIs 9 = .ok (.ireturn, 1) := by decide +kernel
theorem dL_touched_0 : decode cL_touched 0 = .ok (.aload_n 0, 1) := by decide +kernel
theorem dL_touched_1 : decode cL_touched 1 = .ok (.iload_n 1, 1) := by decide +kernel
theorem dL_touched_2 : decode cL_touched 2 = .ok (.invokevirtual 107, 3) := by decide +kernel
theorem dL_touched_5 : decode cL_touched 5 = .ok (.ireturn, 1) := by decide +kernel
theorem dL_touched_6 : decode cL_touched 6 = .ok (.astore_n 2, 1) := by decide +kernel
theorem dL_touched_7 : decode cL_touched 7 = .ok (.ldc 34, 2) := by decide +kernel
theorem dL_touched_9 : decode cL_touched 9 = .ok (.ireturn, 1) := by decide +kernel
theorem dL_lotsIn_0 : decode cL_lotsIn 0 = .ok (.aload_n 0, 1) := by decide +kernel
theorem dL_lotsIn_1 : decode cL_lotsIn 1 = .ok (.iload_n 1, 1) := by decide +kernel
theorem dL_lotsIn_2 : decode cL_lotsIn 2 = .ok (.invokevirtual 110, 3) := by decide +kernel
theorem dL_lotsIn_5 : decode cL_lotsIn 5 = .ok (.ireturn, 1) := by decide +kernel
theorem dL_lotsIn_6 : decode cL_lotsIn 6 = .ok (.astore_n 2, 1) := by decide +kernel
theorem dL_lotsIn_7 : decode cL_lotsIn 7 = .ok (.ldc 34, 2) := by decide +kernel
theorem dL_lotsIn_9 : decode cL_lotsIn 9 = .ok (.ireturn, 1) := by decide +kernel
theorem dL_deliveredCost_0 : decode cL_deliveredCost 0 = .ok (.aload_n 0, 1) := by decide +kernel
theorem dL_deliveredCost_1 : decode cL_deliveredCost 1 = .ok (.iload_n 1, 1) := by decide +kernel
theorem dL_deliveredCost_2 : decode cL_deliveredCost 2 = .ok (.invokevirtual 113, 3) := by decide +kernel
theorem dL_deliveredCost_5 : decode cL_deliveredCost 5 = .ok (.lreturn, 1) := by decide +kernel
theorem dL_deliveredCost_6 : decode cL_deliveredCost 6 = .ok (.astore_n 2, 1) := by decide +kernel
theorem dL_deliveredCost_7 : decode cL_deliveredCost 7 = .ok (.ldc2_w 71, 3) := by decide +kernel
theorem dL_deliveredCost_10 : decode cL_deliveredCost 10 = .ok (.lreturn, 1) := by decide +kernel
theorem dL_deliveredCost_11 : decode cL_deliveredCost 11 = .ok (.astore_n 2, 1) := by decide +kernel
theorem dL_deliveredCost_12 : decode cL_deliveredCost 12 = .ok (.ldc2_w 116, 3) := by decide +kernel
theorem dL_deliveredCost_15 : decode cL_deliveredCost 15 = .ok (.lreturn, 1) := by decide +kernel
theorem dL_is_0 : decode cL_is 0 = .ok (.iload_n 1, 1) := by decide +kernel
theorem dL_is_1 : decode cL_is 1 = .ok (.bipush 104, 2) := by decide +kernel
theorem dL_is_3 : decode cL_is 3 = .ok (.if_icmp .ne 14, 3) := by decide +kernel
theorem dL_is_6 : decode cL_is 6 = .ok (.aload_n 0, 1) := by decide +kernel
theorem dL_is_7 : decode cL_is 7 = .ok (.iload_n 2, 1) := by decide +kernel
theorem dL_is_8 : decode cL_is 8 = .ok (.invokevirtual 118, 3) := by decide +kernel
theorem dL_is_11 : decode cL_is 11 = .ok (.ifCond .eq 88, 3) := by decide +kernel
theorem dL_is_14 : decode cL_is 14 = .ok (.goto 81, 3) := by decide +kernel
theorem dL_is_17 : decode cL_is 17 = .ok (.iload_n 1, 1) := by decide +kernel
theorem dL_is_18 : decode cL_is 18 = .ok (.bipush 109, 2) := by decide +kernel
theorem dL_is_20 : decode cL_is 20 = .ok (.if_icmp .ne 15, 3) := by decide +kernel
theorem dL_is_23 : decode cL_is 23 = .ok (.aload_n 0, 1) := by decide +kernel
theorem dL_is_24 : decode cL_is 24 = .ok (.iload_n 2, 1) := by decide +kernel
theorem dL_is_25 : decode cL_is 25 = .ok (.iload_n 3, 1) := by decide +kernel
theorem dL_is_26 : decode cL_is 26 = .ok (.invokevirtual 122, 3) := by decide +kernel
theorem dL_is_29 : decode cL_is 29 = .ok (.ifCond .eq 70, 3) := by decide +kernel
theorem dL_is_32 : decode cL_is 32 = .ok (.goto 63, 3) := by decide +kernel
theorem dL_is_35 : decode cL_is 35 = .ok (.iload_n 1, 1) := by decide +kernel
theorem dL_is_36 : decode cL_is 36 = .ok (.bipush 112, 2) := by decide +kernel
theorem dL_is_38 : decode cL_is 38 = .ok (.if_icmp .ne 14, 3) := by decide +kernel
theorem dL_is_41 : decode cL_is 41 = .ok (.aload_n 0, 1) := by decide +kernel
theorem dL_is_42 : decode cL_is 42 = .ok (.iload_n 2, 1) := by decide +kernel
theorem dL_is_43 : decode cL_is 43 = .ok (.invokevirtual 126, 3) := by decide +kernel
theorem dL_is_46 : decode cL_is 46 = .ok (.ifCond .eq 53, 3) := by decide +kernel
theorem dL_is_49 : decode cL_is 49 = .ok (.goto 46, 3) := by decide +kernel
theorem dL_is_52 : decode cL_is 52 = .ok (.iload_n 1, 1) := by decide +kernel
theorem dL_is_53 : decode cL_is 53 = .ok (.bipush 114, 2) := by decide +kernel
theorem dL_is_55 : decode cL_is 55 = .ok (.if_icmp .ne 14, 3) := by decide +kernel
theorem dL_is_58 : decode cL_is 58 = .ok (.aload_n 0, 1) := by decide +kernel
theorem dL_is_59 : decode cL_is 59 = .ok (.iload_n 2, 1) := by decide +kernel
theorem dL_is_60 : decode cL_is 60 = .ok (.invokevirtual 129, 3) := by decide +kernel
theorem dL_is_63 : decode cL_is 63 = .ok (.ifCond .eq 36, 3) := by decide +kernel
theorem dL_is_66 : decode cL_is 66 = .ok (.goto 29, 3) := by decide +kernel
theorem dL_is_69 : decode cL_is 69 = .ok (.iload_n 1, 1) := by decide +kernel
theorem dL_is_70 : decode cL_is 70 = .ok (.bipush 100, 2) := by decide +kernel
theorem dL_is_72 : decode cL_is 72 = .ok (.if_icmp .ne 14, 3) := by decide +kernel
theorem dL_is_75 : decode cL_is 75 = .ok (.aload_n 0, 1) := by decide +kernel
theorem dL_is_76 : decode cL_is 76 = .ok (.iload_n 2, 1) := by decide +kernel
theorem dL_is_77 : decode cL_is 77 = .ok (.invokevirtual 132, 3) := by decide +kernel
theorem dL_is_80 : decode cL_is 80 = .ok (.ifCond .eq 19, 3) := by decide +kernel
theorem dL_is_83 : decode cL_is 83 = .ok (.goto 12, 3) := by decide +kernel
theorem dL_is_86 : decode cL_is 86 = .ok (.aload_n 0, 1) := by decide +kernel
theorem dL_is_87 : decode cL_is 87 = .ok (.iload_n 2, 1) := by decide +kernel
theorem dL_is_88 : decode cL_is 88 = .ok (.iload_n 3, 1) := by decide +kernel
theorem dL_is_89 : decode cL_is 89 = .ok (.invokevirtual 135, 3) := by decide +kernel
theorem dL_is_92 : decode cL_is 92 = .ok (.ifCond .eq 7, 3) := by decide +kernel
theorem dL_is_95 : decode cL_is 95 = .ok (.iconst 1, 1) := by decide +kernel
theorem dL_is_96 : decode cL_is 96 = .ok (.goto 4, 3) := by decide +kernel
theorem dL_is_99 : decode cL_is 99 = .ok (.iconst 0, 1) := by decide +kernel
theorem dL_is_100 : decode cL_is 100 = .ok (.ireturn, 1) := by decide +kernel
theorem dL_is_101 : decode cL_is 101 = .ok (.astore 4, 2) := by decide +kernel
theorem dL_is_103 : decode cL_is 103 = .ok (.ldc 34, 2) := by decide +kernel
theorem dL_is_105 : decode cL_is 105 = .ok (.ireturn, 1) := by decide +kernel
theorem dL_is_106 : decode cL_is 106 = .ok (.astore 4, 2) := by decide +kernel
theorem dL_is_108 : decode cL_is 108 = .ok (.ldc 21, 2) := by decide +kernel
theorem dL_is_110 : decode cL_is 110 = .ok (.ireturn, 1) := by decide +kernel
theorem dL_is_111 : decode cL_is 111 = .ok (.astore 4, 2) := by decide +kernel
theorem dL_is_113 : decode cL_is 113 = .ok (.ldc 37, 2) := by decide +kernel
theorem dL_is_115 : decode cL_is 115 = .ok (.ireturn, 1) := by decide +kernel
theorem dL_traced_0 : decode cL_traced 0 = .ok (.iconst 0, 1) := by decide +kernel
theorem dL_traced_1 : decode cL_traced 1 = .ok (.istore_n 2, 1) := by decide +kernel
theorem dL_traced_2 : decode cL_traced 2 = .ok (.iconst 0, 1) := by decide +kernel
theorem dL_traced_3 : decode cL_traced 3 = .ok (.istore_n 3, 1) := by decide +kernel
theorem dL_traced_4 : decode cL_traced 4 = .ok (.iconst 0, 1) := by decide +kernel
theorem dL_traced_5 : decode cL_traced 5 = .ok (.istore 4, 2) := by decide +kernel
theorem dL_traced_7 : decode cL_traced 7 = .ok (.iload 4, 2) := by decide +kernel
theorem dL_traced_9 : decode cL_traced 9 = .ok (.aload_n 0, 1) := by decide +kernel
theorem dL_traced_10 : decode cL_traced 10 = .ok (.invokevirtual 138, 3) := by decide +kernel
theorem dL_traced_13 : decode cL_traced 13 = .ok (.if_icmp .ge 210, 3) := by decide +kernel
theorem dL_traced_16 : decode cL_traced 16 = .ok (.iload_n 2, 1) := by decide +kernel
theorem dL_traced_17 : decode cL_traced 17 = .ok (.aload_n 0, 1) := by decide +kernel
theorem dL_traced_18 : decode cL_traced 18 = .ok (.iload 4, 2) := by decide +kernel
theorem dL_traced_20 : decode cL_traced 20 = .ok (.invokestatic 142, 3) := by decide +kernel
theorem dL_traced_23 : decode cL_traced 23 = .ok (.iadd, 1) := by decide +kernel
theorem dL_traced_24 : decode cL_traced 24 = .ok (.istore_n 2, 1) := by decide +kernel
theorem dL_traced_25 : decode cL_traced 25 = .ok (.aload_n 0, 1) := by decide +kernel
theorem dL_traced_26 : decode cL_traced 26 = .ok (.iload 4, 2) := by decide +kernel
theorem dL_traced_28 : decode cL_traced 28 = .ok (.invokestatic 145, 3) := by decide +kernel
theorem dL_traced_31 : decode cL_traced 31 = .ok (.ifCond .lt 71, 3) := by decide +kernel
theorem dL_traced_34 : decode cL_traced 34 = .ok (.aload_n 0, 1) := by decide +kernel
theorem dL_traced_35 : decode cL_traced 35 = .ok (.iload 4, 2) := by decide +kernel
theorem dL_traced_37 : decode cL_traced 37 = .ok (.invokestatic 145, 3) := by decide +kernel
theorem dL_traced_40 : decode cL_traced 40 = .ok (.aload_n 0, 1) := by decide +kernel
theorem dL_traced_41 : decode cL_traced 41 = .ok (.iload 4, 2) := by decide +kernel
theorem dL_traced_43 : decode cL_traced 43 = .ok (.invokestatic 147, 3) := by decide +kernel
theorem dL_traced_46 : decode cL_traced 46 = .ok (.if_icmp .gt 56, 3) := by decide +kernel
theorem dL_traced_49 : decode cL_traced 49 = .ok (.aload_n 0, 1) := by decide +kernel
theorem dL_traced_50 : decode cL_traced 50 = .ok (.bipush 104, 2) := by decide +kernel
theorem dL_traced_52 : decode cL_traced 52 = .ok (.iload 4, 2) := by decide +kernel
theorem dL_traced_54 : decode cL_traced 54 = .ok (.iconst 0, 1) := by decide +kernel
theorem dL_traced_55 : decode cL_traced 55 = .ok (.invokestatic 149, 3) := by decide +kernel
theorem dL_traced_58 : decode cL_traced 58 = .ok (.iconst 1, 1) := by decide +kernel
theorem dL_traced_59 : decode cL_traced 59 = .ok (.if_icmp .ne 12, 3) := by decide +kernel
theorem dL_traced_62 : decode cL_traced 62 = .ok (.aload_n 0, 1) := by decide +kernel
theorem dL_traced_63 : decode cL_traced 63 = .ok (.iload 4, 2) := by decide +kernel
theorem dL_traced_65 : decode cL_traced 65 = .ok (.invokestatic 145, 3) := by decide +kernel
theorem dL_traced_68 : decode cL_traced 68 = .ok (.ifCond .gt 34, 3) := by decide +kernel
theorem dL_traced_71 : decode cL_traced 71 = .ok (.aload_n 0, 1) := by decide +kernel
theorem dL_traced_72 : decode cL_traced 72 = .ok (.iload 4, 2) := by decide +kernel
theorem dL_traced_74 : decode cL_traced 74 = .ok (.invokestatic 147, 3) := by decide +kernel
theorem dL_traced_77 : decode cL_traced 77 = .ok (.ifCond .ne 14, 3) := by decide +kernel
theorem dL_traced_80 : decode cL_traced 80 = .ok (.aload_n 0, 1) := by decide +kernel
theorem dL_traced_81 : decode cL_traced 81 = .ok (.iload 4, 2) := by decide +kernel
theorem dL_traced_83 : decode cL_traced 83 = .ok (.invokestatic 153, 3) := by decide +kernel
theorem dL_traced_86 : decode cL_traced 86 = .ok (.lconst 0, 1) := by decide +kernel
theorem dL_traced_87 : decode cL_traced 87 = .ok (.lcmp, 1) := by decide +kernel
theorem dL_traced_88 : decode cL_traced 88 = .ok (.ifCond .ne 14, 3) := by decide +kernel
theorem dL_traced_91 : decode cL_traced 91 = .ok (.aload_n 0, 1) := by decide +kernel
theorem dL_traced_92 : decode cL_traced 92 = .ok (.iload 4, 2) := by decide +kernel
theorem dL_traced_94 : decode cL_traced 94 = .ok (.invokestatic 153, 3) := by decide +kernel
theorem dL_traced_97 : decode cL_traced 97 = .ok (.lconst 0, 1) := by decide +kernel
theorem dL_traced_98 : decode cL_traced 98 = .ok (.lcmp, 1) := by decide +kernel
theorem dL_traced_99 : decode cL_traced 99 = .ok (.ifCond .ge 5, 3) := by decide +kernel
theorem dL_traced_102 : decode cL_traced 102 = .ok (.iconst 0, 1) := by decide +kernel
theorem dL_traced_103 : decode cL_traced 103 = .ok (.ireturn, 1) := by decide +kernel
theorem dL_traced_104 : decode cL_traced 104 = .ok (.iconst 0, 1) := by decide +kernel
theorem dL_traced_105 : decode cL_traced 105 = .ok (.istore 5, 2) := by decide +kernel
theorem dL_traced_107 : decode cL_traced 107 = .ok (.iload 5, 2) := by decide +kernel
theorem dL_traced_109 : decode cL_traced 109 = .ok (.aload_n 0, 1) := by decide +kernel
theorem dL_traced_110 : decode cL_traced 110 = .ok (.invokevirtual 138, 3) := by decide +kernel
theorem dL_traced_113 : decode cL_traced 113 = .ok (.if_icmp .ge 104, 3) := by decide +kernel
theorem dL_traced_116 : decode cL_traced 116 = .ok (.aload_n 0, 1) := by decide +kernel
theorem dL_traced_117 : decode cL_traced 117 = .ok (.bipush 105, 2) := by decide +kernel
theorem dL_traced_119 : decode cL_traced 119 = .ok (.iload 4, 2) := by decide +kernel
theorem dL_traced_121 : decode cL_traced 121 = .ok (.iload 5, 2) := by decide +kernel
theorem dL_traced_123 : decode cL_traced 123 = .ok (.invokestatic 149, 3) := by decide +kernel
theorem dL_traced_126 : decode cL_traced 126 = .ok (.iconst 1, 1) := by decide +kernel
theorem dL_traced_127 : decode cL_traced 127 = .ok (.if_icmp .eq 6, 3) := by decide +kernel
theorem dL_traced_130 : decode cL_traced 130 = .ok (.goto 81, 3) := by decide +kernel
theorem dL_traced_133 : decode cL_traced 133 = .ok (.iload 4, 2) := by decide +kernel
theorem dL_traced_135 : decode cL_traced 135 = .ok (.iload 5, 2) := by decide +kernel
theorem dL_traced_137 : decode cL_traced 137 = .ok (.if_icmp .ge 72, 3) := by decide +kernel
theorem dL_traced_140 : decode cL_traced 140 = .ok (.aload_n 0, 1) := by decide +kernel
theorem dL_traced_141 : decode cL_traced 141 = .ok (.bipush 105, 2) := by decide +kernel
theorem dL_traced_143 : decode cL_traced 143 = .ok (.iload 5, 2) := by decide +kernel
theorem dL_traced_145 : decode cL_traced 145 = .ok (.iload 4, 2) := by decide +kernel
theorem dL_traced_147 : decode cL_traced 147 = .ok (.invokestatic 149, 3) := by decide +kernel
theorem dL_traced_150 : decode cL_traced 150 = .ok (.ifCond .ne 59, 3) := by decide +kernel
theorem dL_traced_153 : decode cL_traced 153 = .ok (.aload_n 0, 1) := by decide +kernel
theorem dL_traced_154 : decode cL_traced 154 = .ok (.bipush 104, 2) := by decide +kernel
theorem dL_traced_156 : decode cL_traced 156 = .ok (.iload 4, 2) := by decide +kernel
theorem dL_traced_158 : decode cL_traced 158 = .ok (.iconst 0, 1) := by decide +kernel
theorem dL_traced_159 : decode cL_traced 159 = .ok (.invokestatic 149, 3) := by decide +kernel
theorem dL_traced_162 : decode cL_traced 162 = .ok (.iconst 1, 1) := by decide +kernel
theorem dL_traced_163 : decode cL_traced 163 = .ok (.if_icmp .ne 16, 3) := by decide +kernel
theorem dL_traced_166 : decode cL_traced 166 = .ok (.aload_n 0, 1) := by decide +kernel
theorem dL_traced_167 : decode cL_traced 167 = .ok (.bipush 104, 2) := by decide +kernel
theorem dL_traced_169 : decode cL_traced 169 = .ok (.iload 5, 2) := by decide +kernel
theorem dL_traced_171 : decode cL_traced 171 = .ok (.iconst 0, 1) := by decide +kernel
theorem dL_traced_172 : decode cL_traced 172 = .ok (.invokestatic 149, 3) := by decide +kernel
theorem dL_traced_175 : decode cL_traced 175 = .ok (.iconst 1, 1) := by decide +kernel
theorem dL_traced_176 : decode cL_traced 176 = .ok (.if_icmp .ne 33, 3) := by decide +kernel
theorem dL_traced_179 : decode cL_traced 179 = .ok (.aload_n 0, 1) := by decide +kernel
theorem dL_traced_180 : decode cL_traced 180 = .ok (.iload 4, 2) := by decide +kernel
theorem dL_traced_182 : decode cL_traced 182 = .ok (.invokestatic 142, 3) := by decide +kernel
theorem dL_traced_185 : decode cL_traced 185 = .ok (.aload_n 0, 1) := by decide +kernel
theorem dL_traced_186 : decode cL_traced 186 = .ok (.iload 5, 2) := by decide +kernel
theorem dL_traced_188 : decode cL_traced 188 = .ok (.invokestatic 142, 3) := by decide +kernel
theorem dL_traced_191 : decode cL_traced 191 = .ok (.if_icmp .lt 18, 3) := by decide +kernel
theorem dL_traced_194 : decode cL_traced 194 = .ok (.aload_n 0, 1) := by decide +kernel
theorem dL_traced_195 : decode cL_traced 195 = .ok (.iload 4, 2) := by decide +kernel
theorem dL_traced_197 : decode cL_traced 197 = .ok (.invokestatic 156, 3) := by decide +kernel
theorem dL_traced_200 : decode cL_traced 200 = .ok (.aload_n 0, 1) := by decide +kernel
theorem dL_traced_201 : decode cL_traced 201 = .ok (.iload 5, 2) := by decide +kernel
theorem dL_traced_203 : decode cL_traced 203 = .ok (.invokestatic 156, 3) := by decide +kernel
theorem dL_traced_206 : decode cL_traced 206 = .ok (.if_icmp .lt 5, 3) := by decide +kernel
theorem dL_traced_209 : decode cL_traced 209 = .ok (.iconst 0, 1) := by decide +kernel
theorem dL_traced_210 : decode cL_traced 210 = .ok (.ireturn, 1) := by decide +kernel
theorem dL_traced_211 : decode cL_traced 211 = .ok (.iinc 5 1, 3) := by decide +kernel
theorem dL_traced_214 : decode cL_traced 214 = .ok (.goto (-107), 3) := by decide +kernel
theorem dL_traced_217 : decode cL_traced 217 = .ok (.iinc 4 1, 3) := by decide +kernel
theorem dL_traced_220 : decode cL_traced 220 = .ok (.goto (-213), 3) := by decide +kernel
theorem dL_traced_223 : decode cL_traced 223 = .ok (.iconst 0, 1) := by decide +kernel
theorem dL_traced_224 : decode cL_traced 224 = .ok (.istore 4, 2) := by decide +kernel
theorem dL_traced_226 : decode cL_traced 226 = .ok (.iload 4, 2) := by decide +kernel
theorem dL_traced_228 : decode cL_traced 228 = .ok (.iload_n 1, 1) := by decide +kernel
theorem dL_traced_229 : decode cL_traced 229 = .ok (.if_icmp .ge 133, 3) := by decide +kernel
theorem dL_traced_232 : decode cL_traced 232 = .ok (.iload_n 3, 1) := by decide +kernel
theorem dL_traced_233 : decode cL_traced 233 = .ok (.aload_n 0, 1) := by decide +kernel
theorem dL_traced_234 : decode cL_traced 234 = .ok (.iload 4, 2) := by decide +kernel
theorem dL_traced_236 : decode cL_traced 236 = .ok (.invokestatic 158, 3) := by decide +kernel
theorem dL_traced_239 : decode cL_traced 239 = .ok (.iadd, 1) := by decide +kernel
theorem dL_traced_240 : decode cL_traced 240 = .ok (.istore_n 3, 1) := by decide +kernel
theorem dL_traced_241 : decode cL_traced 241 = .ok (.aload_n 0, 1) := by decide +kernel
theorem dL_traced_242 : decode cL_traced 242 = .ok (.iload 4, 2) := by decide +kernel
theorem dL_traced_244 : decode cL_traced 244 = .ok (.invokestatic 160, 3) := by decide +kernel
theorem dL_traced_247 : decode cL_traced 247 = .ok (.istore 5, 2) := by decide +kernel
theorem dL_traced_249 : decode cL_traced 249 = .ok (.aload_n 0, 1) := by decide +kernel
theorem dL_traced_250 : decode cL_traced 250 = .ok (.iload 4, 2) := by decide +kernel
theorem dL_traced_252 : decode cL_traced 252 = .ok (.invokestatic 158, 3) := by decide +kernel
theorem dL_traced_255 : decode cL_traced 255 = .ok (.ifCond .le 7, 3) := by decide +kernel
theorem dL_traced_258 : decode cL_traced 258 = .ok (.iconst 1, 1) := by decide +kernel
theorem dL_traced_259 : decode cL_traced 259 = .ok (.goto 4, 3) := by decide +kernel
theorem dL_traced_262 : decode cL_traced 262 = .ok (.iconst 0, 1) := by decide +kernel
theorem dL_traced_263 : decode cL_traced 263 = .ok (.iload 5, 2) := by decide +kernel
theorem dL_traced_265 : decode cL_traced 265 = .ok (.bipush 100, 2) := by decide +kernel
theorem dL_traced_267 : decode cL_traced 267 = .ok (.if_icmp .ne 7, 3) := by decide +kernel
theorem dL_traced_270 : decode cL_traced 270 = .ok (.iconst 1, 1) := by decide +kernel
theorem dL_traced_271 : decode cL_traced 271 = .ok (.goto 4, 3) := by decide +kernel
theorem dL_traced_274 : decode cL_traced 274 = .ok (.iconst 0, 1) := by decide +kernel
theorem dL_traced_275 : decode cL_traced 275 = .ok (.if_icmp .ne 59, 3) := by decide +kernel
theorem dL_traced_278 : decode cL_traced 278 = .ok (.aload_n 0, 1) := by decide +kernel
theorem dL_traced_279 : decode cL_traced 279 = .ok (.iload 4, 2) := by decide +kernel
theorem dL_traced_281 : decode cL_traced 281 = .ok (.invokestatic 162, 3) := by decide +kernel
theorem dL_traced_284 : decode cL_traced 284 = .ok (.lconst 0, 1) := by decide +kernel
theorem dL_traced_285 : decode cL_traced 285 = .ok (.lcmp, 1) := by decide +kernel
theorem dL_traced_286 : decode cL_traced 286 = .ok (.ifCond .lt 7, 3) := by decide +kernel
theorem dL_traced_289 : decode cL_traced 289 = .ok (.iconst 1, 1) := by decide +kernel
theorem dL_traced_290 : decode cL_traced 290 = .ok (.goto 4, 3) := by decide +kernel
theorem dL_traced_293 : decode cL_traced 293 = .ok (.iconst 0, 1) := by decide +kernel
theorem dL_traced_294 : decode cL_traced 294 = .ok (.iload 5, 2) := by decide +kernel
theorem dL_traced_296 : decode cL_traced 296 = .ok (.bipush 100, 2) := by decide +kernel
theorem dL_traced_298 : decode cL_traced 298 = .ok (.if_icmp .ne 7, 3) := by decide +kernel
theorem dL_traced_301 : decode cL_traced 301 = .ok (.iconst 1, 1) := by decide +kernel
theorem dL_traced_302 : decode cL_traced 302 = .ok (.goto 4, 3) := by decide +kernel
theorem dL_traced_305 : decode cL_traced 305 = .ok (.iconst 0, 1) := by decide +kernel
theorem dL_traced_306 : decode cL_traced 306 = .ok (.if_icmp .ne 28, 3) := by decide +kernel
theorem dL_traced_309 : decode cL_traced 309 = .ok (.iload 5, 2) := by decide +kernel
theorem dL_traced_311 : decode cL_traced 311 = .ok (.bipush 102, 2) := by decide +kernel
theorem dL_traced_313 : decode cL_traced 313 = .ok (.if_icmp .eq 23, 3) := by decide +kernel
theorem dL_traced_316 : decode cL_traced 316 = .ok (.iload 5, 2) := by decide +kernel
theorem dL_traced_318 : decode cL_traced 318 = .ok (.bipush 100, 2) := by decide +kernel
theorem dL_traced_320 : decode cL_traced 320 = .ok (.if_icmp .eq 16, 3) := by decide +kernel
theorem dL_traced_323 : decode cL_traced 323 = .ok (.aload_n 0, 1) := by decide +kernel
theorem dL_traced_324 : decode cL_traced 324 = .ok (.iload 4, 2) := by decide +kernel
theorem dL_traced_326 : decode cL_traced 326 = .ok (.invokestatic 164, 3) := by decide +kernel
theorem dL_traced_329 : decode cL_traced 329 = .ok (.ldc 94, 2) := by decide +kernel
theorem dL_traced_331 : decode cL_traced 331 = .ok (.if_icmp .eq 5, 3) := by decide +kernel
theorem dL_traced_334 : decode cL_traced 334 = .ok (.iconst 0, 1) := by decide +kernel
theorem dL_traced_335 : decode cL_traced 335 = .ok (.ireturn, 1) := by decide +kernel
theorem dL_traced_336 : decode cL_traced 336 = .ok (.aload_n 0, 1) := by decide +kernel
theorem dL_traced_337 : decode cL_traced 337 = .ok (.iload 4, 2) := by decide +kernel
theorem dL_traced_339 : decode cL_traced 339 = .ok (.invokestatic 164, 3) := by decide +kernel
theorem dL_traced_342 : decode cL_traced 342 = .ok (.ifCond .lt 14, 3) := by decide +kernel
theorem dL_traced_345 : decode cL_traced 345 = .ok (.aload_n 0, 1) := by decide +kernel
theorem dL_traced_346 : decode cL_traced 346 = .ok (.iload 4, 2) := by decide +kernel
theorem dL_traced_348 : decode cL_traced 348 = .ok (.invokestatic 166, 3) := by decide +kernel
theorem dL_traced_351 : decode cL_traced 351 = .ok (.ifCond .ge 5, 3) := by decide +kernel
theorem dL_traced_354 : decode cL_traced 354 = .ok (.iconst 0, 1) := by decide +kernel
theorem dL_traced_355 : decode cL_traced 355 = .ok (.ireturn, 1) := by decide +kernel
theorem dL_traced_356 : decode cL_traced 356 = .ok (.iinc 4 1, 3) := by decide +kernel
theorem dL_traced_359 : decode cL_traced 359 = .ok (.goto (-133), 3) := by decide +kernel
theorem dL_traced_362 : decode cL_traced 362 = .ok (.iload_n 2, 1) := by decide +kernel
theorem dL_traced_363 : decode cL_traced 363 = .ok (.iload_n 3, 1) := by decide +kernel
theorem dL_traced_364 : decode cL_traced 364 = .ok (.if_icmp .ne 7, 3) := by decide +kernel
theorem dL_traced_367 : decode cL_traced 367 = .ok (.iconst 1, 1) := by decide +kernel
theorem dL_traced_368 : decode cL_traced 368 = .ok (.goto 4, 3) := by decide +kernel
theorem dL_traced_371 : decode cL_traced 371 = .ok (.iconst 0, 1) := by decide +kernel
theorem dL_traced_372 : decode cL_traced 372 = .ok (.ireturn, 1) := by decide +kernel
theorem dL_law_0 : decode cL_law 0 = .ok (.new 14, 3) := by decide +kernel
theorem dL_law_3 : decode cL_law 3 = .ok (.dup, 1) := by decide +kernel
theorem dL_law_4 : decode cL_law 4 = .ok (.invokespecial 168, 3) := by decide +kernel
theorem dL_law_7 : decode cL_law 7 = .ok (.astore_n 1, 1) := by decide +kernel
theorem dL_law_8 : decode cL_law 8 = .ok (.iconst 0, 1) := by decide +kernel
theorem dL_law_9 : decode cL_law 9 = .ok (.istore_n 2, 1) := by decide +kernel
theorem dL_law_10 : decode cL_law 10 = .ok (.iconst 1, 1) := by decide +kernel
theorem dL_law_11 : decode cL_law 11 = .ok (.aload_n 0, 1) := by decide +kernel
theorem dL_law_12 : decode cL_law 12 = .ok (.iconst 0, 1) := by decide +kernel
theorem dL_law_13 : decode cL_law 13 = .ok (.iconst 3, 1) := by decide +kernel
theorem dL_law_14 : decode cL_law 14 = .ok (.invokestatic 169, 3) := by decide +kernel
theorem dL_law_17 : decode cL_law 17 = .ok (.iadd, 1) := by decide +kernel
theorem dL_law_18 : decode cL_law 18 = .ok (.istore_n 3, 1) := by decide +kernel
theorem dL_law_19 : decode cL_law 19 = .ok (.iconst 0, 1) := by decide +kernel
theorem dL_law_20 : decode cL_law 20 = .ok (.istore 4, 2) := by decide +kernel
theorem dL_law_22 : decode cL_law 22 = .ok (.lconst 0, 1) := by decide +kernel
theorem dL_law_23 : decode cL_law 23 = .ok (.lstore 5, 2) := by decide +kernel
theorem dL_law_25 : decode cL_law 25 = .ok (.iconst 0, 1) := by decide +kernel
theorem dL_law_26 : decode cL_law 26 = .ok (.istore 7, 2) := by decide +kernel
theorem dL_law_28 : decode cL_law 28 = .ok (.iload 7, 2) := by decide +kernel
theorem dL_law_30 : decode cL_law 30 = .ok (.iload_n 3, 1) := by decide +kernel
theorem dL_law_31 : decode cL_law 31 = .ok (.if_icmp .ge 54, 3) := by decide +kernel
theorem dL_law_34 : decode cL_law 34 = .ok (.aload_n 1, 1) := by decide +kernel
theorem dL_law_35 : decode cL_law 35 = .ok (.iconst 0, 1) := by decide +kernel
theorem dL_law_36 : decode cL_law 36 = .ok (.aload_n 0, 1) := by decide +kernel
theorem dL_law_37 : decode cL_law 37 = .ok (.iload 7, 2) := by decide +kernel
theorem dL_law_39 : decode cL_law 39 = .ok (.iconst 1, 1) := by decide +kernel
theorem dL_law_40 : decode cL_law 40 = .ok (.iadd, 1) := by decide +kernel
theorem dL_law_41 : decode cL_law 41 = .ok (.bipush 6, 2) := by decide +kernel
theorem dL_law_43 : decode cL_law 43 = .ok (.invokestatic 169, 3) := by decide +kernel
theorem dL_law_46 : decode cL_law 46 = .ok (.iconst 5, 1) := by decide +kernel
theorem dL_law_47 : decode cL_law 47 = .ok (.aload_n 0, 1) := by decide +kernel
theorem dL_law_48 : decode cL_law 48 = .ok (.iload 7, 2) := by decide +kernel
theorem dL_law_50 : decode cL_law 50 = .ok (.iconst 2, 1) := by decide +kernel
theorem dL_law_51 : decode cL_law 51 = .ok (.iadd, 1) := by decide +kernel
theorem dL_law_52 : decode cL_law 52 = .ok (.bipush 12, 2) := by decide +kernel
theorem dL_law_54 : decode cL_law 54 = .ok (.invokestatic 169, 3) := by decide +kernel
theorem dL_law_57 : decode cL_law 57 = .ok (.iadd, 1) := by decide +kernel
theorem dL_law_58 : decode cL_law 58 = .ok (.iconst 1, 1) := by decide +kernel
theorem dL_law_59 : decode cL_law 59 = .ok (.aload_n 0, 1) := by decide +kernel
theorem dL_law_60 : decode cL_law 60 = .ok (.iload 7, 2) := by decide +kernel
theorem dL_law_62 : decode cL_law 62 = .ok (.iconst 3, 1) := by decide +kernel
theorem dL_law_63 : decode cL_law 63 = .ok (.iadd, 1) := by decide +kernel
theorem dL_law_64 : decode cL_law 64 = .ok (.iconst 5, 1) := by decide +kernel
theorem dL_law_65 : decode cL_law 65 = .ok (.invokestatic 169, 3) := by decide +kernel
theorem dL_law_68 : decode cL_law 68 = .ok (.iadd, 1) := by decide +kernel
theorem dL_law_69 : decode cL_law 69 = .ok (.invokestatic 173, 3) := by decide +kernel
theorem dL_law_72 : decode cL_law 72 = .ok (.iload 7, 2) := by decide +kernel
theorem dL_law_74 : decode cL_law 74 = .ok (.if_icmp .eq 5, 3) := by decide +kernel
theorem dL_law_77 : decode cL_law 77 = .ok (.iconst 0, 1) := by decide +kernel
theorem dL_law_78 : decode cL_law 78 = .ok (.ireturn, 1) := by decide +kernel
theorem dL_law_79 : decode cL_law 79 = .ok (.iinc 7 1, 3) := by decide +kernel
theorem dL_law_82 : decode cL_law 82 = .ok (.goto (-54), 3) := by decide +kernel
theorem dL_law_85 : decode cL_law 85 = .ok (.iconst 0, 1) := by decide +kernel
theorem dL_law_86 : decode cL_law 86 = .ok (.istore 7, 2) := by decide +kernel
theorem dL_law_88 : decode cL_law 88 = .ok (.iload 7, 2) := by decide +kernel
theorem dL_law_90 : decode cL_law 90 = .ok (.bipush 6, 2) := by decide +kernel
theorem dL_law_92 : decode cL_law 92 = .ok (.if_icmp .ge 40, 3) := by decide +kernel
theorem dL_law_95 : decode cL_law 95 = .ok (.aload_n 1, 1) := by decide +kernel
theorem dL_law_96 : decode cL_law 96 = .ok (.iload 7, 2) := by decide +kernel
theorem dL_law_98 : decode cL_law 98 = .ok (.iconst 1, 1) := by decide +kernel
theorem dL_law_99 : decode cL_law 99 = .ok (.if_icmp .le 7, 3) := by decide +kernel
theorem dL_law_102 : decode cL_law 102 = .ok (.iconst 1, 1) := by decide +kernel
theorem dL_law_103 : decode cL_law 103 = .ok (.goto 4, 3) := by decide +kernel
theorem dL_law_106 : decode cL_law 106 = .ok (.iconst 0, 1) := by decide +kernel
theorem dL_law_107 : decode cL_law 107 = .ok (.aload_n 0, 1) := by decide +kernel
theorem dL_law_108 : decode cL_law 108 = .ok (.iload 7, 2) := by decide +kernel
theorem dL_law_110 : decode cL_law 110 = .ok (.iconst 4, 1) := by decide +kernel
theorem dL_law_111 : decode cL_law 111 = .ok (.iadd, 1) := by decide +kernel
theorem dL_law_112 : decode cL_law 112 = .ok (.iconst 4, 1) := by decide +kernel
theorem dL_law_113 : decode cL_law 113 = .ok (.invokestatic 169, 3) := by decide +kernel
theorem dL_law_116 : decode cL_law 116 = .ok (.invokestatic 176, 3) := by decide +kernel
theorem dL_law_119 : decode cL_law 119 = .ok (.iload 7, 2) := by decide +kernel
theorem dL_law_121 : decode cL_law 121 = .ok (.if_icmp .eq 5, 3) := by decide +kernel
theorem dL_law_124 : decode cL_law 124 = .ok (.iconst 0, 1) := by decide +kernel
theorem dL_law_125 : decode cL_law 125 = .ok (.ireturn, 1) := by decide +kernel
theorem dL_law_126 : decode cL_law 126 = .ok (.iinc 7 1, 3) := by decide +kernel
theorem dL_law_129 : decode cL_law 129 = .ok (.goto (-41), 3) := by decide +kernel
theorem dL_law_132 : decode cL_law 132 = .ok (.iconst 2, 1) := by decide +kernel
theorem dL_law_133 : decode cL_law 133 = .ok (.istore 7, 2) := by decide +kernel
theorem dL_law_135 : decode cL_law 135 = .ok (.iload 7, 2) := by decide +kernel
theorem dL_law_137 : decode cL_law 137 = .ok (.bipush 6, 2) := by decide +kernel
theorem dL_law_139 : decode cL_law 139 = .ok (.if_icmp .ge 156, 3) := by decide +kernel
theorem dL_law_142 : decode cL_law 142 = .ok (.iconst 0, 1) := by decide +kernel
theorem dL_law_143 : decode cL_law 143 = .ok (.istore 8, 2) := by decide +kernel
theorem dL_law_145 : decode cL_law 145 = .ok (.iload 8, 2) := by decide +kernel
theorem dL_law_147 : decode cL_law 147 = .ok (.iconst 2, 1) := by decide +kernel
theorem dL_law_148 : decode cL_law 148 = .ok (.if_icmp .ge 65, 3) := by decide +kernel
theorem dL_law_151 : decode cL_law 151 = .ok (.aload_n 1, 1) := by decide +kernel
theorem dL_law_152 : decode cL_law 152 = .ok (.iload 7, 2) := by decide +kernel
theorem dL_law_154 : decode cL_law 154 = .ok (.aload_n 0, 1) := by decide +kernel
theorem dL_law_155 : decode cL_law 155 = .ok (.bipush 10, 2) := by decide +kernel
theorem dL_law_157 : decode cL_law 157 = .ok (.iload 7, 2) := by decide +kernel
theorem dL_law_159 : decode cL_law 159 = .ok (.iadd, 1) := by decide +kernel
theorem dL_law_160 : decode cL_law 160 = .ok (.iload 8, 2) := by decide +kernel
theorem dL_law_162 : decode cL_law 162 = .ok (.iadd, 1) := by decide +kernel
theorem dL_law_163 : decode cL_law 163 = .ok (.iload 7, 2) := by decide +kernel
theorem dL_law_165 : decode cL_law 165 = .ok (.invokestatic 169, 3) := by decide +kernel
theorem dL_law_168 : decode cL_law 168 = .ok (.iconst 1, 1) := by decide +kernel
theorem dL_law_169 : decode cL_law 169 = .ok (.aload_n 0, 1) := by decide +kernel
theorem dL_law_170 : decode cL_law 170 = .ok (.bipush 16, 2) := by decide +kernel
theorem dL_law_172 : decode cL_law 172 = .ok (.iload 7, 2) := by decide +kernel
theorem dL_law_174 : decode cL_law 174 = .ok (.iadd, 1) := by decide +kernel
theorem dL_law_175 : decode cL_law 175 = .ok (.iload 8, 2) := by decide +kernel
theorem dL_law_177 : decode cL_law 177 = .ok (.iadd, 1) := by decide +kernel
theorem dL_law_178 : decode cL_law 178 = .ok (.iconst 2, 1) := by decide +kernel
theorem dL_law_179 : decode cL_law 179 = .ok (.invokestatic 169, 3) := by decide +kernel
theorem dL_law_182 : decode cL_law 182 = .ok (.iadd, 1) := by decide +kernel
theorem dL_law_183 : decode cL_law 183 = .ok (.aload_n 0, 1) := by decide +kernel
theorem dL_law_184 : decode cL_law 184 = .ok (.bipush 20, 2) := by decide +kernel
theorem dL_law_186 : decode cL_law 186 = .ok (.iload 7, 2) := by decide +kernel
theorem dL_law_188 : decode cL_law 188 = .ok (.iadd, 1) := by decide +kernel
theorem dL_law_189 : decode cL_law 189 = .ok (.iconst 3, 1) := by decide +kernel
theorem dL_law_190 : decode cL_law 190 = .ok (.invokestatic 169, 3) := by decide +kernel
theorem dL_law_193 : decode cL_law 193 = .ok (.iconst 1, 1) := by decide +kernel
theorem dL_law_194 : decode cL_law 194 = .ok (.isub, 1) := by decide +kernel
theorem dL_law_195 : decode cL_law 195 = .ok (.invokestatic 179, 3) := by decide +kernel
theorem dL_law_198 : decode cL_law 198 = .ok (.iload 8, 2) := by decide +kernel
theorem dL_law_200 : decode cL_law 200 = .ok (.iconst 1, 1) := by decide +kernel
theorem dL_law_201 : decode cL_law 201 = .ok (.iadd, 1) := by decide +kernel
theorem dL_law_202 : decode cL_law 202 = .ok (.if_icmp .eq 5, 3) := by decide +kernel
theorem dL_law_205 : decode cL_law 205 = .ok (.iconst 0, 1) := by decide +kernel
theorem dL_law_206 : decode cL_law 206 = .ok (.ireturn, 1) := by decide +kernel
theorem dL_law_207 : decode cL_law 207 = .ok (.iinc 8 1, 3) := by decide +kernel
theorem dL_law_210 : decode cL_law 210 = .ok (.goto (-65), 3) := by decide +kernel
theorem dL_law_213 : decode cL_law 213 = .ok (.aload_n 0, 1) := by decide +kernel
theorem dL_law_214 : decode cL_law 214 = .ok (.bipush 24, 2) := by decide +kernel
theorem dL_law_216 : decode cL_law 216 = .ok (.iload 7, 2) := by decide +kernel
theorem dL_law_218 : decode cL_law 218 = .ok (.iadd, 1) := by decide +kernel
theorem dL_law_219 : decode cL_law 219 = .ok (.iconst 3, 1) := by decide +kernel
theorem dL_law_220 : decode cL_law 220 = .ok (.invokestatic 169, 3) := by decide +kernel
theorem dL_law_223 : decode cL_law 223 = .ok (.istore 8, 2) := by decide +kernel
theorem dL_law_225 : decode cL_law 225 = .ok (.iload 8, 2) := by decide +kernel
theorem dL_law_227 : decode cL_law 227 = .ok (.ifCond .le 62, 3) := by decide +kernel
theorem dL_law_230 : decode cL_law 230 = .ok (.aload_n 1, 1) := by decide +kernel
theorem dL_law_231 : decode cL_law 231 = .ok (.iload 7, 2) := by decide +kernel
theorem dL_law_233 : decode cL_law 233 = .ok (.aload_n 0, 1) := by decide +kernel
theorem dL_law_234 : decode cL_law 234 = .ok (.bipush 30, 2) := by decide +kernel
theorem dL_law_236 : decode cL_law 236 = .ok (.iload 7, 2) := by decide +kernel
theorem dL_law_238 : decode cL_law 238 = .ok (.iadd, 1) := by decide +kernel
theorem dL_law_239 : decode cL_law 239 = .ok (.iload 8, 2) := by decide +kernel
theorem dL_law_241 : decode cL_law 241 = .ok (.iadd, 1) := by decide +kernel
theorem dL_law_242 : decode cL_law 242 = .ok (.iload_n 3, 1) := by decide +kernel
theorem dL_law_243 : decode cL_law 243 = .ok (.invokestatic 169, 3) := by decide +kernel
theorem dL_law_246 : decode cL_law 246 = .ok (.aload_n 0, 1) := by decide +kernel
theorem dL_law_247 : decode cL_law 247 = .ok (.bipush 34, 2) := by decide +kernel
theorem dL_law_249 : decode cL_law 249 = .ok (.iload 7, 2) := by decide +kernel
theorem dL_law_251 : decode cL_law 251 = .ok (.iadd, 1) := by decide +kernel
theorem dL_law_252 : decode cL_law 252 = .ok (.iload 8, 2) := by decide +kernel
theorem dL_law_254 : decode cL_law 254 = .ok (.iadd, 1) := by decide +kernel
theorem dL_law_255 : decode cL_law 255 = .ok (.iload_n 3, 1) := by decide +kernel
theorem dL_law_256 : decode cL_law 256 = .ok (.iconst 1, 1) := by decide +kernel
theorem dL_law_257 : decode cL_law 257 = .ok (.iadd, 1) := by decide +kernel
theorem dL_law_258 : decode cL_law 258 = .ok (.invokestatic 169, 3) := by decide +kernel
theorem dL_law_261 : decode cL_law 261 = .ok (.iconst 1, 1) := by decide +kernel
theorem dL_law_262 : decode cL_law 262 = .ok (.isub, 1) := by decide +kernel
theorem dL_law_263 : decode cL_law 263 = .ok (.iconst 1, 1) := by decide +kernel
theorem dL_law_264 : decode cL_law 264 = .ok (.aload_n 0, 1) := by decide +kernel
theorem dL_law_265 : decode cL_law 265 = .ok (.bipush 38, 2) := by decide +kernel
theorem dL_law_267 : decode cL_law 267 = .ok (.iload 7, 2) := by decide +kernel
theorem dL_law_269 : decode cL_law 269 = .ok (.iadd, 1) := by decide +kernel
theorem dL_law_270 : decode cL_law 270 = .ok (.iconst 3, 1) := by decide +kernel
theorem dL_law_271 : decode cL_law 271 = .ok (.invokestatic 169, 3) := by decide +kernel
theorem dL_law_274 : decode cL_law 274 = .ok (.iadd, 1) := by decide +kernel
theorem dL_law_275 : decode cL_law 275 = .ok (.invokestatic 181, 3) := by decide +kernel
theorem dL_law_278 : decode cL_law 278 = .ok (.ifCond .ge 5, 3) := by decide +kernel
theorem dL_law_281 : decode cL_law 281 = .ok (.iconst 0, 1) := by decide +kernel
theorem dL_law_282 : decode cL_law 282 = .ok (.ireturn, 1) := by decide +kernel
theorem dL_law_283 : decode cL_law 283 = .ok (.iinc 8 (-1), 3) := by decide +kernel
theorem dL_law_286 : decode cL_law 286 = .ok (.goto (-61), 3) := by decide +kernel
theorem dL_law_289 : decode cL_law 289 = .ok (.iinc 7 1, 3) := by decide +kernel
theorem dL_law_292 : decode cL_law 292 = .ok (.goto (-157), 3) := by decide +kernel
theorem dL_law_295 : decode cL_law 295 = .ok (.iconst 0, 1) := by decide +kernel
theorem dL_law_296 : decode cL_law 296 = .ok (.istore 7, 2) := by decide +kernel
theorem dL_law_298 : decode cL_law 298 = .ok (.iload 7, 2) := by decide +kernel
theorem dL_law_300 : decode cL_law 300 = .ok (.bipush 60, 2) := by decide +kernel
theorem dL_law_302 : decode cL_law 302 = .ok (.if_icmp .ge 1048, 3) := by decide +kernel
theorem dL_law_305 : decode cL_law 305 = .ok (.bipush 40, 2) := by decide +kernel
theorem dL_law_307 : decode cL_law 307 = .ok (.iconst 5, 1) := by decide +kernel
theorem dL_law_308 : decode cL_law 308 = .ok (.iload 7, 2) := by decide +kernel
theorem dL_law_310 : decode cL_law 310 = .ok (.imul, 1) := by decide +kernel
theorem dL_law_311 : decode cL_law 311 = .ok (.iadd, 1) := by decide +kernel
theorem dL_law_312 : decode cL_law 312 = .ok (.istore 8, 2) := by decide +kernel
theorem dL_law_314 : decode cL_law 314 = .ok (.iload 7, 2) := by decide +kernel
theorem dL_law_316 : decode cL_law 316 = .ok (.iconst 5, 1) := by decide +kernel
theorem dL_law_317 : decode cL_law 317 = .ok (.if_icmp .ge 7, 3) := by decide +kernel
theorem dL_law_320 : decode cL_law 320 = .ok (.iconst 0, 1) := by decide +kernel
theorem dL_law_321 : decode cL_law 321 = .ok (.goto 11, 3) := by decide +kernel
theorem dL_law_324 : decode cL_law 324 = .ok (.aload_n 0, 1) := by decide +kernel
theorem dL_law_325 : decode cL_law 325 = .ok (.iload 8, 2) := by decide +kernel
theorem dL_law_327 : decode cL_law 327 = .ok (.bipush 12, 2) := by decide +kernel
theorem dL_law_329 : decode cL_law 329 = .ok (.invokestatic 169, 3) := by decide +kernel
theorem dL_law_332 : decode cL_law 332 = .ok (.istore 9, 2) := by decide +kernel
theorem dL_law_334 : decode cL_law 334 = .ok (.iload_n 2, 1) := by decide +kernel
theorem dL_law_335 : decode cL_law 335 = .ok (.ifCond .ne 7, 3) := by decide +kernel
theorem dL_law_338 : decode cL_law 338 = .ok (.iconst 0, 1) := by decide +kernel
theorem dL_law_339 : decode cL_law 339 = .ok (.goto 12, 3) := by decide +kernel
theorem dL_law_342 : decode cL_law 342 = .ok (.aload_n 0, 1) := by decide +kernel
theorem dL_law_343 : decode cL_law 343 = .ok (.iload 8, 2) := by decide +kernel
theorem dL_law_345 : decode cL_law 345 = .ok (.iconst 1, 1) := by decide +kernel
theorem dL_law_346 : decode cL_law 346 = .ok (.iadd, 1) := by decide +kernel
theorem dL_law_347 : decode cL_law 347 = .ok (.iload_n 2, 1) := by decide +kernel
theorem dL_law_348 : decode cL_law 348 = .ok (.invokestatic 169, 3) := by decide +kernel
theorem dL_law_351 : decode cL_law 351 = .ok (.istore 10, 2) := by decide +kernel
theorem dL_law_353 : decode cL_law 353 = .ok (.aload_n 1, 1) := by decide +kernel
theorem dL_law_354 : decode cL_law 354 = .ok (.invokevirtual 138, 3) := by decide +kernel
theorem dL_law_357 : decode cL_law 357 = .ok (.ifCond .ne 7, 3) := by decide +kernel
theorem dL_law_360 : decode cL_law 360 = .ok (.iconst 0, 1) := by decide +kernel
theorem dL_law_361 : decode cL_law 361 = .ok (.goto 15, 3) := by decide +kernel
theorem dL_law_364 : decode cL_law 364 = .ok (.aload_n 0, 1) := by decide +kernel
theorem dL_law_365 : decode cL_law 365 = .ok (.iload 8, 2) := by decide +kernel
theorem dL_law_367 : decode cL_law 367 = .ok (.iconst 2, 1) := by decide +kernel
theorem dL_law_368 : decode cL_law 368 = .ok (.iadd, 1) := by decide +kernel
theorem dL_law_369 : decode cL_law 369 = .ok (.aload_n 1, 1) := by decide +kernel
theorem dL_law_370 : decode cL_law 370 = .ok (.invokevirtual 138, 3) := by decide +kernel
theorem dL_law_373 : decode cL_law 373 = .ok (.invokestatic 169, 3) := by decide +kernel
theorem dL_law_376 : decode cL_law 376 = .ok (.istore 11, 2) := by decide +kernel
theorem dL_law_378 : decode cL_law 378 = .ok (.iload 9, 2) := by decide +kernel
theorem dL_law_380 : decode cL_law 380 = .ok (.iconst 2, 1) := by decide +kernel
theorem dL_law_381 : decode cL_law 381 = .ok (.if_icmp .ge 134, 3) := by decide +kernel
theorem dL_law_384 : decode cL_law 384 = .ok (.iconst 1, 1) := by decide +kernel
theorem dL_law_385 : decode cL_law 385 = .ok (.aload_n 0, 1) := by decide +kernel
theorem dL_law_386 : decode cL_law 386 = .ok (.iload 8, 2) := by decide +kernel
theorem dL_law_388 : decode cL_law 388 = .ok (.iconst 2, 1) := by decide +kernel
theorem dL_law_389 : decode cL_law 389 = .ok (.iadd, 1) := by decide +kernel
theorem dL_law_390 : decode cL_law 390 = .ok (.bipush 20, 2) := by decide +kernel
theorem dL_law_392 : decode cL_law 392 = .ok (.invokestatic 169, 3) := by decide +kernel
theorem dL_law_395 : decode cL_law 395 = .ok (.iadd, 1) := by decide +kernel
theorem dL_law_396 : decode cL_law 396 = .ok (.istore 12, 2) := by decide +kernel
theorem dL_law_398 : decode cL_law 398 = .ok (.aload_n 0, 1) := by decide +kernel
theorem dL_law_399 : decode cL_law 399 = .ok (.iload 8, 2) := by decide +kernel
theorem dL_law_401 : decode cL_law 401 = .ok (.iconst 3, 1) := by decide +kernel
theorem dL_law_402 : decode cL_law 402 = .ok (.iadd, 1) := by decide +kernel
theorem dL_law_403 : decode cL_law 403 = .ok (.bipush 9, 2) := by decide +kernel
theorem dL_law_405 : decode cL_law 405 = .ok (.invokestatic 169, 3) := by decide +kernel
theorem dL_law_408 : decode cL_law 408 = .ok (.istore 13, 2) := by decide +kernel
theorem dL_law_410 : decode cL_law 410 = .ok (.aload_n 1, 1) := by decide +kernel
theorem dL_law_411 : decode cL_law 411 = .ok (.invokevirtual 138, 3) := by decide +kernel
theorem dL_law_414 : decode cL_law 414 = .ok (.istore 14, 2) := by decide +kernel
theorem dL_law_416 : decode cL_law 416 = .ok (.aload_n 1, 1) := by decide +kernel
theorem dL_law_417 : decode cL_law 417 = .ok (.aload_n 0, 1) := by decide +kernel
theorem dL_law_418 : decode cL_law 418 = .ok (.iload 8, 2) := by decide +kernel
theorem dL_law_420 : decode cL_law 420 = .ok (.iconst 1, 1) := by decide +kernel
theorem dL_law_421 : decode cL_law 421 = .ok (.iadd, 1) := by decide +kernel
theorem dL_law_422 : decode cL_law 422 = .ok (.iconst 2, 1) := by decide +kernel
theorem dL_law_423 : decode cL_law 423 = .ok (.invokestatic 169, 3) := by decide +kernel
theorem dL_law_426 : decode cL_law 426 = .ok (.iload 12, 2) := by decide +kernel
theorem dL_law_428 : decode cL_law 428 = .ok (.iload 13, 2) := by decide +kernel
theorem dL_law_430 : decode cL_law 430 = .ok (.aload_n 0, 1) := by decide +kernel
theorem dL_law_431 : decode cL_law 431 = .ok (.iload 8, 2) := by decide +kernel
theorem dL_law_433 : decode cL_law 433 = .ok (.iconst 4, 1) := by decide +kernel
theorem dL_law_434 : decode cL_law 434 = .ok (.iadd, 1) := by decide +kernel
theorem dL_law_435 : decode cL_law 435 = .ok (.iconst 4, 1) := by decide +kernel
theorem dL_law_436 : decode cL_law 436 = .ok (.invokestatic 169, 3) := by decide +kernel
theorem dL_law_439 : decode cL_law 439 = .ok (.aload_n 0, 1) := by decide +kernel
theorem dL_law_440 : decode cL_law 440 = .ok (.iload 8, 2) := by decide +kernel
theorem dL_law_442 : decode cL_law 442 = .ok (.iconst 3, 1) := by decide +kernel
theorem dL_law_443 : decode cL_law 443 = .ok (.iadd, 1) := by decide +kernel
theorem dL_law_444 : decode cL_law 444 = .ok (.iconst 4, 1) := by decide +kernel
theorem dL_law_445 : decode cL_law 445 = .ok (.invokestatic 169, 3) := by decide +kernel
theorem dL_law_448 : decode cL_law 448 = .ok (.invokestatic 183, 3) := by decide +kernel
theorem dL_law_451 : decode cL_law 451 = .ok (.istore 15, 2) := by decide +kernel
theorem dL_law_453 : decode cL_law 453 = .ok (.iload 15, 2) := by decide +kernel
theorem dL_law_455 : decode cL_law 455 = .ok (.ldc 24, 2) := by decide +kernel
theorem dL_law_457 : decode cL_law 457 = .ok (.if_icmp .ne 6, 3) := by decide +kernel
theorem dL_law_460 : decode cL_law 460 = .ok (.goto 884, 3) := by decide +kernel
theorem dL_law_463 : decode cL_law 463 = .ok (.lload 5, 2) := by decide +kernel
theorem dL_law_465 : decode cL_law 465 = .ok (.iload 12, 2) := by decide +kernel
theorem dL_law_467 : decode cL_law 467 = .ok (.i2l, 1) := by decide +kernel
theorem dL_law_468 : decode cL_law 468 = .ok (.iload 13, 2) := by decide +kernel
theorem dL_law_470 : decode cL_law 470 = .ok (.i2l, 1) := by decide +kernel
theorem dL_law_471 : decode cL_law 471 = .ok (.lmul, 1) := by decide +kernel
theorem dL_law_472 : decode cL_law 472 = .ok (.ladd, 1) := by decide +kernel
theorem dL_law_473 : decode cL_law 473 = .ok (.lstore 5, 2) := by decide +kernel
theorem dL_law_475 : decode cL_law 475 = .ok (.iload 15, 2) := by decide +kernel
theorem dL_law_477 : decode cL_law 477 = .ok (.iload 14, 2) := by decide +kernel
theorem dL_law_479 : decode cL_law 479 = .ok (.if_icmp .ne 31, 3) := by decide +kernel
theorem dL_law_482 : decode cL_law 482 = .ok (.aload_n 1, 1) := by decide +kernel
theorem dL_law_483 : decode cL_law 483 = .ok (.iload 14, 2) := by decide +kernel
theorem dL_law_485 : decode cL_law 485 = .ok (.invokestatic 147, 3) := by decide +kernel
theorem dL_law_488 : decode cL_law 488 = .ok (.iload 12, 2) := by decide +kernel
theorem dL_law_490 : decode cL_law 490 = .ok (.if_icmp .ne 20, 3) := by decide +kernel
theorem dL_law_493 : decode cL_law 493 = .ok (.aload_n 1, 1) := by decide +kernel
theorem dL_law_494 : decode cL_law 494 = .ok (.iload 14, 2) := by decide +kernel
theorem dL_law_496 : decode cL_law 496 = .ok (.invokestatic 153, 3) := by decide +kernel
theorem dL_law_499 : decode cL_law 499 = .ok (.iload 12, 2) := by decide +kernel
theorem dL_law_501 : decode cL_law 501 = .ok (.i2l, 1) := by decide +kernel
theorem dL_law_502 : decode cL_law 502 = .ok (.iload 13, 2) := by decide +kernel
theorem dL_law_504 : decode cL_law 504 = .ok (.i2l, 1) := by decide +kernel
theorem dL_law_505 : decode cL_law 505 = .ok (.lmul, 1) := by decide +kernel
theorem dL_law_506 : decode cL_law 506 = .ok (.lcmp, 1) := by decide +kernel
theorem dL_law_507 : decode cL_law 507 = .ok (.ifCond .eq 5, 3) := by decide +kernel
theorem dL_law_510 : decode cL_law 510 = .ok (.iconst 0, 1) := by decide +kernel
theorem dL_law_511 : decode cL_law 511 = .ok (.ireturn, 1) := by decide +kernel
theorem dL_law_512 : decode cL_law 512 = .ok (.goto 573, 3) := by decide +kernel
theorem dL_law_515 : decode cL_law 515 = .ok (.iload 9, 2) := by decide +kernel
theorem dL_law_517 : decode cL_law 517 = .ok (.iconst 4, 1) := by decide +kernel
theorem dL_law_518 : decode cL_law 518 = .ok (.if_icmp .ge 79, 3) := by decide +kernel
theorem dL_law_521 : decode cL_law 521 = .ok (.aload_n 1, 1) := by decide +kernel
theorem dL_law_522 : decode cL_law 522 = .ok (.aload_n 0, 1) := by decide +kernel
theorem dL_law_523 : decode cL_law 523 = .ok (.iload 8, 2) := by decide +kernel
theorem dL_law_525 : decode cL_law 525 = .ok (.iconst 1, 1) := by decide +kernel
theorem dL_law_526 : decode cL_law 526 = .ok (.iadd, 1) := by decide +kernel
theorem dL_law_527 : decode cL_law 527 = .ok (.bipush 6, 2) := by decide +kernel
theorem dL_law_529 : decode cL_law 529 = .ok (.invokestatic 169, 3) := by decide +kernel
theorem dL_law_532 : decode cL_law 532 = .ok (.iconst 1, 1) := by decide +kernel
theorem dL_law_533 : decode cL_law 533 = .ok (.aload_n 0, 1) := by decide +kernel
theorem dL_law_534 : decode cL_law 534 = .ok (.iload 8, 2) := by decide +kernel
theorem dL_law_536 : decode cL_law 536 = .ok (.iconst 2, 1) := by decide +kernel
theorem dL_law_537 : decode cL_law 537 = .ok (.iadd, 1) := by decide +kernel
theorem dL_law_538 : decode cL_law 538 = .ok (.iconst 5, 1) := by decide +kernel
theorem dL_law_539 : decode cL_law 539 = .ok (.invokestatic 169, 3) := by decide +kernel
theorem dL_law_542 : decode cL_law 542 = .ok (.iadd, 1) := by decide +kernel
theorem dL_law_543 : decode cL_law 543 = .ok (.aload_n 0, 1) := by decide +kernel
theorem dL_law_544 : decode cL_law 544 = .ok (.iload 8, 2) := by decide +kernel
theorem dL_law_546 : decode cL_law 546 = .ok (.iconst 3, 1) := by decide +kernel
theorem dL_law_547 : decode cL_law 547 = .ok (.iadd, 1) := by decide +kernel
theorem dL_law_548 : decode cL_law 548 = .ok (.iconst 3, 1) := by decide +kernel
theorem dL_law_549 : decode cL_law 549 = .ok (.invokestatic 169, 3) := by decide +kernel
theorem dL_law_552 : decode cL_law 552 = .ok (.aload_n 0, 1) := by decide +kernel
theorem dL_law_553 : decode cL_law 553 = .ok (.iload 8, 2) := by decide +kernel
theorem dL_law_555 : decode cL_law 555 = .ok (.iconst 4, 1) := by decide +kernel
theorem dL_law_556 : decode cL_law 556 = .ok (.iadd, 1) := by decide +kernel
theorem dL_law_557 : decode cL_law 557 = .ok (.bipush 90, 2) := by decide +kernel
theorem dL_law_559 : decode cL_law 559 = .ok (.invokestatic 169, 3) := by decide +kernel
theorem dL_law_562 : decode cL_law 562 = .ok (.invokestatic 186, 3) := by decide +kernel
theorem dL_law_565 : decode cL_law 565 = .ok (.istore 12, 2) := by decide +kernel
theorem dL_law_567 : decode cL_law 567 = .ok (.iload 12, 2) := by decide +kernel
theorem dL_law_569 : decode cL_law 569 = .ok (.iload_n 2, 1) := by decide +kernel
theorem dL_law_570 : decode cL_law 570 = .ok (.bipush 30, 2) := by decide +kernel
theorem dL_law_572 : decode cL_law 572 = .ok (.if_icmp .ne 8, 3) := by decide +kernel
theorem dL_law_575 : decode cL_law 575 = .ok (.ldc 24, 2) := by decide +kernel
theorem dL_law_577 : decode cL_law 577 = .ok (.goto 4, 3) := by decide +kernel
theorem dL_law_580 : decode cL_law 580 = .ok (.iload_n 2, 1) := by decide +kernel
theorem dL_law_581 : decode cL_law 581 = .ok (.if_icmp .eq 5, 3) := by decide +kernel
theorem dL_law_584 : decode cL_law 584 = .ok (.iconst 0, 1) := by decide +kernel
theorem dL_law_585 : decode cL_law 585 = .ok (.ireturn, 1) := by decide +kernel
theorem dL_law_586 : decode cL_law 586 = .ok (.iload 12, 2) := by decide +kernel
theorem dL_law_588 : decode cL_law 588 = .ok (.ifCond .lt 6, 3) := by decide +kernel
theorem dL_law_591 : decode cL_law 591 = .ok (.iinc 2 1, 3) := by decide +kernel
theorem dL_law_594 : decode cL_law 594 = .ok (.goto 491, 3) := by decide +kernel
theorem dL_law_597 : decode cL_law 597 = .ok (.iload 9, 2) := by decide +kernel
theorem dL_law_599 : decode cL_law 599 = .ok (.bipush 7, 2) := by decide +kernel
theorem dL_law_601 : decode cL_law 601 = .ok (.if_icmp .ge 65, 3) := by decide +kernel
theorem dL_law_604 : decode cL_law 604 = .ok (.iload_n 2, 1) := by decide +kernel
theorem dL_law_605 : decode cL_law 605 = .ok (.ifCond .le 61, 3) := by decide +kernel
theorem dL_law_608 : decode cL_law 608 = .ok (.aload_n 1, 1) := by decide +kernel
theorem dL_law_609 : decode cL_law 609 = .ok (.iload 10, 2) := by decide +kernel
theorem dL_law_611 : decode cL_law 611 = .ok (.invokestatic 160, 3) := by decide +kernel
theorem dL_law_614 : decode cL_law 614 = .ok (.istore 12, 2) := by decide +kernel
theorem dL_law_616 : decode cL_law 616 = .ok (.aload_n 1, 1) := by decide +kernel
theorem dL_law_617 : decode cL_law 617 = .ok (.bipush 114, 2) := by decide +kernel
theorem dL_law_619 : decode cL_law 619 = .ok (.iload 10, 2) := by decide +kernel
theorem dL_law_621 : decode cL_law 621 = .ok (.iconst 0, 1) := by decide +kernel
theorem dL_law_622 : decode cL_law 622 = .ok (.invokestatic 149, 3) := by decide +kernel
theorem dL_law_625 : decode cL_law 625 = .ok (.istore 13, 2) := by decide +kernel
theorem dL_law_627 : decode cL_law 627 = .ok (.iload 13, 2) := by decide +kernel
theorem dL_law_629 : decode cL_law 629 = .ok (.iconst 1, 1) := by decide +kernel
theorem dL_law_630 : decode cL_law 630 = .ok (.if_icmp .ne 20, 3) := by decide +kernel
theorem dL_law_633 : decode cL_law 633 = .ok (.ldc 188, 2) := by decide +kernel
theorem dL_law_635 : decode cL_law 635 = .ok (.aload_n 1, 1) := by decide +kernel
theorem dL_law_636 : decode cL_law 636 = .ok (.iload 10, 2) := by decide +kernel
theorem dL_law_638 : decode cL_law 638 = .ok (.invokestatic 160, 3) := by decide +kernel
theorem dL_law_641 : decode cL_law 641 = .ok (.invokevirtual 190, 3) := by decide +kernel
theorem dL_law_644 : decode cL_law 644 = .ok (.ifCond .ge 19, 3) := by decide +kernel
theorem dL_law_647 : decode cL_law 647 = .ok (.goto 14, 3) := by decide +kernel
theorem dL_law_650 : decode cL_law 650 = .ok (.aload_n 1, 1) := by decide +kernel
theorem dL_law_651 : decode cL_law 651 = .ok (.iload 10, 2) := by decide +kernel
theorem dL_law_653 : decode cL_law 653 = .ok (.invokestatic 160, 3) := by decide +kernel
theorem dL_law_656 : decode cL_law 656 = .ok (.iload 12, 2) := by decide +kernel
theorem dL_law_658 : decode cL_law 658 = .ok (.if_icmp .eq 5, 3) := by decide +kernel
theorem dL_law_661 : decode cL_law 661 = .ok (.iconst 0, 1) := by decide +kernel
theorem dL_law_662 : decode cL_law 662 = .ok (.ireturn, 1) := by decide +kernel
theorem dL_law_663 : decode cL_law 663 = .ok (.goto 422, 3) := by decide +kernel
theorem dL_law_666 : decode cL_law 666 = .ok (.iload 9, 2) := by decide +kernel
theorem dL_law_668 : decode cL_law 668 = .ok (.bipush 7, 2) := by decide +kernel
theorem dL_law_670 : decode cL_law 670 = .ok (.if_icmp .ne 188, 3) := by decide +kernel
theorem dL_law_673 : decode cL_law 673 = .ok (.iload_n 2, 1) := by decide +kernel
theorem dL_law_674 : decode cL_law 674 = .ok (.ifCond .le 184, 3) := by decide +kernel
theorem dL_law_677 : decode cL_law 677 = .ok (.aload_n 1, 1) := by decide +kernel
theorem dL_law_678 : decode cL_law 678 = .ok (.iload 10, 2) := by decide +kernel
theorem dL_law_680 : decode cL_law 680 = .ok (.invokestatic 160, 3) := by decide +kernel
theorem dL_law_683 : decode cL_law 683 = .ok (.bipush 45, 2) := by decide +kernel
theorem dL_law_685 : decode cL_law 685 = .ok (.if_icmp .ne 173, 3) := by decide +kernel
theorem dL_law_688 : decode cL_law 688 = .ok (.bipush 100, 2) := by decide +kernel
theorem dL_law_690 : decode cL_law 690 = .ok (.newarray .int, 2) := by decide +kernel
theorem dL_law_692 : decode cL_law 692 = .ok (.astore 12, 2) := by decide +kernel
theorem dL_law_694 : decode cL_law 694 = .ok (.iconst 0, 1) := by decide +kernel
theorem dL_law_695 : decode cL_law 695 = .ok (.istore 13, 2) := by decide +kernel
theorem dL_law_697 : decode cL_law 697 = .ok (.iload 13, 2) := by decide +kernel
theorem dL_law_699 : decode cL_law 699 = .ok (.aload_n 1, 1) := by decide +kernel
theorem dL_law_700 : decode cL_law 700 = .ok (.invokevirtual 138, 3) := by decide +kernel
theorem dL_law_703 : decode cL_law 703 = .ok (.if_icmp .ge 20, 3) := by decide +kernel
theorem dL_law_706 : decode cL_law 706 = .ok (.aload 12, 2) := by decide +kernel
theorem dL_law_708 : decode cL_law 708 = .ok (.iload 13, 2) := by decide +kernel
theorem dL_law_710 : decode cL_law 710 = .ok (.aload_n 1, 1) := by decide +kernel
theorem dL_law_711 : decode cL_law 711 = .ok (.iload 13, 2) := by decide +kernel
theorem dL_law_713 : decode cL_law 713 = .ok (.invokestatic 145, 3) := by decide +kernel
theorem dL_law_716 : decode cL_law 716 = .ok (.iastore, 1) := by decide +kernel
theorem dL_law_717 : decode cL_law 717 = .ok (.iinc 13 1, 3) := by decide +kernel
theorem dL_law_720 : decode cL_law 720 = .ok (.goto (-23), 3) := by decide +kernel
theorem dL_law_723 : decode cL_law 723 = .ok (.aload_n 1, 1) := by decide +kernel
theorem dL_law_724 : decode cL_law 724 = .ok (.bipush 112, 2) := by decide +kernel
theorem dL_law_726 : decode cL_law 726 = .ok (.iload 10, 2) := by decide +kernel
theorem dL_law_728 : decode cL_law 728 = .ok (.iconst 0, 1) := by decide +kernel
theorem dL_law_729 : decode cL_law 729 = .ok (.invokestatic 149, 3) := by decide +kernel
theorem dL_law_732 : decode cL_law 732 = .ok (.iconst 1, 1) := by decide +kernel
theorem dL_law_733 : decode cL_law 733 = .ok (.if_icmp .ne 122, 3) := by decide +kernel
theorem dL_law_736 : decode cL_law 736 = .ok (.aload_n 0, 1) := by decide +kernel
theorem dL_law_737 : decode cL_law 737 = .ok (.iload 8, 2) := by decide +kernel
theorem dL_law_739 : decode cL_law 739 = .ok (.iconst 3, 1) := by decide +kernel
theorem dL_law_740 : decode cL_law 740 = .ok (.iadd, 1) := by decide +kernel
theorem dL_law_741 : decode cL_law 741 = .ok (.iconst 2, 1) := by decide +kernel
theorem dL_law_742 : decode cL_law 742 = .ok (.invokestatic 169, 3) := by decide +kernel
theorem dL_law_745 : decode cL_law 745 = .ok (.ifCond .ne 110, 3) := by decide +kernel
theorem dL_law_748 : decode cL_law 748 = .ok (.iconst 0, 1) := by decide +kernel
theorem dL_law_749 : decode cL_law 749 = .ok (.istore 13, 2) := by decide +kernel
theorem dL_law_751 : decode cL_law 751 = .ok (.iconst 0, 1) := by decide +kernel
theorem dL_law_752 : decode cL_law 752 = .ok (.istore 14, 2) := by decide +kernel
theorem dL_law_754 : decode cL_law 754 = .ok (.iload 14, 2) := by decide +kernel
theorem dL_law_756 : decode cL_law 756 = .ok (.aload_n 1, 1) := by decide +kernel
theorem dL_law_757 : decode cL_law 757 = .ok (.invokevirtual 138, 3) := by decide +kernel
theorem dL_law_760 : decode cL_law 760 = .ok (.if_icmp .ge 26, 3) := by decide +kernel
theorem dL_law_763 : decode cL_law 763 = .ok (.iload 13, 2) := by decide +kernel
theorem dL_law_765 : decode cL_law 765 = .ok (.aload_n 1, 1) := by decide +kernel
theorem dL_law_766 : decode cL_law 766 = .ok (.iload 14, 2) := by decide +kernel
theorem dL_law_768 : decode cL_law 768 = .ok (.invokestatic 145, 3) := by decide +kernel
theorem dL_law_771 : decode cL_law 771 = .ok (.aload 12, 2) := by decide +kernel
theorem dL_law_773 : decode cL_law 773 = .ok (.iload 14, 2) := by decide +kernel
theorem dL_law_775 : decode cL_law 775 = .ok (.iaload, 1) := by decide +kernel
theorem dL_law_776 : decode cL_law 776 = .ok (.isub, 1) := by decide +kernel
theorem dL_law_777 : decode cL_law 777 = .ok (.iadd, 1) := by decide +kernel
theorem dL_law_778 : decode cL_law 778 = .ok (.istore 13, 2) := by decide +kernel
theorem dL_law_780 : decode cL_law 780 = .ok (.iinc 14 1, 3) := by decide +kernel
theorem dL_law_783 : decode cL_law 783 = .ok (.goto (-29), 3) := by decide +kernel
theorem dL_law_786 : decode cL_law 786 = .ok (.aload_n 1, 1) := by decide +kernel
theorem dL_law_787 : decode cL_law 787 = .ok (.iload 10, 2) := by decide +kernel
theorem dL_law_789 : decode cL_law 789 = .ok (.invokestatic 160, 3) := by decide +kernel
theorem dL_law_792 : decode cL_law 792 = .ok (.bipush 112, 2) := by decide +kernel
theorem dL_law_794 : decode cL_law 794 = .ok (.if_icmp .ne 25, 3) := by decide +kernel
theorem dL_law_797 : decode cL_law 797 = .ok (.aload_n 1, 1) := by decide +kernel
theorem dL_law_798 : decode cL_law 798 = .ok (.iload 10, 2) := by decide +kernel
theorem dL_law_800 : decode cL_law 800 = .ok (.invokestatic 195, 3) := by decide +kernel
theorem dL_law_803 : decode cL_law 803 = .ok (.iload 13, 2) := by decide +kernel
theorem dL_law_805 : decode cL_law 805 = .ok (.if_icmp .ne 14, 3) := by decide +kernel
theorem dL_law_808 : decode cL_law 808 = .ok (.aload_n 1, 1) := by decide +kernel
theorem dL_law_809 : decode cL_law 809 = .ok (.iload 10, 2) := by decide +kernel
theorem dL_law_811 : decode cL_law 811 = .ok (.invokestatic 160, 3) := by decide +kernel
theorem dL_law_814 : decode cL_law 814 = .ok (.bipush 45, 2) := by decide +kernel
theorem dL_law_816 : decode cL_law 816 = .ok (.if_icmp .eq 5, 3) := by decide +kernel
theorem dL_law_819 : decode cL_law 819 = .ok (.iconst 0, 1) := by decide +kernel
theorem dL_law_820 : decode cL_law 820 = .ok (.ireturn, 1) := by decide +kernel
theorem dL_law_821 : decode cL_law 821 = .ok (.iconst 0, 1) := by decide +kernel
theorem dL_law_822 : decode cL_law 822 = .ok (.istore 14, 2) := by decide +kernel
theorem dL_law_824 : decode cL_law 824 = .ok (.iload 14, 2) := by decide +kernel
theorem dL_law_826 : decode cL_law 826 = .ok (.aload_n 1, 1) := by decide +kernel
theorem dL_law_827 : decode cL_law 827 = .ok (.invokevirtual 138, 3) := by decide +kernel
theorem dL_law_830 : decode cL_law 830 = .ok (.if_icmp .ge 25, 3) := by decide +kernel
theorem dL_law_833 : decode cL_law 833 = .ok (.aload_n 1, 1) := by decide +kernel
theorem dL_law_834 : decode cL_law 834 = .ok (.iload 14, 2) := by decide +kernel
theorem dL_law_836 : decode cL_law 836 = .ok (.invokestatic 145, 3) := by decide +kernel
theorem dL_law_839 : decode cL_law 839 = .ok (.aload 12, 2) := by decide +kernel
theorem dL_law_841 : decode cL_law 841 = .ok (.iload 14, 2) := by decide +kernel
theorem dL_law_843 : decode cL_law 843 = .ok (.iaload, 1) := by decide +kernel
theorem dL_law_844 : decode cL_law 844 = .ok (.if_icmp .eq 5, 3) := by decide +kernel
theorem dL_law_847 : decode cL_law 847 = .ok (.iconst 0, 1) := by decide +kernel
theorem dL_law_848 : decode cL_law 848 = .ok (.ireturn, 1) := by decide +kernel
theorem dL_law_849 : decode cL_law 849 = .ok (.iinc 14 1, 3) := by decide +kernel
theorem dL_law_852 : decode cL_law 852 = .ok (.goto (-28), 3) := by decide +kernel
theorem dL_law_855 : decode cL_law 855 = .ok (.goto 230, 3) := by decide +kernel
theorem dL_law_858 : decode cL_law 858 = .ok (.iload 9, 2) := by decide +kernel
theorem dL_law_860 : decode cL_law 860 = .ok (.bipush 8, 2) := by decide +kernel
theorem dL_law_862 : decode cL_law 862 = .ok (.if_icmp .ne 62, 3) := by decide +kernel
theorem dL_law_865 : decode cL_law 865 = .ok (.iload_n 2, 1) := by decide +kernel
theorem dL_law_866 : decode cL_law 866 = .ok (.ifCond .le 58, 3) := by decide +kernel
theorem dL_law_869 : decode cL_law 869 = .ok (.aload_n 1, 1) := by decide +kernel
theorem dL_law_870 : decode cL_law 870 = .ok (.iload 10, 2) := by decide +kernel
theorem dL_law_872 : decode cL_law 872 = .ok (.invokestatic 160, 3) := by decide +kernel
theorem dL_law_875 : decode cL_law 875 = .ok (.istore 12, 2) := by decide +kernel
theorem dL_law_877 : decode cL_law 877 = .ok (.aload_n 1, 1) := by decide +kernel
theorem dL_law_878 : decode cL_law 878 = .ok (.bipush 100, 2) := by decide +kernel
theorem dL_law_880 : decode cL_law 880 = .ok (.iload 10, 2) := by decide +kernel
theorem dL_law_882 : decode cL_law 882 = .ok (.iconst 0, 1) := by decide +kernel
theorem dL_law_883 : decode cL_law 883 = .ok (.invokestatic 149, 3) := by decide +kernel
theorem dL_law_886 : decode cL_law 886 = .ok (.istore 13, 2) := by decide +kernel
theorem dL_law_888 : decode cL_law 888 = .ok (.iload 13, 2) := by decide +kernel
theorem dL_law_890 : decode cL_law 890 = .ok (.iconst 1, 1) := by decide +kernel
theorem dL_law_891 : decode cL_law 891 = .ok (.if_icmp .ne 17, 3) := by decide +kernel
theorem dL_law_894 : decode cL_law 894 = .ok (.aload_n 1, 1) := by decide +kernel
theorem dL_law_895 : decode cL_law 895 = .ok (.iload 10, 2) := by decide +kernel
theorem dL_law_897 : decode cL_law 897 = .ok (.invokestatic 160, 3) := by decide +kernel
theorem dL_law_900 : decode cL_law 900 = .ok (.bipush 100, 2) := by decide +kernel
theorem dL_law_902 : decode cL_law 902 = .ok (.if_icmp .eq 19, 3) := by decide +kernel
theorem dL_law_905 : decode cL_law 905 = .ok (.goto 14, 3) := by decide +kernel
theorem dL_law_908 : decode cL_law 908 = .ok (.aload_n 1, 1) := by decide +kernel
theorem dL_law_909 : decode cL_law 909 = .ok (.iload 10, 2) := by decide +kernel
theorem dL_law_911 : decode cL_law 911 = .ok (.invokestatic 160, 3) := by decide +kernel
theorem dL_law_914 : decode cL_law 914 = .ok (.iload 12, 2) := by decide +kernel
theorem dL_law_916 : decode cL_law 916 = .ok (.if_icmp .eq 5, 3) := by decide +kernel
theorem dL_law_919 : decode cL_law 919 = .ok (.iconst 0, 1) := by decide +kernel
theorem dL_law_920 : decode cL_law 920 = .ok (.ireturn, 1) := by decide +kernel
theorem dL_law_921 : decode cL_law 921 = .ok (.goto 164, 3) := by decide +kernel
theorem dL_law_924 : decode cL_law 924 = .ok (.iload 9, 2) := by decide +kernel
theorem dL_law_926 : decode cL_law 926 = .ok (.bipush 9, 2) := by decide +kernel
theorem dL_law_928 : decode cL_law 928 = .ok (.if_icmp .ne 76, 3) := by decide +kernel
theorem dL_law_931 : decode cL_law 931 = .ok (.aload_n 1, 1) := by decide +kernel
theorem dL_law_932 : decode cL_law 932 = .ok (.invokevirtual 138, 3) := by decide +kernel
theorem dL_law_935 : decode cL_law 935 = .ok (.ifCond .le 69, 3) := by decide +kernel
theorem dL_law_938 : decode cL_law 938 = .ok (.aload_n 1, 1) := by decide +kernel
theorem dL_law_939 : decode cL_law 939 = .ok (.iload 11, 2) := by decide +kernel
theorem dL_law_941 : decode cL_law 941 = .ok (.aload_n 0, 1) := by decide +kernel
theorem dL_law_942 : decode cL_law 942 = .ok (.iload 8, 2) := by decide +kernel
theorem dL_law_944 : decode cL_law 944 = .ok (.iconst 3, 1) := by decide +kernel
theorem dL_law_945 : decode cL_law 945 = .ok (.iadd, 1) := by decide +kernel
theorem dL_law_946 : decode cL_law 946 = .ok (.iconst 2, 1) := by decide +kernel
theorem dL_law_947 : decode cL_law 947 = .ok (.invokestatic 169, 3) := by decide +kernel
theorem dL_law_950 : decode cL_law 950 = .ok (.ifCond .ne 7, 3) := by decide +kernel
theorem dL_law_953 : decode cL_law 953 = .ok (.iconst 1, 1) := by decide +kernel
theorem dL_law_954 : decode cL_law 954 = .ok (.goto 4, 3) := by decide +kernel
theorem dL_law_957 : decode cL_law 957 = .ok (.iconst 0, 1) := by decide +kernel
theorem dL_law_958 : decode cL_law 958 = .ok (.invokestatic 197, 3) := by decide +kernel
theorem dL_law_961 : decode cL_law 961 = .ok (.istore 12, 2) := by decide +kernel
theorem dL_law_963 : decode cL_law 963 = .ok (.iload 12, 2) := by decide +kernel
theorem dL_law_965 : decode cL_law 965 = .ok (.ifCond .lt 34, 3) := by decide +kernel
theorem dL_law_968 : decode cL_law 968 = .ok (.iload 12, 2) := by decide +kernel
theorem dL_law_970 : decode cL_law 970 = .ok (.iload_n 2, 1) := by decide +kernel
theorem dL_law_971 : decode cL_law 971 = .ok (.if_icmp .gt 28, 3) := by decide +kernel
theorem dL_law_974 : decode cL_law 974 = .ok (.aload_n 1, 1) := by decide +kernel
theorem dL_law_975 : decode cL_law 975 = .ok (.bipush 104, 2) := by decide +kernel
theorem dL_law_977 : decode cL_law 977 = .ok (.iload 11, 2) := by decide +kernel
theorem dL_law_979 : decode cL_law 979 = .ok (.iconst 0, 1) := by decide +kernel
theorem dL_law_980 : decode cL_law 980 = .ok (.invokestatic 149, 3) := by decide +kernel
theorem dL_law_983 : decode cL_law 983 = .ok (.iconst 1, 1) := by decide +kernel
theorem dL_law_984 : decode cL_law 984 = .ok (.if_icmp .eq 17, 3) := by decide +kernel
theorem dL_law_987 : decode cL_law 987 = .ok (.aload_n 0, 1) := by decide +kernel
theorem dL_law_988 : decode cL_law 988 = .ok (.iload 8, 2) := by decide +kernel
theorem dL_law_990 : decode cL_law 990 = .ok (.iconst 3, 1) := by decide +kernel
theorem dL_law_991 : decode cL_law 991 = .ok (.iadd, 1) := by decide +kernel
theorem dL_law_992 : decode cL_law 992 = .ok (.iconst 2, 1) := by decide +kernel
theorem dL_law_993 : decode cL_law 993 = .ok (.invokestatic 169, 3) := by decide +kernel
theorem dL_law_996 : decode cL_law 996 = .ok (.ifCond .ne 5, 3) := by decide +kernel
theorem dL_law_999 : decode cL_law 999 = .ok (.iconst 0, 1) := by decide +kernel
theorem dL_law_1000 : decode cL_law 1000 = .ok (.ireturn, 1) := by decide +kernel
theorem dL_law_1001 : decode cL_law 1001 = .ok (.goto 84, 3) := by decide +kernel
theorem dL_law_1004 : decode cL_law 1004 = .ok (.iload 9, 2) := by decide +kernel
theorem dL_law_1006 : decode cL_law 1006 = .ok (.bipush 10, 2) := by decide +kernel
theorem dL_law_1008 : decode cL_law 1008 = .ok (.if_icmp .ne 40, 3) := by decide +kernel
theorem dL_law_1011 : decode cL_law 1011 = .ok (.iload_n 2, 1) := by decide +kernel
theorem dL_law_1012 : decode cL_law 1012 = .ok (.ifCond .le 36, 3) := by decide +kernel
theorem dL_law_1015 : decode cL_law 1015 = .ok (.aload_n 1, 1) := by decide +kernel
theorem dL_law_1016 : decode cL_law 1016 = .ok (.iload 10, 2) := by decide +kernel
theorem dL_law_1018 : decode cL_law 1018 = .ok (.iconst 1, 1) := by decide +kernel
theorem dL_law_1019 : decode cL_law 1019 = .ok (.invokestatic 200, 3) := by decide +kernel
theorem dL_law_1022 : decode cL_law 1022 = .ok (.istore 12, 2) := by decide +kernel
theorem dL_law_1024 : decode cL_law 1024 = .ok (.iload 12, 2) := by decide +kernel
theorem dL_law_1026 : decode cL_law 1026 = .ok (.ifCond .ge 19, 3) := by decide +kernel
theorem dL_law_1029 : decode cL_law 1029 = .ok (.iload 12, 2) := by decide +kernel
theorem dL_law_1031 : decode cL_law 1031 = .ok (.ldc 37, 2) := by decide +kernel
theorem dL_law_1033 : decode cL_law 1033 = .ok (.if_icmp .eq 12, 3) := by decide +kernel
theorem dL_law_1036 : decode cL_law 1036 = .ok (.iload 12, 2) := by decide +kernel
theorem dL_law_1038 : decode cL_law 1038 = .ok (.ldc 21, 2) := by decide +kernel
theorem dL_law_1040 : decode cL_law 1040 = .ok (.if_icmp .eq 5, 3) := by decide +kernel
theorem dL_law_1043 : decode cL_law 1043 = .ok (.iconst 0, 1) := by decide +kernel
theorem dL_law_1044 : decode cL_law 1044 = .ok (.ireturn, 1) := by decide +kernel
theorem dL_law_1045 : decode cL_law 1045 = .ok (.goto 40, 3) := by decide +kernel
theorem dL_law_1048 : decode cL_law 1048 = .ok (.iconst 1, 1) := by decide +kernel
theorem dL_law_1049 : decode cL_law 1049 = .ok (.aload_n 0, 1) := by decide +kernel
theorem dL_law_1050 : decode cL_law 1050 = .ok (.iload 8, 2) := by decide +kernel
theorem dL_law_1052 : decode cL_law 1052 = .ok (.iconst 3, 1) := by decide +kernel
theorem dL_law_1053 : decode cL_law 1053 = .ok (.iadd, 1) := by decide +kernel
theorem dL_law_1054 : decode cL_law 1054 = .ok (.bipush 12, 2) := by decide +kernel
theorem dL_law_1056 : decode cL_law 1056 = .ok (.invokestatic 169, 3) := by decide +kernel
theorem dL_law_1059 : decode cL_law 1059 = .ok (.iadd, 1) := by decide +kernel
theorem dL_law_1060 : decode cL_law 1060 = .ok (.istore 12, 2) := by decide +kernel
theorem dL_law_1062 : decode cL_law 1062 = .ok (.aload_n 1, 1) := by decide +kernel
theorem dL_law_1063 : decode cL_law 1063 = .ok (.iload 12, 2) := by decide +kernel
theorem dL_law_1065 : decode cL_law 1065 = .ok (.invokestatic 203, 3) := by decide +kernel
theorem dL_law_1068 : decode cL_law 1068 = .ok (.iload 4, 2) := by decide +kernel
theorem dL_law_1070 : decode cL_law 1070 = .ok (.iload 12, 2) := by decide +kernel
theorem dL_law_1072 : decode cL_law 1072 = .ok (.iadd, 1) := by decide +kernel
theorem dL_law_1073 : decode cL_law 1073 = .ok (.if_icmp .eq 5, 3) := by decide +kernel
theorem dL_law_1076 : decode cL_law 1076 = .ok (.iconst 0, 1) := by decide +kernel
theorem dL_law_1077 : decode cL_law 1077 = .ok (.ireturn, 1) := by decide +kernel
theorem dL_law_1078 : decode cL_law 1078 = .ok (.iload 4, 2) := by decide +kernel
theorem dL_law_1080 : decode cL_law 1080 = .ok (.iload 12, 2) := by decide +kernel
theorem dL_law_1082 : decode cL_law 1082 = .ok (.iadd, 1) := by decide +kernel
theorem dL_law_1083 : decode cL_law 1083 = .ok (.istore 4, 2) := by decide +kernel
theorem dL_law_1085 : decode cL_law 1085 = .ok (.lconst 0, 1) := by decide +kernel
theorem dL_law_1086 : decode cL_law 1086 = .ok (.lstore 12, 2) := by decide +kernel
theorem dL_law_1088 : decode cL_law 1088 = .ok (.iconst 0, 1) := by decide +kernel
theorem dL_law_1089 : decode cL_law 1089 = .ok (.istore 14, 2) := by decide +kernel
theorem dL_law_1091 : decode cL_law 1091 = .ok (.iconst 0, 1) := by decide +kernel
theorem dL_law_1092 : decode cL_law 1092 = .ok (.istore 15, 2) := by decide +kernel
theorem dL_law_1094 : decode cL_law 1094 = .ok (.iload 15, 2) := by decide +kernel
theorem dL_law_1096 : decode cL_law 1096 = .ok (.aload_n 1, 1) := by decide +kernel
theorem dL_law_1097 : decode cL_law 1097 = .ok (.invokevirtual 138, 3) := by decide +kernel
theorem dL_law_1100 : decode cL_law 1100 = .ok (.if_icmp .ge 20, 3) := by decide +kernel
theorem dL_law_1103 : decode cL_law 1103 = .ok (.lload 12, 2) := by decide +kernel
theorem dL_law_1105 : decode cL_law 1105 = .ok (.aload_n 1, 1) := by decide +kernel
theorem dL_law_1106 : decode cL_law 1106 = .ok (.iload 15, 2) := by decide +kernel
theorem dL_law_1108 : decode cL_law 1108 = .ok (.invokestatic 153, 3) := by decide +kernel
theorem dL_law_1111 : decode cL_law 1111 = .ok (.ladd, 1) := by decide +kernel
theorem dL_law_1112 : decode cL_law 1112 = .ok (.lstore 12, 2) := by decide +kernel
theorem dL_law_1114 : decode cL_law 1114 = .ok (.iinc 15 1, 3) := by decide +kernel
theorem dL_law_1117 : decode cL_law 1117 = .ok (.goto (-23), 3) := by decide +kernel
theorem dL_law_1120 : decode cL_law 1120 = .ok (.iconst 0, 1) := by decide +kernel
theorem dL_law_1121 : decode cL_law 1121 = .ok (.istore 15, 2) := by decide +kernel
theorem dL_law_1123 : decode cL_law 1123 = .ok (.iconst 0, 1) := by decide +kernel
theorem dL_law_1124 : decode cL_law 1124 = .ok (.istore 16, 2) := by decide +kernel
theorem dL_law_1126 : decode cL_law 1126 = .ok (.iconst 0, 1) := by decide +kernel
theorem dL_law_1127 : decode cL_law 1127 = .ok (.istore 17, 2) := by decide +kernel
theorem dL_law_1129 : decode cL_law 1129 = .ok (.iload 17, 2) := by decide +kernel
theorem dL_law_1131 : decode cL_law 1131 = .ok (.iload_n 2, 1) := by decide +kernel
theorem dL_law_1132 : decode cL_law 1132 = .ok (.if_icmp .ge 127, 3) := by decide +kernel
theorem dL_law_1135 : decode cL_law 1135 = .ok (.aload_n 1, 1) := by decide +kernel
theorem dL_law_1136 : decode cL_law 1136 = .ok (.iload 17, 2) := by decide +kernel
theorem dL_law_1138 : decode cL_law 1138 = .ok (.invokestatic 160, 3) := by decide +kernel
theorem dL_law_1141 : decode cL_law 1141 = .ok (.istore 18, 2) := by decide +kernel
theorem dL_law_1143 : decode cL_law 1143 = .ok (.lload 12, 2) := by decide +kernel
theorem dL_law_1145 : decode cL_law 1145 = .ok (.iload 18, 2) := by decide +kernel
theorem dL_law_1147 : decode cL_law 1147 = .ok (.bipush 100, 2) := by decide +kernel
theorem dL_law_1149 : decode cL_law 1149 = .ok (.if_icmp .ne 12, 3) := by decide +kernel
theorem dL_law_1152 : decode cL_law 1152 = .ok (.aload_n 1, 1) := by decide +kernel
theorem dL_law_1153 : decode cL_law 1153 = .ok (.iload 17, 2) := by decide +kernel
theorem dL_law_1155 : decode cL_law 1155 = .ok (.invokestatic 162, 3) := by decide +kernel
theorem dL_law_1158 : decode cL_law 1158 = .ok (.goto 4, 3) := by decide +kernel
theorem dL_law_1161 : decode cL_law 1161 = .ok (.lconst 0, 1) := by decide +kernel
theorem dL_law_1162 : decode cL_law 1162 = .ok (.ladd, 1) := by decide +kernel
theorem dL_law_1163 : decode cL_law 1163 = .ok (.lstore 12, 2) := by decide +kernel
theorem dL_law_1165 : decode cL_law 1165 = .ok (.iload 14, 2) := by decide +kernel
theorem dL_law_1167 : decode cL_law 1167 = .ok (.iload 18, 2) := by decide +kernel
theorem dL_law_1169 : decode cL_law 1169 = .ok (.bipush 119, 2) := by decide +kernel
theorem dL_law_1171 : decode cL_law 1171 = .ok (.if_icmp .eq 57, 3) := by decide +kernel
theorem dL_law_1174 : decode cL_law 1174 = .ok (.iload 18, 2) := by decide +kernel
theorem dL_law_1176 : decode cL_law 1176 = .ok (.bipush 111, 2) := by decide +kernel
theorem dL_law_1178 : decode cL_law 1178 = .ok (.if_icmp .eq 50, 3) := by decide +kernel
theorem dL_law_1181 : decode cL_law 1181 = .ok (.iload 18, 2) := by decide +kernel
theorem dL_law_1183 : decode cL_law 1183 = .ok (.bipush 102, 2) := by decide +kernel
theorem dL_law_1185 : decode cL_law 1185 = .ok (.if_icmp .ne 14, 3) := by decide +kernel
theorem dL_law_1188 : decode cL_law 1188 = .ok (.aload_n 1, 1) := by decide +kernel
theorem dL_law_1189 : decode cL_law 1189 = .ok (.iload 17, 2) := by decide +kernel
theorem dL_law_1191 : decode cL_law 1191 = .ok (.invokestatic 164, 3) := by decide +kernel
theorem dL_law_1194 : decode cL_law 1194 = .ok (.ldc 94, 2) := by decide +kernel
theorem dL_law_1196 : decode cL_law 1196 = .ok (.if_icmp .eq 32, 3) := by decide +kernel
theorem dL_law_1199 : decode cL_law 1199 = .ok (.iload 18, 2) := by decide +kernel
theorem dL_law_1201 : decode cL_law 1201 = .ok (.bipush 100, 2) := by decide +kernel
theorem dL_law_1203 : decode cL_law 1203 = .ok (.if_icmp .ne 29, 3) := by decide +kernel
theorem dL_law_1206 : decode cL_law 1206 = .ok (.aload_n 1, 1) := by decide +kernel
theorem dL_law_1207 : decode cL_law 1207 = .ok (.iload 17, 2) := by decide +kernel
theorem dL_law_1209 : decode cL_law 1209 = .ok (.invokestatic 164, 3) := by decide +kernel
theorem dL_law_1212 : decode cL_law 1212 = .ok (.ldc 94, 2) := by decide +kernel
theorem dL_law_1214 : decode cL_law 1214 = .ok (.if_icmp .ne 18, 3) := by decide +kernel
theorem dL_law_1217 : decode cL_law 1217 = .ok (.aload_n 1, 1) := by decide +kernel
theorem dL_law_1218 : decode cL_law 1218 = .ok (.iload 17, 2) := by decide +kernel
theorem dL_law_1220 : decode cL_law 1220 = .ok (.invokestatic 166, 3) := by decide +kernel
theorem dL_law_1223 : decode cL_law 1223 = .ok (.ldc 94, 2) := by decide +kernel
theorem dL_law_1225 : decode cL_law 1225 = .ok (.if_icmp .eq 7, 3) := by decide +kernel
theorem dL_law_1228 : decode cL_law 1228 = .ok (.iconst 1, 1) := by decide +kernel
theorem dL_law_1229 : decode cL_law 1229 = .ok (.goto 4, 3) := by decide +kernel
theorem dL_law_1232 : decode cL_law 1232 = .ok (.iconst 0, 1) := by decide +kernel
theorem dL_law_1233 : decode cL_law 1233 = .ok (.ior, 1) := by decide +kernel
theorem dL_law_1234 : decode cL_law 1234 = .ok (.istore 14, 2) := by decide +kernel
theorem dL_law_1236 : decode cL_law 1236 = .ok (.iload 15, 2) := by decide +kernel
theorem dL_law_1238 : decode cL_law 1238 = .ok (.iload 18, 2) := by decide +kernel
theorem dL_law_1240 : decode cL_law 1240 = .ok (.bipush 111, 2) := by decide +kernel
theorem dL_law_1242 : decode cL_law 1242 = .ok (.if_icmp .ne 7, 3) := by decide +kernel
theorem dL_law_1245 : decode cL_law 1245 = .ok (.iconst 1, 1) := by decide +kernel
theorem dL_law_1246 : decode cL_law 1246 = .ok (.goto 4, 3) := by decide +kernel
theorem dL_law_1249 : decode cL_law 1249 = .ok (.iconst 0, 1) := by decide +kernel
theorem dL_law_1250 : decode cL_law 1250 = .ok (.iadd, 1) := by decide +kernel
theorem dL_law_1251 : decode cL_law 1251 = .ok (.istore 15, 2) := by decide +kernel
theorem dL_law_1253 : decode cL_law 1253 = .ok (.iinc 17 1, 3) := by decide +kernel
theorem dL_law_1256 : decode cL_law 1256 = .ok (.goto (-127), 3) := by decide +kernel
theorem dL_law_1259 : decode cL_law 1259 = .ok (.iconst 0, 1) := by decide +kernel
theorem dL_law_1260 : decode cL_law 1260 = .ok (.istore 17, 2) := by decide +kernel
theorem dL_law_1262 : decode cL_law 1262 = .ok (.iload 17, 2) := by decide +kernel
theorem dL_law_1264 : decode cL_law 1264 = .ok (.iload_n 3, 1) := by decide +kernel
theorem dL_law_1265 : decode cL_law 1265 = .ok (.if_icmp .ge 30, 3) := by decide +kernel
theorem dL_law_1268 : decode cL_law 1268 = .ok (.iload 16, 2) := by decide +kernel
theorem dL_law_1270 : decode cL_law 1270 = .ok (.aload_n 1, 1) := by decide +kernel
theorem dL_law_1271 : decode cL_law 1271 = .ok (.iload 17, 2) := by decide +kernel
theorem dL_law_1273 : decode cL_law 1273 = .ok (.invokestatic 205, 3) := by decide +kernel
theorem dL_law_1276 : decode cL_law 1276 = .ok (.bipush 111, 2) := by decide +kernel
theorem dL_law_1278 : decode cL_law 1278 = .ok (.if_icmp .ne 7, 3) := by decide +kernel
theorem dL_law_1281 : decode cL_law 1281 = .ok (.iconst 1, 1) := by decide +kernel
theorem dL_law_1282 : decode cL_law 1282 = .ok (.goto 4, 3) := by decide +kernel
theorem dL_law_1285 : decode cL_law 1285 = .ok (.iconst 0, 1) := by decide +kernel
theorem dL_law_1286 : decode cL_law 1286 = .ok (.iadd, 1) := by decide +kernel
theorem dL_law_1287 : decode cL_law 1287 = .ok (.istore 16, 2) := by decide +kernel
theorem dL_law_1289 : decode cL_law 1289 = .ok (.iinc 17 1, 3) := by decide +kernel
theorem dL_law_1292 : decode cL_law 1292 = .ok (.goto (-30), 3) := by decide +kernel
theorem dL_law_1295 : decode cL_law 1295 = .ok (.iload 15, 2) := by decide +kernel
theorem dL_law_1297 : decode cL_law 1297 = .ok (.iload 16, 2) := by decide +kernel
theorem dL_law_1299 : decode cL_law 1299 = .ok (.if_icmp .ne 43, 3) := by decide +kernel
theorem dL_law_1302 : decode cL_law 1302 = .ok (.lload 12, 2) := by decide +kernel
theorem dL_law_1304 : decode cL_law 1304 = .ok (.lload 5, 2) := by decide +kernel
theorem dL_law_1306 : decode cL_law 1306 = .ok (.lcmp, 1) := by decide +kernel
theorem dL_law_1307 : decode cL_law 1307 = .ok (.ifCond .gt 35, 3) := by decide +kernel
theorem dL_law_1310 : decode cL_law 1310 = .ok (.iload 14, 2) := by decide +kernel
theorem dL_law_1312 : decode cL_law 1312 = .ok (.ifCond .ne 11, 3) := by decide +kernel
theorem dL_law_1315 : decode cL_law 1315 = .ok (.lload 12, 2) := by decide +kernel
theorem dL_law_1317 : decode cL_law 1317 = .ok (.lload 5, 2) := by decide +kernel
theorem dL_law_1319 : decode cL_law 1319 = .ok (.lcmp, 1) := by decide +kernel
theorem dL_law_1320 : decode cL_law 1320 = .ok (.ifCond .ne 22, 3) := by decide +kernel
theorem dL_law_1323 : decode cL_law 1323 = .ok (.aload_n 1, 1) := by decide +kernel
theorem dL_law_1324 : decode cL_law 1324 = .ok (.iload_n 2, 1) := by decide +kernel
theorem dL_law_1325 : decode cL_law 1325 = .ok (.invokestatic 207, 3) := by decide +kernel
theorem dL_law_1328 : decode cL_law 1328 = .ok (.ifCond .eq 14, 3) := by decide +kernel
theorem dL_law_1331 : decode cL_law 1331 = .ok (.aload_n 1, 1) := by decide +kernel
theorem dL_law_1332 : decode cL_law 1332 = .ok (.invokevirtual 211, 3) := by decide +kernel
theorem dL_law_1335 : decode cL_law 1335 = .ok (.iload 4, 2) := by decide +kernel
theorem dL_law_1337 : decode cL_law 1337 = .ok (.i2d, 1) := by decide +kernel
theorem dL_law_1338 : decode cL_law 1338 = .ok (.dcmp .l, 1) := by decide +kernel
theorem dL_law_1339 : decode cL_law 1339 = .ok (.ifCond .le 5, 3) := by decide +kernel
theorem dL_law_1342 : decode cL_law 1342 = .ok (.iconst 0, 1) := by decide +kernel
theorem dL_law_1343 : decode cL_law 1343 = .ok (.ireturn, 1) := by decide +kernel
theorem dL_law_1344 : decode cL_law 1344 = .ok (.iinc 7 1, 3) := by decide +kernel
theorem dL_law_1347 : decode cL_law 1347 = .ok (.goto (-1049), 3) := by decide +kernel
theorem dL_law_1350 : decode cL_law 1350 = .ok (.aload_n 1, 1) := by decide +kernel
theorem dL_law_1351 : decode cL_law 1351 = .ok (.invokevirtual 215, 3) := by decide +kernel
theorem dL_law_1354 : decode cL_law 1354 = .ok (.ifCond .eq 21, 3) := by decide +kernel
theorem dL_law_1357 : decode cL_law 1357 = .ok (.iload_n 2, 1) := by decide +kernel
theorem dL_law_1358 : decode cL_law 1358 = .ok (.ifCond .eq 13, 3) := by decide +kernel
theorem dL_law_1361 : decode cL_law 1361 = .ok (.aload_n 1, 1) := by decide +kernel
theorem dL_law_1362 : decode cL_law 1362 = .ok (.iload_n 2, 1) := by decide +kernel
theorem dL_law_1363 : decode cL_law 1363 = .ok (.invokestatic 166, 3) := by decide +kernel
theorem dL_law_1366 : decode cL_law 1366 = .ok (.ldc 34, 2) := by decide +kernel
theorem dL_law_1368 : decode cL_law 1368 = .ok (.if_icmp .ne 7, 3) := by decide +kernel
theorem dL_law_1371 : decode cL_law 1371 = .ok (.iconst 1, 1) := by decide +kernel
theorem dL_law_1372 : decode cL_law 1372 = .ok (.goto 4, 3) := by decide +kernel
theorem dL_law_1375 : decode cL_law 1375 = .ok (.iconst 0, 1) := by decide +kernel
theorem dL_law_1376 : decode cL_law 1376 = .ok (.ireturn, 1) := by decide +kernel
