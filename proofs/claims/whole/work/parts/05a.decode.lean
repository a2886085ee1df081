theorem dJ0_charAt_5068e_0 : decode mJ0_charAt_5068e.2.1 0 = .ok (.aload_n 0, 1) := by decide +kernel
theorem dJ0_charAt_5068e_1 : decode mJ0_charAt_5068e.2.1 1 = .ok (.invokevirtual 492, 3) := by decide +kernel
theorem dJ0_charAt_5068e_4 : decode mJ0_charAt_5068e.2.1 4 = .ok (.ifCond .eq 12, 3) := by decide +kernel
theorem dJ0_charAt_5068e_7 : decode mJ0_charAt_5068e.2.1 7 = .ok (.aload_n 0, 1) := by decide +kernel
theorem dJ0_charAt_5068e_8 : decode mJ0_charAt_5068e.2.1 8 = .ok (.getfield 9, 3) := by decide +kernel
theorem dJ0_charAt_5068e_11 : decode mJ0_charAt_5068e.2.1 11 = .ok (.iload_n 1, 1) := by decide +kernel
theorem dJ0_charAt_5068e_12 : decode mJ0_charAt_5068e.2.1 12 = .ok (.invokestatic 495, 3) := by decide +kernel
theorem dJ0_charAt_5068e_15 : decode mJ0_charAt_5068e.2.1 15 = .ok (.ireturn, 1) := by decide +kernel
theorem dJ0_charAt_5068e_16 : decode mJ0_charAt_5068e.2.1 16 = .ok (.aload_n 0, 1) := by decide +kernel
theorem dJ0_charAt_5068e_17 : decode mJ0_charAt_5068e.2.1 17 = .ok (.getfield 9, 3) := by decide +kernel
theorem dJ0_charAt_5068e_20 : decode mJ0_charAt_5068e.2.1 20 = .ok (.iload_n 1, 1) := by decide +kernel
theorem dJ0_charAt_5068e_21 : decode mJ0_charAt_5068e.2.1 21 = .ok (.invokestatic 498, 3) := by decide +kernel
theorem dJ0_charAt_5068e_24 : decode mJ0_charAt_5068e.2.1 24 = .ok (.ireturn, 1) := by decide +kernel
theorem dJ0_checkIndex_df160_0 : decode mJ0_checkIndex_df160.2.1 0 = .ok (.iload_n 0, 1) := by decide +kernel
theorem dJ0_checkIndex_df160_1 : decode mJ0_checkIndex_df160.2.1 1 = .ok (.iload_n 1, 1) := by decide +kernel
theorem dJ0_checkIndex_df160_2 : decode mJ0_checkIndex_df160.2.1 2 = .ok (.getstatic 1053, 3) := by decide +kernel
theorem dJ0_checkIndex_df160_5 : decode mJ0_checkIndex_df160.2.1 5 = .ok (.invokestatic 1059, 3) := by decide +kernel
theorem dJ0_checkIndex_df160_8 : decode mJ0_checkIndex_df160.2.1 8 = .ok (.pop, 1) := by decide +kernel
theorem dJ0_checkIndex_df160_9 : decode mJ0_checkIndex_df160.2.1 9 = .ok (.return_, 1) := by decide +kernel
theorem dJ0_coder_7d493_0 : decode mJ0_coder_7d493.2.1 0 = .ok (.getstatic 38, 3) := by decide +kernel
theorem dJ0_coder_7d493_3 : decode mJ0_coder_7d493.2.1 3 = .ok (.ifCond .eq 10, 3) := by decide +kernel
theorem dJ0_coder_7d493_6 : decode mJ0_coder_7d493.2.1 6 = .ok (.aload_n 0, 1) := by decide +kernel
theorem dJ0_coder_7d493_7 : decode mJ0_coder_7d493.2.1 7 = .ok (.getfield 15, 3) := by decide +kernel
theorem dJ0_coder_7d493_10 : decode mJ0_coder_7d493.2.1 10 = .ok (.goto 4, 3) := by decide +kernel
theorem dJ0_coder_7d493_13 : decode mJ0_coder_7d493.2.1 13 = .ok (.iconst 1, 1) := by decide +kernel
theorem dJ0_coder_7d493_14 : decode mJ0_coder_7d493.2.1 14 = .ok (.ireturn, 1) := by decide +kernel
theorem dJ0_isLatin1_aae02_0 : decode mJ0_isLatin1_aae02.2.1 0 = .ok (.getstatic 38, 3) := by decide +kernel
theorem dJ0_isLatin1_aae02_3 : decode mJ0_isLatin1_aae02.2.1 3 = .ok (.ifCond .eq 14, 3) := by decide +kernel
theorem dJ0_isLatin1_aae02_6 : decode mJ0_isLatin1_aae02.2.1 6 = .ok (.aload_n 0, 1) := by decide +kernel
theorem dJ0_isLatin1_aae02_7 : decode mJ0_isLatin1_aae02.2.1 7 = .ok (.getfield 15, 3) := by decide +kernel
theorem dJ0_isLatin1_aae02_10 : decode mJ0_isLatin1_aae02.2.1 10 = .ok (.ifCond .ne 7, 3) := by decide +kernel
theorem dJ0_isLatin1_aae02_13 : decode mJ0_isLatin1_aae02.2.1 13 = .ok (.iconst 1, 1) := by decide +kernel
theorem dJ0_isLatin1_aae02_14 : decode mJ0_isLatin1_aae02.2.1 14 = .ok (.goto 4, 3) := by decide +kernel
theorem dJ0_isLatin1_aae02_17 : decode mJ0_isLatin1_aae02.2.1 17 = .ok (.iconst 0, 1) := by decide +kernel
theorem dJ0_isLatin1_aae02_18 : decode mJ0_isLatin1_aae02.2.1 18 = .ok (.ireturn, 1) := by decide +kernel
theorem dJ0_length_8abf5_0 : decode mJ0_length_8abf5.2.1 0 = .ok (.aload_n 0, 1) := by decide +kernel
theorem dJ0_length_8abf5_1 : decode mJ0_length_8abf5.2.1 1 = .ok (.getfield 9, 3) := by decide +kernel
theorem dJ0_length_8abf5_4 : decode mJ0_length_8abf5.2.1 4 = .ok (.arraylength, 1) := by decide +kernel
theorem dJ0_length_8abf5_5 : decode mJ0_length_8abf5.2.1 5 = .ok (.aload_n 0, 1) := by decide +kernel
theorem dJ0_length_8abf5_6 : decode mJ0_length_8abf5.2.1 6 = .ok (.invokevirtual 335, 3) := by decide +kernel
theorem dJ0_length_8abf5_9 : decode mJ0_length_8abf5.2.1 9 = .ok (.ishr, 1) := by decide +kernel
theorem dJ0_length_8abf5_10 : decode mJ0_length_8abf5.2.1 10 = .ok (.ireturn, 1) := by decide +kernel
theorem dJ1_charAt_3b067_0 : decode mJ1_charAt_3b067.2.1 0 = .ok (.iload_n 1, 1) := by decide +kernel
theorem dJ1_charAt_3b067_1 : decode mJ1_charAt_3b067.2.1 1 = .ok (.aload_n 0, 1) := by decide +kernel
theorem dJ1_charAt_3b067_2 : decode mJ1_charAt_3b067.2.1 2 = .ok (.arraylength, 1) := by decide +kernel
theorem dJ1_charAt_3b067_3 : decode mJ1_charAt_3b067.2.1 3 = .ok (.invokestatic 9, 3) := by decide +kernel
theorem dJ1_charAt_3b067_6 : decode mJ1_charAt_3b067.2.1 6 = .ok (.aload_n 0, 1) := by decide +kernel
theorem dJ1_charAt_3b067_7 : decode mJ1_charAt_3b067.2.1 7 = .ok (.iload_n 1, 1) := by decide +kernel
theorem dJ1_charAt_3b067_8 : decode mJ1_charAt_3b067.2.1 8 = .ok (.baload, 1) := by decide +kernel
theorem dJ1_charAt_3b067_9 : decode mJ1_charAt_3b067.2.1 9 = .ok (.sipush 255, 3) := by decide +kernel
theorem dJ1_charAt_3b067_12 : decode mJ1_charAt_3b067.2.1 12 = .ok (.iand, 1) := by decide +kernel
theorem dJ1_charAt_3b067_13 : decode mJ1_charAt_3b067.2.1 13 = .ok (.i2c, 1) := by decide +kernel
theorem dJ1_charAt_3b067_14 : decode mJ1_charAt_3b067.2.1 14 = .ok (.ireturn, 1) := by decide +kernel
theorem dJ2_charAt_3b067_0 : decode mJ2_charAt_3b067.2.1 0 = .ok (.iload_n 1, 1) := by decide +kernel
theorem dJ2_charAt_3b067_1 : decode mJ2_charAt_3b067.2.1 1 = .ok (.aload_n 0, 1) := by decide +kernel
theorem dJ2_charAt_3b067_2 : decode mJ2_charAt_3b067.2.1 2 = .ok (.invokestatic 67, 3) := by decide +kernel
theorem dJ2_charAt_3b067_5 : decode mJ2_charAt_3b067.2.1 5 = .ok (.aload_n 0, 1) := by decide +kernel
theorem dJ2_charAt_3b067_6 : decode mJ2_charAt_3b067.2.1 6 = .ok (.iload_n 1, 1) := by decide +kernel
theorem dJ2_charAt_3b067_7 : decode mJ2_charAt_3b067.2.1 7 = .ok (.invokestatic 71, 3) := by decide +kernel
theorem dJ2_charAt_3b067_10 : decode mJ2_charAt_3b067.2.1 10 = .ok (.ireturn, 1) := by decide +kernel
theorem dJ2_checkIndex_2214a_0 : decode mJ2_checkIndex_2214a.2.1 0 = .ok (.iload_n 0, 1) := by decide +kernel
theorem dJ2_checkIndex_2214a_1 : decode mJ2_checkIndex_2214a.2.1 1 = .ok (.aload_n 1, 1) := by decide +kernel
theorem dJ2_checkIndex_2214a_2 : decode mJ2_checkIndex_2214a.2.1 2 = .ok (.invokestatic 48, 3) := by decide +kernel
theorem dJ2_checkIndex_2214a_5 : decode mJ2_checkIndex_2214a.2.1 5 = .ok (.invokestatic 414, 3) := by decide +kernel
theorem dJ2_checkIndex_2214a_8 : decode mJ2_checkIndex_2214a.2.1 8 = .ok (.return_, 1) := by decide +kernel
theorem dJ2_getChar_3b067_0 : decode mJ2_getChar_3b067.2.1 0 = .ok (.getstatic 44, 3) := by decide +kernel
theorem dJ2_getChar_3b067_3 : decode mJ2_getChar_3b067.2.1 3 = .ok (.ifCond .ne 25, 3) := by decide +kernel
theorem dJ2_getChar_3b067_6 : decode mJ2_getChar_3b067.2.1 6 = .ok (.iload_n 1, 1) := by decide +kernel
theorem dJ2_getChar_3b067_7 : decode mJ2_getChar_3b067.2.1 7 = .ok (.ifCond .lt 11, 3) := by decide +kernel
theorem dJ2_getChar_3b067_10 : decode mJ2_getChar_3b067.2.1 10 = .ok (.iload_n 1, 1) := by decide +kernel
theorem dJ2_getChar_3b067_11 : decode mJ2_getChar_3b067.2.1 11 = .ok (.aload_n 0, 1) := by decide +kernel
theorem dJ2_getChar_3b067_12 : decode mJ2_getChar_3b067.2.1 12 = .ok (.invokestatic 48, 3) := by decide +kernel
theorem dJ2_getChar_3b067_15 : decode mJ2_getChar_3b067.2.1 15 = .ok (.if_icmp .lt 13, 3) := by decide +kernel
theorem dJ2_getChar_3b067_18 : decode mJ2_getChar_3b067.2.1 18 = .ok (.new 52, 3) := by decide +kernel
theorem dJ2_getChar_3b067_21 : decode mJ2_getChar_3b067.2.1 21 = .ok (.dup, 1) := by decide +kernel
theorem dJ2_getChar_3b067_22 : decode mJ2_getChar_3b067.2.1 22 = .ok (.ldc 54, 2) := by decide +kernel
theorem dJ2_getChar_3b067_24 : decode mJ2_getChar_3b067.2.1 24 = .ok (.invokespecial 56, 3) := by decide +kernel
theorem dJ2_getChar_3b067_27 : decode mJ2_getChar_3b067.2.1 27 = .ok (.athrow, 1) := by decide +kernel
theorem dJ2_getChar_3b067_28 : decode mJ2_getChar_3b067.2.1 28 = .ok (.iload_n 1, 1) := by decide +kernel
theorem dJ2_getChar_3b067_29 : decode mJ2_getChar_3b067.2.1 29 = .ok (.iconst 1, 1) := by decide +kernel
theorem dJ2_getChar_3b067_30 : decode mJ2_getChar_3b067.2.1 30 = .ok (.ishl, 1) := by decide +kernel
theorem dJ2_getChar_3b067_31 : decode mJ2_getChar_3b067.2.1 31 = .ok (.istore_n 1, 1) := by decide +kernel
theorem dJ2_getChar_3b067_32 : decode mJ2_getChar_3b067.2.1 32 = .ok (.aload_n 0, 1) := by decide +kernel
theorem dJ2_getChar_3b067_33 : decode mJ2_getChar_3b067.2.1 33 = .ok (.iload_n 1, 1) := by decide +kernel
theorem dJ2_getChar_3b067_34 : decode mJ2_getChar_3b067.2.1 34 = .ok (.iinc 1 1, 3) := by decide +kernel
theorem dJ2_getChar_3b067_37 : decode mJ2_getChar_3b067.2.1 37 = .ok (.baload, 1) := by decide +kernel
theorem dJ2_getChar_3b067_38 : decode mJ2_getChar_3b067.2.1 38 = .ok (.sipush 255, 3) := by decide +kernel
theorem dJ2_getChar_3b067_41 : decode mJ2_getChar_3b067.2.1 41 = .ok (.iand, 1) := by decide +kernel
theorem dJ2_getChar_3b067_42 : decode mJ2_getChar_3b067.2.1 42 = .ok (.getstatic 59, 3) := by decide +kernel
theorem dJ2_getChar_3b067_45 : decode mJ2_getChar_3b067.2.1 45 = .ok (.ishl, 1) := by decide +kernel
theorem dJ2_getChar_3b067_46 : decode mJ2_getChar_3b067.2.1 46 = .ok (.aload_n 0, 1) := by decide +kernel
theorem dJ2_getChar_3b067_47 : decode mJ2_getChar_3b067.2.1 47 = .ok (.iload_n 1, 1) := by decide +kernel
theorem dJ2_getChar_3b067_48 : decode mJ2_getChar_3b067.2.1 48 = .ok (.baload, 1) := by decide +kernel
theorem dJ2_getChar_3b067_49 : decode mJ2_getChar_3b067.2.1 49 = .ok (.sipush 255, 3) := by decide +kernel
theorem dJ2_getChar_3b067_52 : decode mJ2_getChar_3b067.2.1 52 = .ok (.iand, 1) := by decide +kernel
theorem dJ2_getChar_3b067_53 : decode mJ2_getChar_3b067.2.1 53 = .ok (.getstatic 63, 3) := by decide +kernel
theorem dJ2_getChar_3b067_56 : decode mJ2_getChar_3b067.2.1 56 = .ok (.ishl, 1) := by decide +kernel
theorem dJ2_getChar_3b067_57 : decode mJ2_getChar_3b067.2.1 57 = .ok (.ior, 1) := by decide +kernel
theorem dJ2_getChar_3b067_58 : decode mJ2_getChar_3b067.2.1 58 = .ok (.i2c, 1) := by decide +kernel
theorem dJ2_getChar_3b067_59 : decode mJ2_getChar_3b067.2.1 59 = .ok (.ireturn, 1) := by decide +kernel
theorem dJ2_length_9d52b_0 : decode mJ2_length_9d52b.2.1 0 = .ok (.aload_n 0, 1) := by decide +kernel
theorem dJ2_length_9d52b_1 : decode mJ2_length_9d52b.2.1 1 = .ok (.arraylength, 1) := by decide +kernel
theorem dJ2_length_9d52b_2 : decode mJ2_length_9d52b.2.1 2 = .ok (.iconst 1, 1) := by decide +kernel
theorem dJ2_length_9d52b_3 : decode mJ2_length_9d52b.2.1 3 = .ok (.ishr, 1) := by decide +kernel
theorem dJ2_length_9d52b_4 : decode mJ2_length_9d52b.2.1 4 = .ok (.ireturn, 1) := by decide +kernel
theorem dJ3_checkIndex_8e157_0 : decode mJ3_checkIndex_8e157.2.1 0 = .ok (.iload_n 0, 1) := by decide +kernel
theorem dJ3_checkIndex_8e157_1 : decode mJ3_checkIndex_8e157.2.1 1 = .ok (.ifCond .lt 8, 3) := by decide +kernel
theorem dJ3_checkIndex_8e157_4 : decode mJ3_checkIndex_8e157.2.1 4 = .ok (.iload_n 0, 1) := by decide +kernel
theorem dJ3_checkIndex_8e157_5 : decode mJ3_checkIndex_8e157.2.1 5 = .ok (.iload_n 1, 1) := by decide +kernel
theorem dJ3_checkIndex_8e157_6 : decode mJ3_checkIndex_8e157.2.1 6 = .ok (.if_icmp .lt 10, 3) := by decide +kernel
theorem dJ3_checkIndex_8e157_9 : decode mJ3_checkIndex_8e157.2.1 9 = .ok (.aload_n 2, 1) := by decide +kernel
theorem dJ3_checkIndex_8e157_10 : decode mJ3_checkIndex_8e157.2.1 10 = .ok (.iload_n 0, 1) := by decide +kernel
theorem dJ3_checkIndex_8e157_11 : decode mJ3_checkIndex_8e157.2.1 11 = .ok (.iload_n 1, 1) := by decide +kernel
theorem dJ3_checkIndex_8e157_12 : decode mJ3_checkIndex_8e157.2.1 12 = .ok (.invokestatic 95, 3) := by decide +kernel
theorem dJ3_checkIndex_8e157_15 : decode mJ3_checkIndex_8e157.2.1 15 = .ok (.athrow, 1) := by decide +kernel
theorem dJ3_checkIndex_8e157_16 : decode mJ3_checkIndex_8e157.2.1 16 = .ok (.iload_n 0, 1) := by decide +kernel
theorem dJ3_checkIndex_8e157_17 : decode mJ3_checkIndex_8e157.2.1 17 = .ok (.ireturn, 1) := by decide +kernel
theorem dJ9_abs_0f7a4_0 : decode mJ9_abs_0f7a4.2.1 0 = .ok (.iload_n 0, 1) := by decide +kernel
theorem dJ9_abs_0f7a4_1 : decode mJ9_abs_0f7a4.2.1 1 = .ok (.ifCond .ge 8, 3) := by decide +kernel
theorem dJ9_abs_0f7a4_4 : decode mJ9_abs_0f7a4.2.1 4 = .ok (.iload_n 0, 1) := by decide +kernel
theorem dJ9_abs_0f7a4_5 : decode mJ9_abs_0f7a4.2.1 5 = .ok (.ineg, 1) := by decide +kernel
theorem dJ9_abs_0f7a4_6 : decode mJ9_abs_0f7a4.2.1 6 = .ok (.goto 4, 3) := by decide +kernel
theorem dJ9_abs_0f7a4_9 : decode mJ9_abs_0f7a4.2.1 9 = .ok (.iload_n 0, 1) := by decide +kernel
theorem dJ9_abs_0f7a4_10 : decode mJ9_abs_0f7a4.2.1 10 = .ok (.ireturn, 1) := by decide +kernel
theorem dJ9_max_7cf53_0 : decode mJ9_max_7cf53.2.1 0 = .ok (.iload_n 0, 1) := by decide +kernel
theorem dJ9_max_7cf53_1 : decode mJ9_max_7cf53.2.1 1 = .ok (.iload_n 1, 1) := by decide +kernel
theorem dJ9_max_7cf53_2 : decode mJ9_max_7cf53.2.1 2 = .ok (.if_icmp .lt 7, 3) := by decide +kernel
theorem dJ9_max_7cf53_5 : decode mJ9_max_7cf53.2.1 5 = .ok (.iload_n 0, 1) := by decide +kernel
theorem dJ9_max_7cf53_6 : decode mJ9_max_7cf53.2.1 6 = .ok (.goto 4, 3) := by decide +kernel
theorem dJ9_max_7cf53_9 : decode mJ9_max_7cf53.2.1 9 = .ok (.iload_n 1, 1) := by decide +kernel
theorem dJ9_max_7cf53_10 : decode mJ9_max_7cf53.2.1 10 = .ok (.ireturn, 1) := by decide +kernel
theorem dJ9_min_7cf53_0 : decode mJ9_min_7cf53.2.1 0 = .ok (.iload_n 0, 1) := by decide +kernel
theorem dJ9_min_7cf53_1 : decode mJ9_min_7cf53.2.1 1 = .ok (.iload_n 1, 1) := by decide +kernel
theorem dJ9_min_7cf53_2 : decode mJ9_min_7cf53.2.1 2 = .ok (.if_icmp .gt 7, 3) := by decide +kernel
theorem dJ9_min_7cf53_5 : decode mJ9_min_7cf53.2.1 5 = .ok (.iload_n 0, 1) := by decide +kernel
theorem dJ9_min_7cf53_6 : decode mJ9_min_7cf53.2.1 6 = .ok (.goto 4, 3) := by decide +kernel
theorem dJ9_min_7cf53_9 : decode mJ9_min_7cf53.2.1 9 = .ok (.iload_n 1, 1) := by decide +kernel
theorem dJ9_min_7cf53_10 : decode mJ9_min_7cf53.2.1 10 = .ok (.ireturn, 1) := by decide +kernel
theorem dL_brought_0 : decode cL_brought 0 = .ok (.aload_n 2, 1) := by decide +kernel
theorem dL_brought_1 : decode cL_brought 1 = .ok (.iconst 0, 1) := by decide +kernel
theorem dL_brought_2 : decode cL_brought 2 = .ok (.aload_n 0, 1) := by decide +kernel
theorem dL_brought_3 : decode cL_brought 3 = .ok (.iload_n 1, 1) := by decide +kernel
theorem dL_brought_4 : decode cL_brought 4 = .ok (.invokevirtual 7, 3) := by decide +kernel
theorem dL_brought_7 : decode cL_brought 7 = .ok (.i2l, 1) := by decide +kernel
theorem dL_brought_8 : decode cL_brought 8 = .ok (.lastore, 1) := by decide +kernel
theorem dL_brought_9 : decode cL_brought 9 = .ok (.goto 6, 3) := by decide +kernel
theorem dL_brought_12 : decode cL_brought 12 = .ok (.astore_n 3, 1) := by decide +kernel
theorem dL_brought_13 : decode cL_brought 13 = .ok (.iconst 1, 1) := by decide +kernel
theorem dL_brought_14 : decode cL_brought 14 = .ok (.ireturn, 1) := by decide +kernel
theorem dL_brought_15 : decode cL_brought 15 = .ok (.iconst 0, 1) := by decide +kernel
theorem dL_brought_16 : decode cL_brought 16 = .ok (.ireturn, 1) := by decide +kernel
theorem dL_law_0 : decode mL_law.2.1 0 = .ok (.new 8, 3) := by decide +kernel
theorem dL_law_3 : decode mL_law.2.1 3 = .ok (.dup, 1) := by decide +kernel
theorem dL_law_4 : decode mL_law.2.1 4 = .ok (.invokespecial 15, 3) := by decide +kernel
theorem dL_law_7 : decode mL_law.2.1 7 = .ok (.astore_n 1, 1) := by decide +kernel
theorem dL_law_8 : decode mL_law.2.1 8 = .ok (.new 16, 3) := by decide +kernel
theorem dL_law_11 : decode mL_law.2.1 11 = .ok (.dup, 1) := by decide +kernel
theorem dL_law_12 : decode mL_law.2.1 12 = .ok (.invokespecial 18, 3) := by decide +kernel
theorem dL_law_15 : decode mL_law.2.1 15 = .ok (.astore_n 2, 1) := by decide +kernel
theorem dL_law_16 : decode mL_law.2.1 16 = .ok (.iconst 1, 1) := by decide +kernel
theorem dL_law_17 : decode mL_law.2.1 17 = .ok (.newarray .long, 2) := by decide +kernel
theorem dL_law_19 : decode mL_law.2.1 19 = .ok (.astore_n 3, 1) := by decide +kernel
theorem dL_law_20 : decode mL_law.2.1 20 = .ok (.iconst 0, 1) := by decide +kernel
theorem dL_law_21 : decode mL_law.2.1 21 = .ok (.istore 4, 2) := by decide +kernel
theorem dL_law_23 : decode mL_law.2.1 23 = .ok (.iload 4, 2) := by decide +kernel
theorem dL_law_25 : decode mL_law.2.1 25 = .ok (.aload_n 0, 1) := by decide +kernel
theorem dL_law_26 : decode mL_law.2.1 26 = .ok (.arraylength, 1) := by decide +kernel
theorem dL_law_27 : decode mL_law.2.1 27 = .ok (.bipush 6, 2) := by decide +kernel
theorem dL_law_29 : decode mL_law.2.1 29 = .ok (.isub, 1) := by decide +kernel
theorem dL_law_30 : decode mL_law.2.1 30 = .ok (.if_icmp .gt 1016, 3) := by decide +kernel
theorem dL_law_33 : decode mL_law.2.1 33 = .ok (.aload_n 0, 1) := by decide +kernel
theorem dL_law_34 : decode mL_law.2.1 34 = .ok (.iload 4, 2) := by decide +kernel
theorem dL_law_36 : decode mL_law.2.1 36 = .ok (.iaload, 1) := by decide +kernel
theorem dL_law_37 : decode mL_law.2.1 37 = .ok (.bipush 31, 2) := by decide +kernel
theorem dL_law_39 : decode mL_law.2.1 39 = .ok (.iand, 1) := by decide +kernel
theorem dL_law_40 : decode mL_law.2.1 40 = .ok (.tableswitch 1000 0 20 #[100, 165, 226, 275, 324, 385, 446, 471, 524, 549, 586, 635, 708, 733, 746, 759, 796, 845, 882, 938, 975], 100) := by decide +kernel
theorem dL_law_140 : decode mL_law.2.1 140 = .ok (.aload_n 1, 1) := by decide +kernel
theorem dL_law_141 : decode mL_law.2.1 141 = .ok (.aload_n 0, 1) := by decide +kernel
theorem dL_law_142 : decode mL_law.2.1 142 = .ok (.iload 4, 2) := by decide +kernel
theorem dL_law_144 : decode mL_law.2.1 144 = .ok (.iconst 1, 1) := by decide +kernel
theorem dL_law_145 : decode mL_law.2.1 145 = .ok (.iadd, 1) := by decide +kernel
theorem dL_law_146 : decode mL_law.2.1 146 = .ok (.iaload, 1) := by decide +kernel
theorem dL_law_147 : decode mL_law.2.1 147 = .ok (.aload_n 0, 1) := by decide +kernel
theorem dL_law_148 : decode mL_law.2.1 148 = .ok (.iload 4, 2) := by decide +kernel
theorem dL_law_150 : decode mL_law.2.1 150 = .ok (.iconst 2, 1) := by decide +kernel
theorem dL_law_151 : decode mL_law.2.1 151 = .ok (.iadd, 1) := by decide +kernel
theorem dL_law_152 : decode mL_law.2.1 152 = .ok (.iaload, 1) := by decide +kernel
theorem dL_law_153 : decode mL_law.2.1 153 = .ok (.aload_n 0, 1) := by decide +kernel
theorem dL_law_154 : decode mL_law.2.1 154 = .ok (.iload 4, 2) := by decide +kernel
theorem dL_law_156 : decode mL_law.2.1 156 = .ok (.iconst 3, 1) := by decide +kernel
theorem dL_law_157 : decode mL_law.2.1 157 = .ok (.iadd, 1) := by decide +kernel
theorem dL_law_158 : decode mL_law.2.1 158 = .ok (.iaload, 1) := by decide +kernel
theorem dL_law_159 : decode mL_law.2.1 159 = .ok (.ifCond .eq 7, 3) := by decide +kernel
theorem dL_law_162 : decode mL_law.2.1 162 = .ok (.iconst 1, 1) := by decide +kernel
theorem dL_law_163 : decode mL_law.2.1 163 = .ok (.goto 4, 3) := by decide +kernel
theorem dL_law_166 : decode mL_law.2.1 166 = .ok (.iconst 0, 1) := by decide +kernel
theorem dL_law_167 : decode mL_law.2.1 167 = .ok (.invokevirtual 19, 3) := by decide +kernel
theorem dL_law_170 : decode mL_law.2.1 170 = .ok (.aload_n 2, 1) := by decide +kernel
theorem dL_law_171 : decode mL_law.2.1 171 = .ok (.aload_n 0, 1) := by decide +kernel
theorem dL_law_172 : decode mL_law.2.1 172 = .ok (.iload 4, 2) := by decide +kernel
theorem dL_law_174 : decode mL_law.2.1 174 = .ok (.iconst 1, 1) := by decide +kernel
theorem dL_law_175 : decode mL_law.2.1 175 = .ok (.iadd, 1) := by decide +kernel
theorem dL_law_176 : decode mL_law.2.1 176 = .ok (.iaload, 1) := by decide +kernel
theorem dL_law_177 : decode mL_law.2.1 177 = .ok (.aload_n 0, 1) := by decide +kernel
theorem dL_law_178 : decode mL_law.2.1 178 = .ok (.iload 4, 2) := by decide +kernel
theorem dL_law_180 : decode mL_law.2.1 180 = .ok (.iconst 2, 1) := by decide +kernel
theorem dL_law_181 : decode mL_law.2.1 181 = .ok (.iadd, 1) := by decide +kernel
theorem dL_law_182 : decode mL_law.2.1 182 = .ok (.iaload, 1) := by decide +kernel
theorem dL_law_183 : decode mL_law.2.1 183 = .ok (.aload_n 0, 1) := by decide +kernel
theorem dL_law_184 : decode mL_law.2.1 184 = .ok (.iload 4, 2) := by decide +kernel
theorem dL_law_186 : decode mL_law.2.1 186 = .ok (.iconst 3, 1) := by decide +kernel
theorem dL_law_187 : decode mL_law.2.1 187 = .ok (.iadd, 1) := by decide +kernel
theorem dL_law_188 : decode mL_law.2.1 188 = .ok (.iaload, 1) := by decide +kernel
theorem dL_law_189 : decode mL_law.2.1 189 = .ok (.ifCond .eq 7, 3) := by decide +kernel
theorem dL_law_192 : decode mL_law.2.1 192 = .ok (.iconst 1, 1) := by decide +kernel
theorem dL_law_193 : decode mL_law.2.1 193 = .ok (.goto 4, 3) := by decide +kernel
theorem dL_law_196 : decode mL_law.2.1 196 = .ok (.iconst 0, 1) := by decide +kernel
theorem dL_law_197 : decode mL_law.2.1 197 = .ok (.invokevirtual 23, 3) := by decide +kernel
theorem dL_law_200 : decode mL_law.2.1 200 = .ok (.if_icmp .eq 840, 3) := by decide +kernel
theorem dL_law_203 : decode mL_law.2.1 203 = .ok (.iconst 0, 1) := by decide +kernel
theorem dL_law_204 : decode mL_law.2.1 204 = .ok (.ireturn, 1) := by decide +kernel
theorem dL_law_205 : decode mL_law.2.1 205 = .ok (.aload_n 1, 1) := by decide +kernel
theorem dL_law_206 : decode mL_law.2.1 206 = .ok (.aload_n 0, 1) := by decide +kernel
theorem dL_law_207 : decode mL_law.2.1 207 = .ok (.iload 4, 2) := by decide +kernel
theorem dL_law_209 : decode mL_law.2.1 209 = .ok (.iconst 1, 1) := by decide +kernel
theorem dL_law_210 : decode mL_law.2.1 210 = .ok (.iadd, 1) := by decide +kernel
theorem dL_law_211 : decode mL_law.2.1 211 = .ok (.iaload, 1) := by decide +kernel
theorem dL_law_212 : decode mL_law.2.1 212 = .ok (.aload_n 0, 1) := by decide +kernel
theorem dL_law_213 : decode mL_law.2.1 213 = .ok (.iload 4, 2) := by decide +kernel
theorem dL_law_215 : decode mL_law.2.1 215 = .ok (.iconst 2, 1) := by decide +kernel
theorem dL_law_216 : decode mL_law.2.1 216 = .ok (.iadd, 1) := by decide +kernel
theorem dL_law_217 : decode mL_law.2.1 217 = .ok (.iaload, 1) := by decide +kernel
theorem dL_law_218 : decode mL_law.2.1 218 = .ok (.aload_n 0, 1) := by decide +kernel
theorem dL_law_219 : decode mL_law.2.1 219 = .ok (.iload 4, 2) := by decide +kernel
theorem dL_law_221 : decode mL_law.2.1 221 = .ok (.iconst 3, 1) := by decide +kernel
theorem dL_law_222 : decode mL_law.2.1 222 = .ok (.iadd, 1) := by decide +kernel
theorem dL_law_223 : decode mL_law.2.1 223 = .ok (.iaload, 1) := by decide +kernel
theorem dL_law_224 : decode mL_law.2.1 224 = .ok (.aload_n 0, 1) := by decide +kernel
theorem dL_law_225 : decode mL_law.2.1 225 = .ok (.iload 4, 2) := by decide +kernel
theorem dL_law_227 : decode mL_law.2.1 227 = .ok (.iconst 4, 1) := by decide +kernel
theorem dL_law_228 : decode mL_law.2.1 228 = .ok (.iadd, 1) := by decide +kernel
theorem dL_law_229 : decode mL_law.2.1 229 = .ok (.iaload, 1) := by decide +kernel
theorem dL_law_230 : decode mL_law.2.1 230 = .ok (.invokevirtual 24, 3) := by decide +kernel
theorem dL_law_233 : decode mL_law.2.1 233 = .ok (.aload_n 2, 1) := by decide +kernel
theorem dL_law_234 : decode mL_law.2.1 234 = .ok (.aload_n 0, 1) := by decide +kernel
theorem dL_law_235 : decode mL_law.2.1 235 = .ok (.iload 4, 2) := by decide +kernel
theorem dL_law_237 : decode mL_law.2.1 237 = .ok (.iconst 1, 1) := by decide +kernel
theorem dL_law_238 : decode mL_law.2.1 238 = .ok (.iadd, 1) := by decide +kernel
theorem dL_law_239 : decode mL_law.2.1 239 = .ok (.iaload, 1) := by decide +kernel
theorem dL_law_240 : decode mL_law.2.1 240 = .ok (.aload_n 0, 1) := by decide +kernel
theorem dL_law_241 : decode mL_law.2.1 241 = .ok (.iload 4, 2) := by decide +kernel
theorem dL_law_243 : decode mL_law.2.1 243 = .ok (.iconst 2, 1) := by decide +kernel
theorem dL_law_244 : decode mL_law.2.1 244 = .ok (.iadd, 1) := by decide +kernel
theorem dL_law_245 : decode mL_law.2.1 245 = .ok (.iaload, 1) := by decide +kernel
theorem dL_law_246 : decode mL_law.2.1 246 = .ok (.aload_n 0, 1) := by decide +kernel
theorem dL_law_247 : decode mL_law.2.1 247 = .ok (.iload 4, 2) := by decide +kernel
theorem dL_law_249 : decode mL_law.2.1 249 = .ok (.iconst 3, 1) := by decide +kernel
theorem dL_law_250 : decode mL_law.2.1 250 = .ok (.iadd, 1) := by decide +kernel
theorem dL_law_251 : decode mL_law.2.1 251 = .ok (.iaload, 1) := by decide +kernel
theorem dL_law_252 : decode mL_law.2.1 252 = .ok (.aload_n 0, 1) := by decide +kernel
theorem dL_law_253 : decode mL_law.2.1 253 = .ok (.iload 4, 2) := by decide +kernel
theorem dL_law_255 : decode mL_law.2.1 255 = .ok (.iconst 4, 1) := by decide +kernel
theorem dL_law_256 : decode mL_law.2.1 256 = .ok (.iadd, 1) := by decide +kernel
theorem dL_law_257 : decode mL_law.2.1 257 = .ok (.iaload, 1) := by decide +kernel
theorem dL_law_258 : decode mL_law.2.1 258 = .ok (.invokevirtual 28, 3) := by decide +kernel
theorem dL_law_261 : decode mL_law.2.1 261 = .ok (.if_icmp .eq 779, 3) := by decide +kernel
theorem dL_law_264 : decode mL_law.2.1 264 = .ok (.iconst 0, 1) := by decide +kernel
theorem dL_law_265 : decode mL_law.2.1 265 = .ok (.ireturn, 1) := by decide +kernel
theorem dL_law_266 : decode mL_law.2.1 266 = .ok (.aload_n 1, 1) := by decide +kernel
theorem dL_law_267 : decode mL_law.2.1 267 = .ok (.aload_n 0, 1) := by decide +kernel
theorem dL_law_268 : decode mL_law.2.1 268 = .ok (.iload 4, 2) := by decide +kernel
theorem dL_law_270 : decode mL_law.2.1 270 = .ok (.iconst 1, 1) := by decide +kernel
theorem dL_law_271 : decode mL_law.2.1 271 = .ok (.iadd, 1) := by decide +kernel
theorem dL_law_272 : decode mL_law.2.1 272 = .ok (.iaload, 1) := by decide +kernel
theorem dL_law_273 : decode mL_law.2.1 273 = .ok (.aload_n 0, 1) := by decide +kernel
theorem dL_law_274 : decode mL_law.2.1 274 = .ok (.iload 4, 2) := by decide +kernel
theorem dL_law_276 : decode mL_law.2.1 276 = .ok (.iconst 2, 1) := by decide +kernel
theorem dL_law_277 : decode mL_law.2.1 277 = .ok (.iadd, 1) := by decide +kernel
theorem dL_law_278 : decode mL_law.2.1 278 = .ok (.iaload, 1) := by decide +kernel
theorem dL_law_279 : decode mL_law.2.1 279 = .ok (.aload_n 0, 1) := by decide +kernel
theorem dL_law_280 : decode mL_law.2.1 280 = .ok (.iload 4, 2) := by decide +kernel
theorem dL_law_282 : decode mL_law.2.1 282 = .ok (.iconst 3, 1) := by decide +kernel
theorem dL_law_283 : decode mL_law.2.1 283 = .ok (.iadd, 1) := by decide +kernel
theorem dL_law_284 : decode mL_law.2.1 284 = .ok (.iaload, 1) := by decide +kernel
theorem dL_law_285 : decode mL_law.2.1 285 = .ok (.invokevirtual 29, 3) := by decide +kernel
theorem dL_law_288 : decode mL_law.2.1 288 = .ok (.aload_n 2, 1) := by decide +kernel
theorem dL_law_289 : decode mL_law.2.1 289 = .ok (.aload_n 0, 1) := by decide +kernel
theorem dL_law_290 : decode mL_law.2.1 290 = .ok (.iload 4, 2) := by decide +kernel
theorem dL_law_292 : decode mL_law.2.1 292 = .ok (.iconst 1, 1) := by decide +kernel
theorem dL_law_293 : decode mL_law.2.1 293 = .ok (.iadd, 1) := by decide +kernel
theorem dL_law_294 : decode mL_law.2.1 294 = .ok (.iaload, 1) := by decide +kernel
theorem dL_law_295 : decode mL_law.2.1 295 = .ok (.aload_n 0, 1) := by decide +kernel
theorem dL_law_296 : decode mL_law.2.1 296 = .ok (.iload 4, 2) := by decide +kernel
theorem dL_law_298 : decode mL_law.2.1 298 = .ok (.iconst 2, 1) := by decide +kernel
theorem dL_law_299 : decode mL_law.2.1 299 = .ok (.iadd, 1) := by decide +kernel
theorem dL_law_300 : decode mL_law.2.1 300 = .ok (.iaload, 1) := by decide +kernel
theorem dL_law_301 : decode mL_law.2.1 301 = .ok (.aload_n 0, 1) := by decide +kernel
theorem dL_law_302 : decode mL_law.2.1 302 = .ok (.iload 4, 2) := by decide +kernel
theorem dL_law_304 : decode mL_law.2.1 304 = .ok (.iconst 3, 1) := by decide +kernel
theorem dL_law_305 : decode mL_law.2.1 305 = .ok (.iadd, 1) := by decide +kernel
theorem dL_law_306 : decode mL_law.2.1 306 = .ok (.iaload, 1) := by decide +kernel
theorem dL_law_307 : decode mL_law.2.1 307 = .ok (.invokevirtual 33, 3) := by decide +kernel
theorem dL_law_310 : decode mL_law.2.1 310 = .ok (.if_icmp .eq 730, 3) := by decide +kernel
theorem dL_law_313 : decode mL_law.2.1 313 = .ok (.iconst 0, 1) := by decide +kernel
theorem dL_law_314 : decode mL_law.2.1 314 = .ok (.ireturn, 1) := by decide +kernel
theorem dL_law_315 : decode mL_law.2.1 315 = .ok (.aload_n 1, 1) := by decide +kernel
theorem dL_law_316 : decode mL_law.2.1 316 = .ok (.aload_n 0, 1) := by decide +kernel
theorem dL_law_317 : decode mL_law.2.1 317 = .ok (.iload 4, 2) := by decide +kernel
theorem dL_law_319 : decode mL_law.2.1 319 = .ok (.iconst 1, 1) := by decide +kernel
theorem dL_law_320 : decode mL_law.2.1 320 = .ok (.iadd, 1) := by decide +kernel
theorem dL_law_321 : decode mL_law.2.1 321 = .ok (.iaload, 1) := by decide +kernel
theorem dL_law_322 : decode mL_law.2.1 322 = .ok (.aload_n 0, 1) := by decide +kernel
theorem dL_law_323 : decode mL_law.2.1 323 = .ok (.iload 4, 2) := by decide +kernel
theorem dL_law_325 : decode mL_law.2.1 325 = .ok (.iconst 2, 1) := by decide +kernel
theorem dL_law_326 : decode mL_law.2.1 326 = .ok (.iadd, 1) := by decide +kernel
theorem dL_law_327 : decode mL_law.2.1 327 = .ok (.iaload, 1) := by decide +kernel
theorem dL_law_328 : decode mL_law.2.1 328 = .ok (.aload_n 0, 1) := by decide +kernel
theorem dL_law_329 : decode mL_law.2.1 329 = .ok (.iload 4, 2) := by decide +kernel
theorem dL_law_331 : decode mL_law.2.1 331 = .ok (.iconst 3, 1) := by decide +kernel
theorem dL_law_332 : decode mL_law.2.1 332 = .ok (.iadd, 1) := by decide +kernel
theorem dL_law_333 : decode mL_law.2.1 333 = .ok (.iaload, 1) := by decide +kernel
theorem dL_law_334 : decode mL_law.2.1 334 = .ok (.invokevirtual 34, 3) := by decide +kernel
theorem dL_law_337 : decode mL_law.2.1 337 = .ok (.aload_n 2, 1) := by decide +kernel
theorem dL_law_338 : decode mL_law.2.1 338 = .ok (.aload_n 0, 1) := by decide +kernel
theorem dL_law_339 : decode mL_law.2.1 339 = .ok (.iload 4, 2) := by decide +kernel
theorem dL_law_341 : decode mL_law.2.1 341 = .ok (.iconst 1, 1) := by decide +kernel
theorem dL_law_342 : decode mL_law.2.1 342 = .ok (.iadd, 1) := by decide +kernel
theorem dL_law_343 : decode mL_law.2.1 343 = .ok (.iaload, 1) := by decide +kernel
theorem dL_law_344 : decode mL_law.2.1 344 = .ok (.aload_n 0, 1) := by decide +kernel
theorem dL_law_345 : decode mL_law.2.1 345 = .ok (.iload 4, 2) := by decide +kernel
theorem dL_law_347 : decode mL_law.2.1 347 = .ok (.iconst 2, 1) := by decide +kernel
theorem dL_law_348 : decode mL_law.2.1 348 = .ok (.iadd, 1) := by decide +kernel
theorem dL_law_349 : decode mL_law.2.1 349 = .ok (.iaload, 1) := by decide +kernel
theorem dL_law_350 : decode mL_law.2.1 350 = .ok (.aload_n 0, 1) := by decide +kernel
theorem dL_law_351 : decode mL_law.2.1 351 = .ok (.iload 4, 2) := by decide +kernel
theorem dL_law_353 : decode mL_law.2.1 353 = .ok (.iconst 3, 1) := by decide +kernel
theorem dL_law_354 : decode mL_law.2.1 354 = .ok (.iadd, 1) := by decide +kernel
theorem dL_law_355 : decode mL_law.2.1 355 = .ok (.iaload, 1) := by decide +kernel
theorem dL_law_356 : decode mL_law.2.1 356 = .ok (.invokevirtual 37, 3) := by decide +kernel
theorem dL_law_359 : decode mL_law.2.1 359 = .ok (.if_icmp .eq 681, 3) := by decide +kernel
theorem dL_law_362 : decode mL_law.2.1 362 = .ok (.iconst 0, 1) := by decide +kernel
theorem dL_law_363 : decode mL_law.2.1 363 = .ok (.ireturn, 1) := by decide +kernel
theorem dL_law_364 : decode mL_law.2.1 364 = .ok (.aload_n 1, 1) := by decide +kernel
theorem dL_law_365 : decode mL_law.2.1 365 = .ok (.aload_n 0, 1) := by decide +kernel
theorem dL_law_366 : decode mL_law.2.1 366 = .ok (.iload 4, 2) := by decide +kernel
theorem dL_law_368 : decode mL_law.2.1 368 = .ok (.iconst 1, 1) := by decide +kernel
theorem dL_law_369 : decode mL_law.2.1 369 = .ok (.iadd, 1) := by decide +kernel
theorem dL_law_370 : decode mL_law.2.1 370 = .ok (.iaload, 1) := by decide +kernel
theorem dL_law_371 : decode mL_law.2.1 371 = .ok (.aload_n 0, 1) := by decide +kernel
theorem dL_law_372 : decode mL_law.2.1 372 = .ok (.iload 4, 2) := by decide +kernel
theorem dL_law_374 : decode mL_law.2.1 374 = .ok (.iconst 2, 1) := by decide +kernel
theorem dL_law_375 : decode mL_law.2.1 375 = .ok (.iadd, 1) := by decide +kernel
theorem dL_law_376 : decode mL_law.2.1 376 = .ok (.iaload, 1) := by decide +kernel
theorem dL_law_377 : decode mL_law.2.1 377 = .ok (.aload_n 0, 1) := by decide +kernel
theorem dL_law_378 : decode mL_law.2.1 378 = .ok (.iload 4, 2) := by decide +kernel
theorem dL_law_380 : decode mL_law.2.1 380 = .ok (.iconst 3, 1) := by decide +kernel
theorem dL_law_381 : decode mL_law.2.1 381 = .ok (.iadd, 1) := by decide +kernel
theorem dL_law_382 : decode mL_law.2.1 382 = .ok (.iaload, 1) := by decide +kernel
theorem dL_law_383 : decode mL_law.2.1 383 = .ok (.aload_n 0, 1) := by decide +kernel
theorem dL_law_384 : decode mL_law.2.1 384 = .ok (.iload 4, 2) := by decide +kernel
theorem dL_law_386 : decode mL_law.2.1 386 = .ok (.iconst 4, 1) := by decide +kernel
theorem dL_law_387 : decode mL_law.2.1 387 = .ok (.iadd, 1) := by decide +kernel
theorem dL_law_388 : decode mL_law.2.1 388 = .ok (.iaload, 1) := by decide +kernel
theorem dL_law_389 : decode mL_law.2.1 389 = .ok (.invokevirtual 38, 3) := by decide +kernel
theorem dL_law_392 : decode mL_law.2.1 392 = .ok (.aload_n 2, 1) := by decide +kernel
theorem dL_law_393 : decode mL_law.2.1 393 = .ok (.aload_n 0, 1) := by decide +kernel
theorem dL_law_394 : decode mL_law.2.1 394 = .ok (.iload 4, 2) := by decide +kernel
theorem dL_law_396 : decode mL_law.2.1 396 = .ok (.iconst 1, 1) := by decide +kernel
theorem dL_law_397 : decode mL_law.2.1 397 = .ok (.iadd, 1) := by decide +kernel
theorem dL_law_398 : decode mL_law.2.1 398 = .ok (.iaload, 1) := by decide +kernel
theorem dL_law_399 : decode mL_law.2.1 399 = .ok (.aload_n 0, 1) := by decide +kernel
theorem dL_law_400 : decode mL_law.2.1 400 = .ok (.iload 4, 2) := by decide +kernel
theorem dL_law_402 : decode mL_law.2.1 402 = .ok (.iconst 2, 1) := by decide +kernel
theorem dL_law_403 : decode mL_law.2.1 403 = .ok (.iadd, 1) := by decide +kernel
theorem dL_law_404 : decode mL_law.2.1 404 = .ok (.iaload, 1) := by decide +kernel
theorem dL_law_405 : decode mL_law.2.1 405 = .ok (.aload_n 0, 1) := by decide +kernel
theorem dL_law_406 : decode mL_law.2.1 406 = .ok (.iload 4, 2) := by decide +kernel
theorem dL_law_408 : decode mL_law.2.1 408 = .ok (.iconst 3, 1) := by decide +kernel
theorem dL_law_409 : decode mL_law.2.1 409 = .ok (.iadd, 1) := by decide +kernel
theorem dL_law_410 : decode mL_law.2.1 410 = .ok (.iaload, 1) := by decide +kernel
theorem dL_law_411 : decode mL_law.2.1 411 = .ok (.aload_n 0, 1) := by decide +kernel
theorem dL_law_412 : decode mL_law.2.1 412 = .ok (.iload 4, 2) := by decide +kernel
theorem dL_law_414 : decode mL_law.2.1 414 = .ok (.iconst 4, 1) := by decide +kernel
theorem dL_law_415 : decode mL_law.2.1 415 = .ok (.iadd, 1) := by decide +kernel
theorem dL_law_416 : decode mL_law.2.1 416 = .ok (.iaload, 1) := by decide +kernel
theorem dL_law_417 : decode mL_law.2.1 417 = .ok (.invokevirtual 41, 3) := by decide +kernel
theorem dL_law_420 : decode mL_law.2.1 420 = .ok (.if_icmp .eq 620, 3) := by decide +kernel
theorem dL_law_423 : decode mL_law.2.1 423 = .ok (.iconst 0, 1) := by decide +kernel
theorem dL_law_424 : decode mL_law.2.1 424 = .ok (.ireturn, 1) := by decide +kernel
theorem dL_law_425 : decode mL_law.2.1 425 = .ok (.aload_n 1, 1) := by decide +kernel
theorem dL_law_426 : decode mL_law.2.1 426 = .ok (.aload_n 0, 1) := by decide +kernel
theorem dL_law_427 : decode mL_law.2.1 427 = .ok (.iload 4, 2) := by decide +kernel
theorem dL_law_429 : decode mL_law.2.1 429 = .ok (.iconst 1, 1) := by decide +kernel
theorem dL_law_430 : decode mL_law.2.1 430 = .ok (.iadd, 1) := by decide +kernel
theorem dL_law_431 : decode mL_law.2.1 431 = .ok (.iaload, 1) := by decide +kernel
theorem dL_law_432 : decode mL_law.2.1 432 = .ok (.aload_n 0, 1) := by decide +kernel
theorem dL_law_433 : decode mL_law.2.1 433 = .ok (.iload 4, 2) := by decide +kernel
theorem dL_law_435 : decode mL_law.2.1 435 = .ok (.iconst 2, 1) := by decide +kernel
theorem dL_law_436 : decode mL_law.2.1 436 = .ok (.iadd, 1) := by decide +kernel
theorem dL_law_437 : decode mL_law.2.1 437 = .ok (.iaload, 1) := by decide +kernel
theorem dL_law_438 : decode mL_law.2.1 438 = .ok (.aload_n 0, 1) := by decide +kernel
theorem dL_law_439 : decode mL_law.2.1 439 = .ok (.iload 4, 2) := by decide +kernel
theorem dL_law_441 : decode mL_law.2.1 441 = .ok (.iconst 3, 1) := by decide +kernel
theorem dL_law_442 : decode mL_law.2.1 442 = .ok (.iadd, 1) := by decide +kernel
theorem dL_law_443 : decode mL_law.2.1 443 = .ok (.iaload, 1) := by decide +kernel
theorem dL_law_444 : decode mL_law.2.1 444 = .ok (.aload_n 0, 1) := by decide +kernel
theorem dL_law_445 : decode mL_law.2.1 445 = .ok (.iload 4, 2) := by decide +kernel
theorem dL_law_447 : decode mL_law.2.1 447 = .ok (.iconst 4, 1) := by decide +kernel
theorem dL_law_448 : decode mL_law.2.1 448 = .ok (.iadd, 1) := by decide +kernel
theorem dL_law_449 : decode mL_law.2.1 449 = .ok (.iaload, 1) := by decide +kernel
theorem dL_law_450 : decode mL_law.2.1 450 = .ok (.invokevirtual 42, 3) := by decide +kernel
theorem dL_law_453 : decode mL_law.2.1 453 = .ok (.aload_n 2, 1) := by decide +kernel
theorem dL_law_454 : decode mL_law.2.1 454 = .ok (.aload_n 0, 1) := by decide +kernel
theorem dL_law_455 : decode mL_law.2.1 455 = .ok (.iload 4, 2) := by decide +kernel
theorem dL_law_457 : decode mL_law.2.1 457 = .ok (.iconst 1, 1) := by decide +kernel
theorem dL_law_458 : decode mL_law.2.1 458 = .ok (.iadd, 1) := by decide +kernel
theorem dL_law_459 : decode mL_law.2.1 459 = .ok (.iaload, 1) := by decide +kernel
theorem dL_law_460 : decode mL_law.2.1 460 = .ok (.aload_n 0, 1) := by decide +kernel
theorem dL_law_461 : decode mL_law.2.1 461 = .ok (.iload 4, 2) := by decide +kernel
theorem dL_law_463 : decode mL_law.2.1 463 = .ok (.iconst 2, 1) := by decide +kernel
theorem dL_law_464 : decode mL_law.2.1 464 = .ok (.iadd, 1) := by decide +kernel
theorem dL_law_465 : decode mL_law.2.1 465 = .ok (.iaload, 1) := by decide +kernel
theorem dL_law_466 : decode mL_law.2.1 466 = .ok (.aload_n 0, 1) := by decide +kernel
theorem dL_law_467 : decode mL_law.2.1 467 = .ok (.iload 4, 2) := by decide +kernel
theorem dL_law_469 : decode mL_law.2.1 469 = .ok (.iconst 3, 1) := by decide +kernel
theorem dL_law_470 : decode mL_law.2.1 470 = .ok (.iadd, 1) := by decide +kernel
theorem dL_law_471 : decode mL_law.2.1 471 = .ok (.iaload, 1) := by decide +kernel
theorem dL_law_472 : decode mL_law.2.1 472 = .ok (.aload_n 0, 1) := by decide +kernel
theorem dL_law_473 : decode mL_law.2.1 473 = .ok (.iload 4, 2) := by decide +kernel
theorem dL_law_475 : decode mL_law.2.1 475 = .ok (.iconst 4, 1) := by decide +kernel
theorem dL_law_476 : decode mL_law.2.1 476 = .ok (.iadd, 1) := by decide +kernel
theorem dL_law_477 : decode mL_law.2.1 477 = .ok (.iaload, 1) := by decide +kernel
theorem dL_law_478 : decode mL_law.2.1 478 = .ok (.invokevirtual 45, 3) := by decide +kernel
theorem dL_law_481 : decode mL_law.2.1 481 = .ok (.if_icmp .eq 559, 3) := by decide +kernel
theorem dL_law_484 : decode mL_law.2.1 484 = .ok (.iconst 0, 1) := by decide +kernel
theorem dL_law_485 : decode mL_law.2.1 485 = .ok (.ireturn, 1) := by decide +kernel
theorem dL_law_486 : decode mL_law.2.1 486 = .ok (.aload_n 1, 1) := by decide +kernel
theorem dL_law_487 : decode mL_law.2.1 487 = .ok (.aload_n 0, 1) := by decide +kernel
theorem dL_law_488 : decode mL_law.2.1 488 = .ok (.iload 4, 2) := by decide +kernel
theorem dL_law_490 : decode mL_law.2.1 490 = .ok (.iconst 1, 1) := by decide +kernel
theorem dL_law_491 : decode mL_law.2.1 491 = .ok (.iadd, 1) := by decide +kernel
theorem dL_law_492 : decode mL_law.2.1 492 = .ok (.iaload, 1) := by decide +kernel
theorem dL_law_493 : decode mL_law.2.1 493 = .ok (.invokevirtual 46, 3) := by decide +kernel
theorem dL_law_496 : decode mL_law.2.1 496 = .ok (.aload_n 2, 1) := by decide +kernel
theorem dL_law_497 : decode mL_law.2.1 497 = .ok (.aload_n 0, 1) := by decide +kernel
theorem dL_law_498 : decode mL_law.2.1 498 = .ok (.iload 4, 2) := by decide +kernel
theorem dL_law_500 : decode mL_law.2.1 500 = .ok (.iconst 1, 1) := by decide +kernel
theorem dL_law_501 : decode mL_law.2.1 501 = .ok (.iadd, 1) := by decide +kernel
theorem dL_law_502 : decode mL_law.2.1 502 = .ok (.iaload, 1) := by decide +kernel
theorem dL_law_503 : decode mL_law.2.1 503 = .ok (.invokevirtual 49, 3) := by decide +kernel
theorem dL_law_506 : decode mL_law.2.1 506 = .ok (.if_icmp .eq 534, 3) := by decide +kernel
theorem dL_law_509 : decode mL_law.2.1 509 = .ok (.iconst 0, 1) := by decide +kernel
theorem dL_law_510 : decode mL_law.2.1 510 = .ok (.ireturn, 1) := by decide +kernel
theorem dL_law_511 : decode mL_law.2.1 511 = .ok (.aload_n 1, 1) := by decide +kernel
theorem dL_law_512 : decode mL_law.2.1 512 = .ok (.aload_n 0, 1) := by decide +kernel
theorem dL_law_513 : decode mL_law.2.1 513 = .ok (.iload 4, 2) := by decide +kernel
theorem dL_law_515 : decode mL_law.2.1 515 = .ok (.iconst 1, 1) := by decide +kernel
theorem dL_law_516 : decode mL_law.2.1 516 = .ok (.iadd, 1) := by decide +kernel
theorem dL_law_517 : decode mL_law.2.1 517 = .ok (.iaload, 1) := by decide +kernel
theorem dL_law_518 : decode mL_law.2.1 518 = .ok (.aload_n 0, 1) := by decide +kernel
theorem dL_law_519 : decode mL_law.2.1 519 = .ok (.iload 4, 2) := by decide +kernel
theorem dL_law_521 : decode mL_law.2.1 521 = .ok (.iconst 2, 1) := by decide +kernel
theorem dL_law_522 : decode mL_law.2.1 522 = .ok (.iadd, 1) := by decide +kernel
theorem dL_law_523 : decode mL_law.2.1 523 = .ok (.iaload, 1) := by decide +kernel
theorem dL_law_524 : decode mL_law.2.1 524 = .ok (.ifCond .eq 7, 3) := by decide +kernel
theorem dL_law_527 : decode mL_law.2.1 527 = .ok (.iconst 1, 1) := by decide +kernel
theorem dL_law_528 : decode mL_law.2.1 528 = .ok (.goto 4, 3) := by decide +kernel
theorem dL_law_531 : decode mL_law.2.1 531 = .ok (.iconst 0, 1) := by decide +kernel
theorem dL_law_532 : decode mL_law.2.1 532 = .ok (.invokevirtual 50, 3) := by decide +kernel
theorem dL_law_535 : decode mL_law.2.1 535 = .ok (.aload_n 2, 1) := by decide +kernel
theorem dL_law_536 : decode mL_law.2.1 536 = .ok (.aload_n 0, 1) := by decide +kernel
theorem dL_law_537 : decode mL_law.2.1 537 = .ok (.iload 4, 2) := by decide +kernel
theorem dL_law_539 : decode mL_law.2.1 539 = .ok (.iconst 1, 1) := by decide +kernel
theorem dL_law_540 : decode mL_law.2.1 540 = .ok (.iadd, 1) := by decide +kernel
theorem dL_law_541 : decode mL_law.2.1 541 = .ok (.iaload, 1) := by decide +kernel
theorem dL_law_542 : decode mL_law.2.1 542 = .ok (.aload_n 0, 1) := by decide +kernel
theorem dL_law_543 : decode mL_law.2.1 543 = .ok (.iload 4, 2) := by decide +kernel
theorem dL_law_545 : decode mL_law.2.1 545 = .ok (.iconst 2, 1) := by decide +kernel
theorem dL_law_546 : decode mL_law.2.1 546 = .ok (.iadd, 1) := by decide +kernel
theorem dL_law_547 : decode mL_law.2.1 547 = .ok (.iaload, 1) := by decide +kernel
theorem dL_law_548 : decode mL_law.2.1 548 = .ok (.ifCond .eq 7, 3) := by decide +kernel
theorem dL_law_551 : decode mL_law.2.1 551 = .ok (.iconst 1, 1) := by decide +kernel
theorem dL_law_552 : decode mL_law.2.1 552 = .ok (.goto 4, 3) := by decide +kernel
theorem dL_law_555 : decode mL_law.2.1 555 = .ok (.iconst 0, 1) := by decide +kernel
theorem dL_law_556 : decode mL_law.2.1 556 = .ok (.invokevirtual 54, 3) := by decide +kernel
theorem dL_law_559 : decode mL_law.2.1 559 = .ok (.if_icmp .eq 481, 3) := by decide +kernel
theorem dL_law_562 : decode mL_law.2.1 562 = .ok (.iconst 0, 1) := by decide +kernel
theorem dL_law_563 : decode mL_law.2.1 563 = .ok (.ireturn, 1) := by decide +kernel
theorem dL_law_564 : decode mL_law.2.1 564 = .ok (.aload_n 1, 1) := by decide +kernel
theorem dL_law_565 : decode mL_law.2.1 565 = .ok (.aload_n 0, 1) := by decide +kernel
theorem dL_law_566 : decode mL_law.2.1 566 = .ok (.iload 4, 2) := by decide +kernel
theorem dL_law_568 : decode mL_law.2.1 568 = .ok (.iconst 1, 1) := by decide +kernel
theorem dL_law_569 : decode mL_law.2.1 569 = .ok (.iadd, 1) := by decide +kernel
theorem dL_law_570 : decode mL_law.2.1 570 = .ok (.iaload, 1) := by decide +kernel
theorem dL_law_571 : decode mL_law.2.1 571 = .ok (.invokevirtual 55, 3) := by decide +kernel
theorem dL_law_574 : decode mL_law.2.1 574 = .ok (.aload_n 2, 1) := by decide +kernel
theorem dL_law_575 : decode mL_law.2.1 575 = .ok (.aload_n 0, 1) := by decide +kernel
theorem dL_law_576 : decode mL_law.2.1 576 = .ok (.iload 4, 2) := by decide +kernel
theorem dL_law_578 : decode mL_law.2.1 578 = .ok (.iconst 1, 1) := by decide +kernel
theorem dL_law_579 : decode mL_law.2.1 579 = .ok (.iadd, 1) := by decide +kernel
theorem dL_law_580 : decode mL_law.2.1 580 = .ok (.iaload, 1) := by decide +kernel
theorem dL_law_581 : decode mL_law.2.1 581 = .ok (.invokevirtual 58, 3) := by decide +kernel
theorem dL_law_584 : decode mL_law.2.1 584 = .ok (.if_icmp .eq 456, 3) := by decide +kernel
theorem dL_law_587 : decode mL_law.2.1 587 = .ok (.iconst 0, 1) := by decide +kernel
theorem dL_law_588 : decode mL_law.2.1 588 = .ok (.ireturn, 1) := by decide +kernel
theorem dL_law_589 : decode mL_law.2.1 589 = .ok (.aload_n 1, 1) := by decide +kernel
theorem dL_law_590 : decode mL_law.2.1 590 = .ok (.aload_n 0, 1) := by decide +kernel
theorem dL_law_591 : decode mL_law.2.1 591 = .ok (.iload 4, 2) := by decide +kernel
theorem dL_law_593 : decode mL_law.2.1 593 = .ok (.iconst 1, 1) := by decide +kernel
theorem dL_law_594 : decode mL_law.2.1 594 = .ok (.iadd, 1) := by decide +kernel
theorem dL_law_595 : decode mL_law.2.1 595 = .ok (.iaload, 1) := by decide +kernel
theorem dL_law_596 : decode mL_law.2.1 596 = .ok (.aload_n 0, 1) := by decide +kernel
theorem dL_law_597 : decode mL_law.2.1 597 = .ok (.iload 4, 2) := by decide +kernel
theorem dL_law_599 : decode mL_law.2.1 599 = .ok (.iconst 2, 1) := by decide +kernel
theorem dL_law_600 : decode mL_law.2.1 600 = .ok (.iadd, 1) := by decide +kernel
theorem dL_law_601 : decode mL_law.2.1 601 = .ok (.iaload, 1) := by decide +kernel
theorem dL_law_602 : decode mL_law.2.1 602 = .ok (.invokevirtual 59, 3) := by decide +kernel
theorem dL_law_605 : decode mL_law.2.1 605 = .ok (.aload_n 2, 1) := by decide +kernel
theorem dL_law_606 : decode mL_law.2.1 606 = .ok (.aload_n 0, 1) := by decide +kernel
theorem dL_law_607 : decode mL_law.2.1 607 = .ok (.iload 4, 2) := by decide +kernel
theorem dL_law_609 : decode mL_law.2.1 609 = .ok (.iconst 1, 1) := by decide +kernel
theorem dL_law_610 : decode mL_law.2.1 610 = .ok (.iadd, 1) := by decide +kernel
theorem dL_law_611 : decode mL_law.2.1 611 = .ok (.iaload, 1) := by decide +kernel
theorem dL_law_612 : decode mL_law.2.1 612 = .ok (.aload_n 0, 1) := by decide +kernel
theorem dL_law_613 : decode mL_law.2.1 613 = .ok (.iload 4, 2) := by decide +kernel
theorem dL_law_615 : decode mL_law.2.1 615 = .ok (.iconst 2, 1) := by decide +kernel
theorem dL_law_616 : decode mL_law.2.1 616 = .ok (.iadd, 1) := by decide +kernel
theorem dL_law_617 : decode mL_law.2.1 617 = .ok (.iaload, 1) := by decide +kernel
theorem dL_law_618 : decode mL_law.2.1 618 = .ok (.invokevirtual 63, 3) := by decide +kernel
theorem dL_law_621 : decode mL_law.2.1 621 = .ok (.if_icmp .eq 419, 3) := by decide +kernel
theorem dL_law_624 : decode mL_law.2.1 624 = .ok (.iconst 0, 1) := by decide +kernel
theorem dL_law_625 : decode mL_law.2.1 625 = .ok (.ireturn, 1) := by decide +kernel
theorem dL_law_626 : decode mL_law.2.1 626 = .ok (.aload_n 1, 1) := by decide +kernel
theorem dL_law_627 : decode mL_law.2.1 627 = .ok (.aload_n 0, 1) := by decide +kernel
theorem dL_law_628 : decode mL_law.2.1 628 = .ok (.iload 4, 2) := by decide +kernel
theorem dL_law_630 : decode mL_law.2.1 630 = .ok (.iconst 1, 1) := by decide +kernel
theorem dL_law_631 : decode mL_law.2.1 631 = .ok (.iadd, 1) := by decide +kernel
theorem dL_law_632 : decode mL_law.2.1 632 = .ok (.iaload, 1) := by decide +kernel
theorem dL_law_633 : decode mL_law.2.1 633 = .ok (.aload_n 0, 1) := by decide +kernel
theorem dL_law_634 : decode mL_law.2.1 634 = .ok (.iload 4, 2) := by decide +kernel
theorem dL_law_636 : decode mL_law.2.1 636 = .ok (.iconst 2, 1) := by decide +kernel
theorem dL_law_637 : decode mL_law.2.1 637 = .ok (.iadd, 1) := by decide +kernel
theorem dL_law_638 : decode mL_law.2.1 638 = .ok (.iaload, 1) := by decide +kernel
theorem dL_law_639 : decode mL_law.2.1 639 = .ok (.aload_n 0, 1) := by decide +kernel
theorem dL_law_640 : decode mL_law.2.1 640 = .ok (.iload 4, 2) := by decide +kernel
theorem dL_law_642 : decode mL_law.2.1 642 = .ok (.iconst 3, 1) := by decide +kernel
theorem dL_law_643 : decode mL_law.2.1 643 = .ok (.iadd, 1) := by decide +kernel
theorem dL_law_644 : decode mL_law.2.1 644 = .ok (.iaload, 1) := by decide +kernel
theorem dL_law_645 : decode mL_law.2.1 645 = .ok (.invokevirtual 64, 3) := by decide +kernel
theorem dL_law_648 : decode mL_law.2.1 648 = .ok (.aload_n 2, 1) := by decide +kernel
theorem dL_law_649 : decode mL_law.2.1 649 = .ok (.aload_n 0, 1) := by decide +kernel
theorem dL_law_650 : decode mL_law.2.1 650 = .ok (.iload 4, 2) := by decide +kernel
theorem dL_law_652 : decode mL_law.2.1 652 = .ok (.iconst 1, 1) := by decide +kernel
theorem dL_law_653 : decode mL_law.2.1 653 = .ok (.iadd, 1) := by decide +kernel
theorem dL_law_654 : decode mL_law.2.1 654 = .ok (.iaload, 1) := by decide +kernel
theorem dL_law_655 : decode mL_law.2.1 655 = .ok (.aload_n 0, 1) := by decide +kernel
theorem dL_law_656 : decode mL_law.2.1 656 = .ok (.iload 4, 2) := by decide +kernel
theorem dL_law_658 : decode mL_law.2.1 658 = .ok (.iconst 2, 1) := by decide +kernel
theorem dL_law_659 : decode mL_law.2.1 659 = .ok (.iadd, 1) := by decide +kernel
theorem dL_law_660 : decode mL_law.2.1 660 = .ok (.iaload, 1) := by decide +kernel
theorem dL_law_661 : decode mL_law.2.1 661 = .ok (.aload_n 0, 1) := by decide +kernel
theorem dL_law_662 : decode mL_law.2.1 662 = .ok (.iload 4, 2) := by decide +kernel
theorem dL_law_664 : decode mL_law.2.1 664 = .ok (.iconst 3, 1) := by decide +kernel
theorem dL_law_665 : decode mL_law.2.1 665 = .ok (.iadd, 1) := by decide +kernel
theorem dL_law_666 : decode mL_law.2.1 666 = .ok (.iaload, 1) := by decide +kernel
theorem dL_law_667 : decode mL_law.2.1 667 = .ok (.invokevirtual 67, 3) := by decide +kernel
theorem dL_law_670 : decode mL_law.2.1 670 = .ok (.if_icmp .eq 370, 3) := by decide +kernel
theorem dL_law_673 : decode mL_law.2.1 673 = .ok (.iconst 0, 1) := by decide +kernel
theorem dL_law_674 : decode mL_law.2.1 674 = .ok (.ireturn, 1) := by decide +kernel
theorem dL_law_675 : decode mL_law.2.1 675 = .ok (.aload_n 1, 1) := by decide +kernel
theorem dL_law_676 : decode mL_law.2.1 676 = .ok (.aload_n 0, 1) := by decide +kernel
theorem dL_law_677 : decode mL_law.2.1 677 = .ok (.iload 4, 2) := by decide +kernel
theorem dL_law_679 : decode mL_law.2.1 679 = .ok (.iconst 1, 1) := by decide +kernel
theorem dL_law_680 : decode mL_law.2.1 680 = .ok (.iadd, 1) := by decide +kernel
theorem dL_law_681 : decode mL_law.2.1 681 = .ok (.iaload, 1) := by decide +kernel
theorem dL_law_682 : decode mL_law.2.1 682 = .ok (.aload_n 0, 1) := by decide +kernel
theorem dL_law_683 : decode mL_law.2.1 683 = .ok (.iload 4, 2) := by decide +kernel
theorem dL_law_685 : decode mL_law.2.1 685 = .ok (.iconst 2, 1) := by decide +kernel
theorem dL_law_686 : decode mL_law.2.1 686 = .ok (.iadd, 1) := by decide +kernel
theorem dL_law_687 : decode mL_law.2.1 687 = .ok (.iaload, 1) := by decide +kernel
theorem dL_law_688 : decode mL_law.2.1 688 = .ok (.aload_n 0, 1) := by decide +kernel
theorem dL_law_689 : decode mL_law.2.1 689 = .ok (.iload 4, 2) := by decide +kernel
theorem dL_law_691 : decode mL_law.2.1 691 = .ok (.iconst 3, 1) := by decide +kernel
theorem dL_law_692 : decode mL_law.2.1 692 = .ok (.iadd, 1) := by decide +kernel
theorem dL_law_693 : decode mL_law.2.1 693 = .ok (.iaload, 1) := by decide +kernel
theorem dL_law_694 : decode mL_law.2.1 694 = .ok (.aload_n 0, 1) := by decide +kernel
theorem dL_law_695 : decode mL_law.2.1 695 = .ok (.iload 4, 2) := by decide +kernel
theorem dL_law_697 : decode mL_law.2.1 697 = .ok (.iconst 4, 1) := by decide +kernel
theorem dL_law_698 : decode mL_law.2.1 698 = .ok (.iadd, 1) := by decide +kernel
theorem dL_law_699 : decode mL_law.2.1 699 = .ok (.iaload, 1) := by decide +kernel
theorem dL_law_700 : decode mL_law.2.1 700 = .ok (.aload_n 0, 1) := by decide +kernel
theorem dL_law_701 : decode mL_law.2.1 701 = .ok (.iload 4, 2) := by decide +kernel
theorem dL_law_703 : decode mL_law.2.1 703 = .ok (.iconst 5, 1) := by decide +kernel
theorem dL_law_704 : decode mL_law.2.1 704 = .ok (.iadd, 1) := by decide +kernel
theorem dL_law_705 : decode mL_law.2.1 705 = .ok (.iaload, 1) := by decide +kernel
theorem dL_law_706 : decode mL_law.2.1 706 = .ok (.invokevirtual 68, 3) := by decide +kernel
theorem dL_law_709 : decode mL_law.2.1 709 = .ok (.aload_n 2, 1) := by decide +kernel
theorem dL_law_710 : decode mL_law.2.1 710 = .ok (.aload_n 0, 1) := by decide +kernel
theorem dL_law_711 : decode mL_law.2.1 711 = .ok (.iload 4, 2) := by decide +kernel
theorem dL_law_713 : decode mL_law.2.1 713 = .ok (.iconst 1, 1) := by decide +kernel
theorem dL_law_714 : decode mL_law.2.1 714 = .ok (.iadd, 1) := by decide +kernel
theorem dL_law_715 : decode mL_law.2.1 715 = .ok (.iaload, 1) := by decide +kernel
theorem dL_law_716 : decode mL_law.2.1 716 = .ok (.aload_n 0, 1) := by decide +kernel
theorem dL_law_717 : decode mL_law.2.1 717 = .ok (.iload 4, 2) := by decide +kernel
theorem dL_law_719 : decode mL_law.2.1 719 = .ok (.iconst 2, 1) := by decide +kernel
theorem dL_law_720 : decode mL_law.2.1 720 = .ok (.iadd, 1) := by decide +kernel
theorem dL_law_721 : decode mL_law.2.1 721 = .ok (.iaload, 1) := by decide +kernel
theorem dL_law_722 : decode mL_law.2.1 722 = .ok (.aload_n 0, 1) := by decide +kernel
theorem dL_law_723 : decode mL_law.2.1 723 = .ok (.iload 4, 2) := by decide +kernel
theorem dL_law_725 : decode mL_law.2.1 725 = .ok (.iconst 3, 1) := by decide +kernel
theorem dL_law_726 : decode mL_law.2.1 726 = .ok (.iadd, 1) := by decide +kernel
theorem dL_law_727 : decode mL_law.2.1 727 = .ok (.iaload, 1) := by decide +kernel
theorem dL_law_728 : decode mL_law.2.1 728 = .ok (.aload_n 0, 1) := by decide +kernel
theorem dL_law_729 : decode mL_law.2.1 729 = .ok (.iload 4, 2) := by decide +kernel
theorem dL_law_731 : decode mL_law.2.1 731 = .ok (.iconst 4, 1) := by decide +kernel
theorem dL_law_732 : decode mL_law.2.1 732 = .ok (.iadd, 1) := by decide +kernel
theorem dL_law_733 : decode mL_law.2.1 733 = .ok (.iaload, 1) := by decide +kernel
theorem dL_law_734 : decode mL_law.2.1 734 = .ok (.aload_n 0, 1) := by decide +kernel
theorem dL_law_735 : decode mL_law.2.1 735 = .ok (.iload 4, 2) := by decide +kernel
theorem dL_law_737 : decode mL_law.2.1 737 = .ok (.iconst 5, 1) := by decide +kernel
theorem dL_law_738 : decode mL_law.2.1 738 = .ok (.iadd, 1) := by decide +kernel
theorem dL_law_739 : decode mL_law.2.1 739 = .ok (.iaload, 1) := by decide +kernel
theorem dL_law_740 : decode mL_law.2.1 740 = .ok (.invokevirtual 72, 3) := by decide +kernel
theorem dL_law_743 : decode mL_law.2.1 743 = .ok (.if_icmp .eq 297, 3) := by decide +kernel
theorem dL_law_746 : decode mL_law.2.1 746 = .ok (.iconst 0, 1) := by decide +kernel
theorem dL_law_747 : decode mL_law.2.1 747 = .ok (.ireturn, 1) := by decide +kernel
theorem dL_law_748 : decode mL_law.2.1 748 = .ok (.aload_n 1, 1) := by decide +kernel
theorem dL_law_749 : decode mL_law.2.1 749 = .ok (.aload_n 0, 1) := by decide +kernel
theorem dL_law_750 : decode mL_law.2.1 750 = .ok (.iload 4, 2) := by decide +kernel
theorem dL_law_752 : decode mL_law.2.1 752 = .ok (.iconst 1, 1) := by decide +kernel
theorem dL_law_753 : decode mL_law.2.1 753 = .ok (.iadd, 1) := by decide +kernel
theorem dL_law_754 : decode mL_law.2.1 754 = .ok (.iaload, 1) := by decide +kernel
theorem dL_law_755 : decode mL_law.2.1 755 = .ok (.invokevirtual 73, 3) := by decide +kernel
theorem dL_law_758 : decode mL_law.2.1 758 = .ok (.aload_n 2, 1) := by decide +kernel
theorem dL_law_759 : decode mL_law.2.1 759 = .ok (.aload_n 0, 1) := by decide +kernel
theorem dL_law_760 : decode mL_law.2.1 760 = .ok (.iload 4, 2) := by decide +kernel
theorem dL_law_762 : decode mL_law.2.1 762 = .ok (.iconst 1, 1) := by decide +kernel
theorem dL_law_763 : decode mL_law.2.1 763 = .ok (.iadd, 1) := by decide +kernel
theorem dL_law_764 : decode mL_law.2.1 764 = .ok (.iaload, 1) := by decide +kernel
theorem dL_law_765 : decode mL_law.2.1 765 = .ok (.invokevirtual 76, 3) := by decide +kernel
theorem dL_law_768 : decode mL_law.2.1 768 = .ok (.if_icmp .eq 272, 3) := by decide +kernel
theorem dL_law_771 : decode mL_law.2.1 771 = .ok (.iconst 0, 1) := by decide +kernel
theorem dL_law_772 : decode mL_law.2.1 772 = .ok (.ireturn, 1) := by decide +kernel
theorem dL_law_773 : decode mL_law.2.1 773 = .ok (.aload_n 1, 1) := by decide +kernel
theorem dL_law_774 : decode mL_law.2.1 774 = .ok (.invokevirtual 77, 3) := by decide +kernel
theorem dL_law_777 : decode mL_law.2.1 777 = .ok (.aload_n 2, 1) := by decide +kernel
theorem dL_law_778 : decode mL_law.2.1 778 = .ok (.invokevirtual 81, 3) := by decide +kernel
theorem dL_law_781 : decode mL_law.2.1 781 = .ok (.if_icmp .eq 259, 3) := by decide +kernel
theorem dL_law_784 : decode mL_law.2.1 784 = .ok (.iconst 0, 1) := by decide +kernel
theorem dL_law_785 : decode mL_law.2.1 785 = .ok (.ireturn, 1) := by decide +kernel
theorem dL_law_786 : decode mL_law.2.1 786 = .ok (.aload_n 1, 1) := by decide +kernel
theorem dL_law_787 : decode mL_law.2.1 787 = .ok (.invokevirtual 82, 3) := by decide +kernel
theorem dL_law_790 : decode mL_law.2.1 790 = .ok (.aload_n 2, 1) := by decide +kernel
theorem dL_law_791 : decode mL_law.2.1 791 = .ok (.invokevirtual 85, 3) := by decide +kernel
theorem dL_law_794 : decode mL_law.2.1 794 = .ok (.if_icmp .eq 246, 3) := by decide +kernel
theorem dL_law_797 : decode mL_law.2.1 797 = .ok (.iconst 0, 1) := by decide +kernel
theorem dL_law_798 : decode mL_law.2.1 798 = .ok (.ireturn, 1) := by decide +kernel
theorem dL_law_799 : decode mL_law.2.1 799 = .ok (.aload_n 1, 1) := by decide +kernel
theorem dL_law_800 : decode mL_law.2.1 800 = .ok (.aload_n 0, 1) := by decide +kernel
theorem dL_law_801 : decode mL_law.2.1 801 = .ok (.iload 4, 2) := by decide +kernel
theorem dL_law_803 : decode mL_law.2.1 803 = .ok (.iconst 1, 1) := by decide +kernel
theorem dL_law_804 : decode mL_law.2.1 804 = .ok (.iadd, 1) := by decide +kernel
theorem dL_law_805 : decode mL_law.2.1 805 = .ok (.iaload, 1) := by decide +kernel
theorem dL_law_806 : decode mL_law.2.1 806 = .ok (.aload_n 0, 1) := by decide +kernel
theorem dL_law_807 : decode mL_law.2.1 807 = .ok (.iload 4, 2) := by decide +kernel
theorem dL_law_809 : decode mL_law.2.1 809 = .ok (.iconst 2, 1) := by decide +kernel
theorem dL_law_810 : decode mL_law.2.1 810 = .ok (.iadd, 1) := by decide +kernel
theorem dL_law_811 : decode mL_law.2.1 811 = .ok (.iaload, 1) := by decide +kernel
theorem dL_law_812 : decode mL_law.2.1 812 = .ok (.invokevirtual 86, 3) := by decide +kernel
theorem dL_law_815 : decode mL_law.2.1 815 = .ok (.aload_n 2, 1) := by decide +kernel
theorem dL_law_816 : decode mL_law.2.1 816 = .ok (.aload_n 0, 1) := by decide +kernel
theorem dL_law_817 : decode mL_law.2.1 817 = .ok (.iload 4, 2) := by decide +kernel
theorem dL_law_819 : decode mL_law.2.1 819 = .ok (.iconst 1, 1) := by decide +kernel
theorem dL_law_820 : decode mL_law.2.1 820 = .ok (.iadd, 1) := by decide +kernel
theorem dL_law_821 : decode mL_law.2.1 821 = .ok (.iaload, 1) := by decide +kernel
theorem dL_law_822 : decode mL_law.2.1 822 = .ok (.aload_n 0, 1) := by decide +kernel
theorem dL_law_823 : decode mL_law.2.1 823 = .ok (.iload 4, 2) := by decide +kernel
theorem dL_law_825 : decode mL_law.2.1 825 = .ok (.iconst 2, 1) := by decide +kernel
theorem dL_law_826 : decode mL_law.2.1 826 = .ok (.iadd, 1) := by decide +kernel
theorem dL_law_827 : decode mL_law.2.1 827 = .ok (.iaload, 1) := by decide +kernel
theorem dL_law_828 : decode mL_law.2.1 828 = .ok (.invokevirtual 89, 3) := by decide +kernel
theorem dL_law_831 : decode mL_law.2.1 831 = .ok (.if_icmp .eq 209, 3) := by decide +kernel
theorem dL_law_834 : decode mL_law.2.1 834 = .ok (.iconst 0, 1) := by decide +kernel
theorem dL_law_835 : decode mL_law.2.1 835 = .ok (.ireturn, 1) := by decide +kernel
theorem dL_law_836 : decode mL_law.2.1 836 = .ok (.aload_n 1, 1) := by decide +kernel
theorem dL_law_837 : decode mL_law.2.1 837 = .ok (.aload_n 0, 1) := by decide +kernel
theorem dL_law_838 : decode mL_law.2.1 838 = .ok (.iload 4, 2) := by decide +kernel
theorem dL_law_840 : decode mL_law.2.1 840 = .ok (.iconst 1, 1) := by decide +kernel
theorem dL_law_841 : decode mL_law.2.1 841 = .ok (.iadd, 1) := by decide +kernel
theorem dL_law_842 : decode mL_law.2.1 842 = .ok (.iaload, 1) := by decide +kernel
theorem dL_law_843 : decode mL_law.2.1 843 = .ok (.aload_n 0, 1) := by decide +kernel
theorem dL_law_844 : decode mL_law.2.1 844 = .ok (.iload 4, 2) := by decide +kernel
theorem dL_law_846 : decode mL_law.2.1 846 = .ok (.iconst 2, 1) := by decide +kernel
theorem dL_law_847 : decode mL_law.2.1 847 = .ok (.iadd, 1) := by decide +kernel
theorem dL_law_848 : decode mL_law.2.1 848 = .ok (.iaload, 1) := by decide +kernel
theorem dL_law_849 : decode mL_law.2.1 849 = .ok (.aload_n 0, 1) := by decide +kernel
theorem dL_law_850 : decode mL_law.2.1 850 = .ok (.iload 4, 2) := by decide +kernel
theorem dL_law_852 : decode mL_law.2.1 852 = .ok (.iconst 3, 1) := by decide +kernel
theorem dL_law_853 : decode mL_law.2.1 853 = .ok (.iadd, 1) := by decide +kernel
theorem dL_law_854 : decode mL_law.2.1 854 = .ok (.iaload, 1) := by decide +kernel
theorem dL_law_855 : decode mL_law.2.1 855 = .ok (.invokevirtual 90, 3) := by decide +kernel
theorem dL_law_858 : decode mL_law.2.1 858 = .ok (.aload_n 2, 1) := by decide +kernel
theorem dL_law_859 : decode mL_law.2.1 859 = .ok (.aload_n 0, 1) := by decide +kernel
theorem dL_law_860 : decode mL_law.2.1 860 = .ok (.iload 4, 2) := by decide +kernel
theorem dL_law_862 : decode mL_law.2.1 862 = .ok (.iconst 1, 1) := by decide +kernel
theorem dL_law_863 : decode mL_law.2.1 863 = .ok (.iadd, 1) := by decide +kernel
theorem dL_law_864 : decode mL_law.2.1 864 = .ok (.iaload, 1) := by decide +kernel
theorem dL_law_865 : decode mL_law.2.1 865 = .ok (.aload_n 0, 1) := by decide +kernel
theorem dL_law_866 : decode mL_law.2.1 866 = .ok (.iload 4, 2) := by decide +kernel
theorem dL_law_868 : decode mL_law.2.1 868 = .ok (.iconst 2, 1) := by decide +kernel
theorem dL_law_869 : decode mL_law.2.1 869 = .ok (.iadd, 1) := by decide +kernel
theorem dL_law_870 : decode mL_law.2.1 870 = .ok (.iaload, 1) := by decide +kernel
theorem dL_law_871 : decode mL_law.2.1 871 = .ok (.aload_n 0, 1) := by decide +kernel
theorem dL_law_872 : decode mL_law.2.1 872 = .ok (.iload 4, 2) := by decide +kernel
theorem dL_law_874 : decode mL_law.2.1 874 = .ok (.iconst 3, 1) := by decide +kernel
theorem dL_law_875 : decode mL_law.2.1 875 = .ok (.iadd, 1) := by decide +kernel
theorem dL_law_876 : decode mL_law.2.1 876 = .ok (.iaload, 1) := by decide +kernel
theorem dL_law_877 : decode mL_law.2.1 877 = .ok (.invokevirtual 93, 3) := by decide +kernel
theorem dL_law_880 : decode mL_law.2.1 880 = .ok (.if_icmp .eq 160, 3) := by decide +kernel
theorem dL_law_883 : decode mL_law.2.1 883 = .ok (.iconst 0, 1) := by decide +kernel
theorem dL_law_884 : decode mL_law.2.1 884 = .ok (.ireturn, 1) := by decide +kernel
theorem dL_law_885 : decode mL_law.2.1 885 = .ok (.aload_n 1, 1) := by decide +kernel
theorem dL_law_886 : decode mL_law.2.1 886 = .ok (.aload_n 0, 1) := by decide +kernel
theorem dL_law_887 : decode mL_law.2.1 887 = .ok (.iload 4, 2) := by decide +kernel
theorem dL_law_889 : decode mL_law.2.1 889 = .ok (.iconst 1, 1) := by decide +kernel
theorem dL_law_890 : decode mL_law.2.1 890 = .ok (.iadd, 1) := by decide +kernel
theorem dL_law_891 : decode mL_law.2.1 891 = .ok (.iaload, 1) := by decide +kernel
theorem dL_law_892 : decode mL_law.2.1 892 = .ok (.aload_n 0, 1) := by decide +kernel
theorem dL_law_893 : decode mL_law.2.1 893 = .ok (.iload 4, 2) := by decide +kernel
theorem dL_law_895 : decode mL_law.2.1 895 = .ok (.iconst 2, 1) := by decide +kernel
theorem dL_law_896 : decode mL_law.2.1 896 = .ok (.iadd, 1) := by decide +kernel
theorem dL_law_897 : decode mL_law.2.1 897 = .ok (.iaload, 1) := by decide +kernel
theorem dL_law_898 : decode mL_law.2.1 898 = .ok (.invokevirtual 94, 3) := by decide +kernel
theorem dL_law_901 : decode mL_law.2.1 901 = .ok (.aload_n 2, 1) := by decide +kernel
theorem dL_law_902 : decode mL_law.2.1 902 = .ok (.aload_n 0, 1) := by decide +kernel
theorem dL_law_903 : decode mL_law.2.1 903 = .ok (.iload 4, 2) := by decide +kernel
theorem dL_law_905 : decode mL_law.2.1 905 = .ok (.iconst 1, 1) := by decide +kernel
theorem dL_law_906 : decode mL_law.2.1 906 = .ok (.iadd, 1) := by decide +kernel
theorem dL_law_907 : decode mL_law.2.1 907 = .ok (.iaload, 1) := by decide +kernel
theorem dL_law_908 : decode mL_law.2.1 908 = .ok (.aload_n 0, 1) := by decide +kernel
theorem dL_law_909 : decode mL_law.2.1 909 = .ok (.iload 4, 2) := by decide +kernel
theorem dL_law_911 : decode mL_law.2.1 911 = .ok (.iconst 2, 1) := by decide +kernel
theorem dL_law_912 : decode mL_law.2.1 912 = .ok (.iadd, 1) := by decide +kernel
theorem dL_law_913 : decode mL_law.2.1 913 = .ok (.iaload, 1) := by decide +kernel
theorem dL_law_914 : decode mL_law.2.1 914 = .ok (.invokevirtual 97, 3) := by decide +kernel
theorem dL_law_917 : decode mL_law.2.1 917 = .ok (.if_icmp .eq 123, 3) := by decide +kernel
theorem dL_law_920 : decode mL_law.2.1 920 = .ok (.iconst 0, 1) := by decide +kernel
theorem dL_law_921 : decode mL_law.2.1 921 = .ok (.ireturn, 1) := by decide +kernel
theorem dL_law_922 : decode mL_law.2.1 922 = .ok (.aload_n 1, 1) := by decide +kernel
theorem dL_law_923 : decode mL_law.2.1 923 = .ok (.aload_n 0, 1) := by decide +kernel
theorem dL_law_924 : decode mL_law.2.1 924 = .ok (.iload 4, 2) := by decide +kernel
theorem dL_law_926 : decode mL_law.2.1 926 = .ok (.iconst 1, 1) := by decide +kernel
theorem dL_law_927 : decode mL_law.2.1 927 = .ok (.iadd, 1) := by decide +kernel
theorem dL_law_928 : decode mL_law.2.1 928 = .ok (.iaload, 1) := by decide +kernel
theorem dL_law_929 : decode mL_law.2.1 929 = .ok (.aload_n 3, 1) := by decide +kernel
theorem dL_law_930 : decode mL_law.2.1 930 = .ok (.invokestatic 98, 3) := by decide +kernel
theorem dL_law_933 : decode mL_law.2.1 933 = .ok (.istore 5, 2) := by decide +kernel
theorem dL_law_935 : decode mL_law.2.1 935 = .ok (.aload_n 2, 1) := by decide +kernel
theorem dL_law_936 : decode mL_law.2.1 936 = .ok (.aload_n 0, 1) := by decide +kernel
theorem dL_law_937 : decode mL_law.2.1 937 = .ok (.iload 4, 2) := by decide +kernel
theorem dL_law_939 : decode mL_law.2.1 939 = .ok (.iconst 1, 1) := by decide +kernel
theorem dL_law_940 : decode mL_law.2.1 940 = .ok (.iadd, 1) := by decide +kernel
theorem dL_law_941 : decode mL_law.2.1 941 = .ok (.iaload, 1) := by decide +kernel
theorem dL_law_942 : decode mL_law.2.1 942 = .ok (.invokevirtual 103, 3) := by decide +kernel
theorem dL_law_945 : decode mL_law.2.1 945 = .ok (.istore 6, 2) := by decide +kernel
theorem dL_law_947 : decode mL_law.2.1 947 = .ok (.aload_n 2, 1) := by decide +kernel
theorem dL_law_948 : decode mL_law.2.1 948 = .ok (.invokevirtual 104, 3) := by decide +kernel
theorem dL_law_951 : decode mL_law.2.1 951 = .ok (.iload 5, 2) := by decide +kernel
theorem dL_law_953 : decode mL_law.2.1 953 = .ok (.if_icmp .eq 5, 3) := by decide +kernel
theorem dL_law_956 : decode mL_law.2.1 956 = .ok (.iconst 0, 1) := by decide +kernel
theorem dL_law_957 : decode mL_law.2.1 957 = .ok (.ireturn, 1) := by decide +kernel
theorem dL_law_958 : decode mL_law.2.1 958 = .ok (.iload 5, 2) := by decide +kernel
theorem dL_law_960 : decode mL_law.2.1 960 = .ok (.ifCond .ne 15, 3) := by decide +kernel
theorem dL_law_963 : decode mL_law.2.1 963 = .ok (.aload_n 3, 1) := by decide +kernel
theorem dL_law_964 : decode mL_law.2.1 964 = .ok (.iconst 0, 1) := by decide +kernel
theorem dL_law_965 : decode mL_law.2.1 965 = .ok (.laload, 1) := by decide +kernel
theorem dL_law_966 : decode mL_law.2.1 966 = .ok (.iload 6, 2) := by decide +kernel
theorem dL_law_968 : decode mL_law.2.1 968 = .ok (.i2l, 1) := by decide +kernel
theorem dL_law_969 : decode mL_law.2.1 969 = .ok (.lcmp, 1) := by decide +kernel
theorem dL_law_970 : decode mL_law.2.1 970 = .ok (.ifCond .eq 5, 3) := by decide +kernel
theorem dL_law_973 : decode mL_law.2.1 973 = .ok (.iconst 0, 1) := by decide +kernel
theorem dL_law_974 : decode mL_law.2.1 974 = .ok (.ireturn, 1) := by decide +kernel
theorem dL_law_975 : decode mL_law.2.1 975 = .ok (.goto 65, 3) := by decide +kernel
theorem dL_law_978 : decode mL_law.2.1 978 = .ok (.aload_n 1, 1) := by decide +kernel
theorem dL_law_979 : decode mL_law.2.1 979 = .ok (.aload_n 0, 1) := by decide +kernel
theorem dL_law_980 : decode mL_law.2.1 980 = .ok (.iload 4, 2) := by decide +kernel
theorem dL_law_982 : decode mL_law.2.1 982 = .ok (.iconst 1, 1) := by decide +kernel
theorem dL_law_983 : decode mL_law.2.1 983 = .ok (.iadd, 1) := by decide +kernel
theorem dL_law_984 : decode mL_law.2.1 984 = .ok (.iaload, 1) := by decide +kernel
theorem dL_law_985 : decode mL_law.2.1 985 = .ok (.aload_n 0, 1) := by decide +kernel
theorem dL_law_986 : decode mL_law.2.1 986 = .ok (.iload 4, 2) := by decide +kernel
theorem dL_law_988 : decode mL_law.2.1 988 = .ok (.iconst 2, 1) := by decide +kernel
theorem dL_law_989 : decode mL_law.2.1 989 = .ok (.iadd, 1) := by decide +kernel
theorem dL_law_990 : decode mL_law.2.1 990 = .ok (.iaload, 1) := by decide +kernel
theorem dL_law_991 : decode mL_law.2.1 991 = .ok (.invokevirtual 107, 3) := by decide +kernel
theorem dL_law_994 : decode mL_law.2.1 994 = .ok (.aload_n 2, 1) := by decide +kernel
theorem dL_law_995 : decode mL_law.2.1 995 = .ok (.aload_n 0, 1) := by decide +kernel
theorem dL_law_996 : decode mL_law.2.1 996 = .ok (.iload 4, 2) := by decide +kernel
theorem dL_law_998 : decode mL_law.2.1 998 = .ok (.iconst 1, 1) := by decide +kernel
theorem dL_law_999 : decode mL_law.2.1 999 = .ok (.iadd, 1) := by decide +kernel
theorem dL_law_1000 : decode mL_law.2.1 1000 = .ok (.iaload, 1) := by decide +kernel
theorem dL_law_1001 : decode mL_law.2.1 1001 = .ok (.aload_n 0, 1) := by decide +kernel
theorem dL_law_1002 : decode mL_law.2.1 1002 = .ok (.iload 4, 2) := by decide +kernel
theorem dL_law_1004 : decode mL_law.2.1 1004 = .ok (.iconst 2, 1) := by decide +kernel
theorem dL_law_1005 : decode mL_law.2.1 1005 = .ok (.iadd, 1) := by decide +kernel
theorem dL_law_1006 : decode mL_law.2.1 1006 = .ok (.iaload, 1) := by decide +kernel
theorem dL_law_1007 : decode mL_law.2.1 1007 = .ok (.invokevirtual 110, 3) := by decide +kernel
theorem dL_law_1010 : decode mL_law.2.1 1010 = .ok (.if_icmp .eq 30, 3) := by decide +kernel
theorem dL_law_1013 : decode mL_law.2.1 1013 = .ok (.iconst 0, 1) := by decide +kernel
theorem dL_law_1014 : decode mL_law.2.1 1014 = .ok (.ireturn, 1) := by decide +kernel
theorem dL_law_1015 : decode mL_law.2.1 1015 = .ok (.aload_n 1, 1) := by decide +kernel
theorem dL_law_1016 : decode mL_law.2.1 1016 = .ok (.aload_n 0, 1) := by decide +kernel
theorem dL_law_1017 : decode mL_law.2.1 1017 = .ok (.iload 4, 2) := by decide +kernel
theorem dL_law_1019 : decode mL_law.2.1 1019 = .ok (.iconst 1, 1) := by decide +kernel
theorem dL_law_1020 : decode mL_law.2.1 1020 = .ok (.iadd, 1) := by decide +kernel
theorem dL_law_1021 : decode mL_law.2.1 1021 = .ok (.iaload, 1) := by decide +kernel
theorem dL_law_1022 : decode mL_law.2.1 1022 = .ok (.invokevirtual 111, 3) := by decide +kernel
theorem dL_law_1025 : decode mL_law.2.1 1025 = .ok (.aload_n 2, 1) := by decide +kernel
theorem dL_law_1026 : decode mL_law.2.1 1026 = .ok (.aload_n 0, 1) := by decide +kernel
theorem dL_law_1027 : decode mL_law.2.1 1027 = .ok (.iload 4, 2) := by decide +kernel
theorem dL_law_1029 : decode mL_law.2.1 1029 = .ok (.iconst 1, 1) := by decide +kernel
theorem dL_law_1030 : decode mL_law.2.1 1030 = .ok (.iadd, 1) := by decide +kernel
theorem dL_law_1031 : decode mL_law.2.1 1031 = .ok (.iaload, 1) := by decide +kernel
theorem dL_law_1032 : decode mL_law.2.1 1032 = .ok (.invokevirtual 114, 3) := by decide +kernel
theorem dL_law_1035 : decode mL_law.2.1 1035 = .ok (.if_icmp .eq 5, 3) := by decide +kernel
theorem dL_law_1038 : decode mL_law.2.1 1038 = .ok (.iconst 0, 1) := by decide +kernel
theorem dL_law_1039 : decode mL_law.2.1 1039 = .ok (.ireturn, 1) := by decide +kernel
theorem dL_law_1040 : decode mL_law.2.1 1040 = .ok (.iinc 4 6, 3) := by decide +kernel
theorem dL_law_1043 : decode mL_law.2.1 1043 = .ok (.goto (-1020), 3) := by decide +kernel
theorem dL_law_1046 : decode mL_law.2.1 1046 = .ok (.iconst 1, 1) := by decide +kernel
theorem dL_law_1047 : decode mL_law.2.1 1047 = .ok (.ireturn, 1) := by decide +kernel
theorem dX0_addRule_0 : decode mX0_addRule.2.1 0 = .ok (.aload_n 0, 1) := by decide +kernel
theorem dX0_addRule_1 : decode mX0_addRule.2.1 1 = .ok (.getfield 27, 3) := by decide +kernel
theorem dX0_addRule_4 : decode mX0_addRule.2.1 4 = .ok (.bipush 20, 2) := by decide +kernel
theorem dX0_addRule_6 : decode mX0_addRule.2.1 6 = .ok (.if_icmp .lt 4, 3) := by decide +kernel
theorem dX0_addRule_9 : decode mX0_addRule.2.1 9 = .ok (.return_, 1) := by decide +kernel
theorem dX0_addRule_10 : decode mX0_addRule.2.1 10 = .ok (.aload_n 0, 1) := by decide +kernel
theorem dX0_addRule_11 : decode mX0_addRule.2.1 11 = .ok (.getfield 9, 3) := by decide +kernel
theorem dX0_addRule_14 : decode mX0_addRule.2.1 14 = .ok (.aload_n 0, 1) := by decide +kernel
theorem dX0_addRule_15 : decode mX0_addRule.2.1 15 = .ok (.getfield 27, 3) := by decide +kernel
theorem dX0_addRule_18 : decode mX0_addRule.2.1 18 = .ok (.aload_n 0, 1) := by decide +kernel
theorem dX0_addRule_19 : decode mX0_addRule.2.1 19 = .ok (.getfield 31, 3) := by decide +kernel
theorem dX0_addRule_22 : decode mX0_addRule.2.1 22 = .ok (.iastore, 1) := by decide +kernel
theorem dX0_addRule_23 : decode mX0_addRule.2.1 23 = .ok (.aload_n 0, 1) := by decide +kernel
theorem dX0_addRule_24 : decode mX0_addRule.2.1 24 = .ok (.getfield 15, 3) := by decide +kernel
theorem dX0_addRule_27 : decode mX0_addRule.2.1 27 = .ok (.aload_n 0, 1) := by decide +kernel
theorem dX0_addRule_28 : decode mX0_addRule.2.1 28 = .ok (.getfield 27, 3) := by decide +kernel
theorem dX0_addRule_31 : decode mX0_addRule.2.1 31 = .ok (.iload_n 1, 1) := by decide +kernel
theorem dX0_addRule_32 : decode mX0_addRule.2.1 32 = .ok (.iastore, 1) := by decide +kernel
theorem dX0_addRule_33 : decode mX0_addRule.2.1 33 = .ok (.aload_n 0, 1) := by decide +kernel
theorem dX0_addRule_34 : decode mX0_addRule.2.1 34 = .ok (.dup, 1) := by decide +kernel
theorem dX0_addRule_35 : decode mX0_addRule.2.1 35 = .ok (.getfield 27, 3) := by decide +kernel
theorem dX0_addRule_38 : decode mX0_addRule.2.1 38 = .ok (.iconst 1, 1) := by decide +kernel
theorem dX0_addRule_39 : decode mX0_addRule.2.1 39 = .ok (.iadd, 1) := by decide +kernel
theorem dX0_addRule_40 : decode mX0_addRule.2.1 40 = .ok (.putfield 27, 3) := by decide +kernel
theorem dX0_addRule_43 : decode mX0_addRule.2.1 43 = .ok (.return_, 1) := by decide +kernel
theorem dX0_addTerm_0 : decode mX0_addTerm.2.1 0 = .ok (.aload_n 0, 1) := by decide +kernel
theorem dX0_addTerm_1 : decode mX0_addTerm.2.1 1 = .ok (.getfield 31, 3) := by decide +kernel
theorem dX0_addTerm_4 : decode mX0_addTerm.2.1 4 = .ok (.bipush 80, 2) := by decide +kernel
theorem dX0_addTerm_6 : decode mX0_addTerm.2.1 6 = .ok (.if_icmp .lt 4, 3) := by decide +kernel
theorem dX0_addTerm_9 : decode mX0_addTerm.2.1 9 = .ok (.return_, 1) := by decide +kernel
theorem dX0_addTerm_10 : decode mX0_addTerm.2.1 10 = .ok (.aload_n 0, 1) := by decide +kernel
theorem dX0_addTerm_11 : decode mX0_addTerm.2.1 11 = .ok (.getfield 18, 3) := by decide +kernel
theorem dX0_addTerm_14 : decode mX0_addTerm.2.1 14 = .ok (.aload_n 0, 1) := by decide +kernel
theorem dX0_addTerm_15 : decode mX0_addTerm.2.1 15 = .ok (.getfield 31, 3) := by decide +kernel
theorem dX0_addTerm_18 : decode mX0_addTerm.2.1 18 = .ok (.iload_n 1, 1) := by decide +kernel
theorem dX0_addTerm_19 : decode mX0_addTerm.2.1 19 = .ok (.iastore, 1) := by decide +kernel
theorem dX0_addTerm_20 : decode mX0_addTerm.2.1 20 = .ok (.aload_n 0, 1) := by decide +kernel
theorem dX0_addTerm_21 : decode mX0_addTerm.2.1 21 = .ok (.getfield 21, 3) := by decide +kernel
theorem dX0_addTerm_24 : decode mX0_addTerm.2.1 24 = .ok (.aload_n 0, 1) := by decide +kernel
theorem dX0_addTerm_25 : decode mX0_addTerm.2.1 25 = .ok (.getfield 31, 3) := by decide +kernel
theorem dX0_addTerm_28 : decode mX0_addTerm.2.1 28 = .ok (.iload_n 2, 1) := by decide +kernel
theorem dX0_addTerm_29 : decode mX0_addTerm.2.1 29 = .ok (.iastore, 1) := by decide +kernel
theorem dX0_addTerm_30 : decode mX0_addTerm.2.1 30 = .ok (.aload_n 0, 1) := by decide +kernel
theorem dX0_addTerm_31 : decode mX0_addTerm.2.1 31 = .ok (.getfield 24, 3) := by decide +kernel
theorem dX0_addTerm_34 : decode mX0_addTerm.2.1 34 = .ok (.aload_n 0, 1) := by decide +kernel
theorem dX0_addTerm_35 : decode mX0_addTerm.2.1 35 = .ok (.getfield 31, 3) := by decide +kernel
theorem dX0_addTerm_38 : decode mX0_addTerm.2.1 38 = .ok (.iload_n 3, 1) := by decide +kernel
theorem dX0_addTerm_39 : decode mX0_addTerm.2.1 39 = .ok (.iastore, 1) := by decide +kernel
theorem dX0_addTerm_40 : decode mX0_addTerm.2.1 40 = .ok (.aload_n 0, 1) := by decide +kernel
theorem dX0_addTerm_41 : decode mX0_addTerm.2.1 41 = .ok (.dup, 1) := by decide +kernel
theorem dX0_addTerm_42 : decode mX0_addTerm.2.1 42 = .ok (.getfield 31, 3) := by decide +kernel
theorem dX0_addTerm_45 : decode mX0_addTerm.2.1 45 = .ok (.iconst 1, 1) := by decide +kernel
theorem dX0_addTerm_46 : decode mX0_addTerm.2.1 46 = .ok (.iadd, 1) := by decide +kernel
theorem dX0_addTerm_47 : decode mX0_addTerm.2.1 47 = .ok (.putfield 31, 3) := by decide +kernel
theorem dX0_addTerm_50 : decode mX0_addTerm.2.1 50 = .ok (.return_, 1) := by decide +kernel
theorem dX0_clear_0 : decode mX0_clear.2.1 0 = .ok (.aload_n 0, 1) := by decide +kernel
theorem dX0_clear_1 : decode mX0_clear.2.1 1 = .ok (.iconst 0, 1) := by decide +kernel
theorem dX0_clear_2 : decode mX0_clear.2.1 2 = .ok (.putfield 27, 3) := by decide +kernel
theorem dX0_clear_5 : decode mX0_clear.2.1 5 = .ok (.aload_n 0, 1) := by decide +kernel
theorem dX0_clear_6 : decode mX0_clear.2.1 6 = .ok (.iconst 0, 1) := by decide +kernel
theorem dX0_clear_7 : decode mX0_clear.2.1 7 = .ok (.putfield 31, 3) := by decide +kernel
theorem dX0_clear_10 : decode mX0_clear.2.1 10 = .ok (.return_, 1) := by decide +kernel
theorem dX0_holdAll_0 : decode mX0_holdAll.2.1 0 = .ok (.iload_n 1, 1) := by decide +kernel
theorem dX0_holdAll_1 : decode mX0_holdAll.2.1 1 = .ok (.istore 5, 2) := by decide +kernel
theorem dX0_holdAll_3 : decode mX0_holdAll.2.1 3 = .ok (.iload 5, 2) := by decide +kernel
theorem dX0_holdAll_5 : decode mX0_holdAll.2.1 5 = .ok (.iload_n 2, 1) := by decide +kernel
theorem dX0_holdAll_6 : decode mX0_holdAll.2.1 6 = .ok (.if_icmp .ge 51, 3) := by decide +kernel
theorem dX0_holdAll_9 : decode mX0_holdAll.2.1 9 = .ok (.iload 5, 2) := by decide +kernel
theorem dX0_holdAll_11 : decode mX0_holdAll.2.1 11 = .ok (.bipush 80, 2) := by decide +kernel
theorem dX0_holdAll_13 : decode mX0_holdAll.2.1 13 = .ok (.if_icmp .ge 44, 3) := by decide +kernel
theorem dX0_holdAll_16 : decode mX0_holdAll.2.1 16 = .ok (.aload_n 0, 1) := by decide +kernel
theorem dX0_holdAll_17 : decode mX0_holdAll.2.1 17 = .ok (.getfield 21, 3) := by decide +kernel
theorem dX0_holdAll_20 : decode mX0_holdAll.2.1 20 = .ok (.iload 5, 2) := by decide +kernel
theorem dX0_holdAll_22 : decode mX0_holdAll.2.1 22 = .ok (.iaload, 1) := by decide +kernel
theorem dX0_holdAll_23 : decode mX0_holdAll.2.1 23 = .ok (.aload_n 0, 1) := by decide +kernel
theorem dX0_holdAll_24 : decode mX0_holdAll.2.1 24 = .ok (.getfield 18, 3) := by decide +kernel
theorem dX0_holdAll_27 : decode mX0_holdAll.2.1 27 = .ok (.iload 5, 2) := by decide +kernel
theorem dX0_holdAll_29 : decode mX0_holdAll.2.1 29 = .ok (.iaload, 1) := by decide +kernel
theorem dX0_holdAll_30 : decode mX0_holdAll.2.1 30 = .ok (.aload_n 3, 1) := by decide +kernel
theorem dX0_holdAll_31 : decode mX0_holdAll.2.1 31 = .ok (.iload 4, 2) := by decide +kernel
theorem dX0_holdAll_33 : decode mX0_holdAll.2.1 33 = .ok (.invokestatic 41, 3) := by decide +kernel
theorem dX0_holdAll_36 : decode mX0_holdAll.2.1 36 = .ok (.aload_n 0, 1) := by decide +kernel
theorem dX0_holdAll_37 : decode mX0_holdAll.2.1 37 = .ok (.getfield 24, 3) := by decide +kernel
theorem dX0_holdAll_40 : decode mX0_holdAll.2.1 40 = .ok (.iload 5, 2) := by decide +kernel
theorem dX0_holdAll_42 : decode mX0_holdAll.2.1 42 = .ok (.iaload, 1) := by decide +kernel
theorem dX0_holdAll_43 : decode mX0_holdAll.2.1 43 = .ok (.invokestatic 45, 3) := by decide +kernel
theorem dX0_holdAll_46 : decode mX0_holdAll.2.1 46 = .ok (.ifCond .ne 5, 3) := by decide +kernel
theorem dX0_holdAll_49 : decode mX0_holdAll.2.1 49 = .ok (.iconst 0, 1) := by decide +kernel
theorem dX0_holdAll_50 : decode mX0_holdAll.2.1 50 = .ok (.ireturn, 1) := by decide +kernel
theorem dX0_holdAll_51 : decode mX0_holdAll.2.1 51 = .ok (.iinc 5 1, 3) := by decide +kernel
theorem dX0_holdAll_54 : decode mX0_holdAll.2.1 54 = .ok (.goto (-51), 3) := by decide +kernel
theorem dX0_holdAll_57 : decode mX0_holdAll.2.1 57 = .ok (.iconst 1, 1) := by decide +kernel
theorem dX0_holdAll_58 : decode mX0_holdAll.2.1 58 = .ok (.ireturn, 1) := by decide +kernel
theorem dX0_holds_0 : decode mX0_holds.2.1 0 = .ok (.iload_n 0, 1) := by decide +kernel
theorem dX0_holds_1 : decode mX0_holds.2.1 1 = .ok (.bipush 60, 2) := by decide +kernel
theorem dX0_holds_3 : decode mX0_holds.2.1 3 = .ok (.if_icmp .ne 14, 3) := by decide +kernel
theorem dX0_holds_6 : decode mX0_holds.2.1 6 = .ok (.iload_n 1, 1) := by decide +kernel
theorem dX0_holds_7 : decode mX0_holds.2.1 7 = .ok (.iload_n 2, 1) := by decide +kernel
theorem dX0_holds_8 : decode mX0_holds.2.1 8 = .ok (.if_icmp .ge 7, 3) := by decide +kernel
theorem dX0_holds_11 : decode mX0_holds.2.1 11 = .ok (.iconst 1, 1) := by decide +kernel
theorem dX0_holds_12 : decode mX0_holds.2.1 12 = .ok (.goto 4, 3) := by decide +kernel
theorem dX0_holds_15 : decode mX0_holds.2.1 15 = .ok (.iconst 0, 1) := by decide +kernel
theorem dX0_holds_16 : decode mX0_holds.2.1 16 = .ok (.ireturn, 1) := by decide +kernel
theorem dX0_holds_17 : decode mX0_holds.2.1 17 = .ok (.iload_n 0, 1) := by decide +kernel
theorem dX0_holds_18 : decode mX0_holds.2.1 18 = .ok (.bipush 62, 2) := by decide +kernel
theorem dX0_holds_20 : decode mX0_holds.2.1 20 = .ok (.if_icmp .ne 16, 3) := by decide +kernel
theorem dX0_holds_23 : decode mX0_holds.2.1 23 = .ok (.iload_n 1, 1) := by decide +kernel
theorem dX0_holds_24 : decode mX0_holds.2.1 24 = .ok (.iload_n 2, 1) := by decide +kernel
theorem dX0_holds_25 : decode mX0_holds.2.1 25 = .ok (.if_icmp .le 7, 3) := by decide +kernel
theorem dX0_holds_28 : decode mX0_holds.2.1 28 = .ok (.iconst 1, 1) := by decide +kernel
theorem dX0_holds_29 : decode mX0_holds.2.1 29 = .ok (.goto 17, 3) := by decide +kernel
theorem dX0_holds_32 : decode mX0_holds.2.1 32 = .ok (.iconst 0, 1) := by decide +kernel
theorem dX0_holds_33 : decode mX0_holds.2.1 33 = .ok (.goto 13, 3) := by decide +kernel
theorem dX0_holds_36 : decode mX0_holds.2.1 36 = .ok (.iload_n 1, 1) := by decide +kernel
theorem dX0_holds_37 : decode mX0_holds.2.1 37 = .ok (.iload_n 2, 1) := by decide +kernel
theorem dX0_holds_38 : decode mX0_holds.2.1 38 = .ok (.if_icmp .ne 7, 3) := by decide +kernel
theorem dX0_holds_41 : decode mX0_holds.2.1 41 = .ok (.iconst 1, 1) := by decide +kernel
theorem dX0_holds_42 : decode mX0_holds.2.1 42 = .ok (.goto 4, 3) := by decide +kernel
theorem dX0_holds_45 : decode mX0_holds.2.1 45 = .ok (.iconst 0, 1) := by decide +kernel
theorem dX0_holds_46 : decode mX0_holds.2.1 46 = .ok (.ireturn, 1) := by decide +kernel
theorem dX0_init_0 : decode mX0_init.2.1 0 = .ok (.aload_n 0, 1) := by decide +kernel
theorem dX0_init_1 : decode mX0_init.2.1 1 = .ok (.invokespecial 3, 3) := by decide +kernel
theorem dX0_init_4 : decode mX0_init.2.1 4 = .ok (.aload_n 0, 1) := by decide +kernel
theorem dX0_init_5 : decode mX0_init.2.1 5 = .ok (.bipush 20, 2) := by decide +kernel
theorem dX0_init_7 : decode mX0_init.2.1 7 = .ok (.newarray .int, 2) := by decide +kernel
theorem dX0_init_9 : decode mX0_init.2.1 9 = .ok (.putfield 9, 3) := by decide +kernel
theorem dX0_init_12 : decode mX0_init.2.1 12 = .ok (.aload_n 0, 1) := by decide +kernel
theorem dX0_init_13 : decode mX0_init.2.1 13 = .ok (.bipush 20, 2) := by decide +kernel
theorem dX0_init_15 : decode mX0_init.2.1 15 = .ok (.newarray .int, 2) := by decide +kernel
theorem dX0_init_17 : decode mX0_init.2.1 17 = .ok (.putfield 15, 3) := by decide +kernel
theorem dX0_init_20 : decode mX0_init.2.1 20 = .ok (.aload_n 0, 1) := by decide +kernel
theorem dX0_init_21 : decode mX0_init.2.1 21 = .ok (.bipush 80, 2) := by decide +kernel
theorem dX0_init_23 : decode mX0_init.2.1 23 = .ok (.newarray .int, 2) := by decide +kernel
theorem dX0_init_25 : decode mX0_init.2.1 25 = .ok (.putfield 18, 3) := by decide +kernel
theorem dX0_init_28 : decode mX0_init.2.1 28 = .ok (.aload_n 0, 1) := by decide +kernel
theorem dX0_init_29 : decode mX0_init.2.1 29 = .ok (.bipush 80, 2) := by decide +kernel
theorem dX0_init_31 : decode mX0_init.2.1 31 = .ok (.newarray .int, 2) := by decide +kernel
theorem dX0_init_33 : decode mX0_init.2.1 33 = .ok (.putfield 21, 3) := by decide +kernel
theorem dX0_init_36 : decode mX0_init.2.1 36 = .ok (.aload_n 0, 1) := by decide +kernel
theorem dX0_init_37 : decode mX0_init.2.1 37 = .ok (.bipush 80, 2) := by decide +kernel
theorem dX0_init_39 : decode mX0_init.2.1 39 = .ok (.newarray .int, 2) := by decide +kernel
theorem dX0_init_41 : decode mX0_init.2.1 41 = .ok (.putfield 24, 3) := by decide +kernel
theorem dX0_init_44 : decode mX0_init.2.1 44 = .ok (.aload_n 0, 1) := by decide +kernel
theorem dX0_init_45 : decode mX0_init.2.1 45 = .ok (.iconst 0, 1) := by decide +kernel
theorem dX0_init_46 : decode mX0_init.2.1 46 = .ok (.putfield 27, 3) := by decide +kernel
theorem dX0_init_49 : decode mX0_init.2.1 49 = .ok (.aload_n 0, 1) := by decide +kernel
theorem dX0_init_50 : decode mX0_init.2.1 50 = .ok (.iconst 0, 1) := by decide +kernel
theorem dX0_init_51 : decode mX0_init.2.1 51 = .ok (.putfield 31, 3) := by decide +kernel
theorem dX0_init_54 : decode mX0_init.2.1 54 = .ok (.aload_n 0, 1) := by decide +kernel
theorem dX0_init_55 : decode mX0_init.2.1 55 = .ok (.iconst 0, 1) := by decide +kernel
theorem dX0_init_56 : decode mX0_init.2.1 56 = .ok (.putfield 34, 3) := by decide +kernel
theorem dX0_init_59 : decode mX0_init.2.1 59 = .ok (.return_, 1) := by decide +kernel
theorem dX0_measure_0 : decode mX0_measure.2.1 0 = .ok (.iload_n 0, 1) := by decide +kernel
theorem dX0_measure_1 : decode mX0_measure.2.1 1 = .ok (.tableswitch 39 0 2 #[27, 32, 34], 27) := by decide +kernel
theorem dX0_measure_28 : decode mX0_measure.2.1 28 = .ok (.aload_n 1, 1) := by decide +kernel
theorem dX0_measure_29 : decode mX0_measure.2.1 29 = .ok (.getfield 49, 3) := by decide +kernel
theorem dX0_measure_32 : decode mX0_measure.2.1 32 = .ok (.ireturn, 1) := by decide +kernel
theorem dX0_measure_33 : decode mX0_measure.2.1 33 = .ok (.iload_n 2, 1) := by decide +kernel
theorem dX0_measure_34 : decode mX0_measure.2.1 34 = .ok (.ireturn, 1) := by decide +kernel
theorem dX0_measure_35 : decode mX0_measure.2.1 35 = .ok (.aload_n 1, 1) := by decide +kernel
theorem dX0_measure_36 : decode mX0_measure.2.1 36 = .ok (.getfield 54, 3) := by decide +kernel
theorem dX0_measure_39 : decode mX0_measure.2.1 39 = .ok (.ireturn, 1) := by decide +kernel
theorem dX0_measure_40 : decode mX0_measure.2.1 40 = .ok (.aload_n 1, 1) := by decide +kernel
theorem dX0_measure_41 : decode mX0_measure.2.1 41 = .ok (.getfield 57, 3) := by decide +kernel
theorem dX0_measure_44 : decode mX0_measure.2.1 44 = .ok (.ireturn, 1) := by decide +kernel
theorem dX0_payFor_0 : decode mX0_payFor.2.1 0 = .ok (.iconst 0, 1) := by decide +kernel
theorem dX0_payFor_1 : decode mX0_payFor.2.1 1 = .ok (.istore_n 3, 1) := by decide +kernel
theorem dX0_payFor_2 : decode mX0_payFor.2.1 2 = .ok (.iconst 0, 1) := by decide +kernel
theorem dX0_payFor_3 : decode mX0_payFor.2.1 3 = .ok (.istore 4, 2) := by decide +kernel
theorem dX0_payFor_5 : decode mX0_payFor.2.1 5 = .ok (.iconst 0, 1) := by decide +kernel
theorem dX0_payFor_6 : decode mX0_payFor.2.1 6 = .ok (.istore 5, 2) := by decide +kernel
theorem dX0_payFor_8 : decode mX0_payFor.2.1 8 = .ok (.iload 5, 2) := by decide +kernel
theorem dX0_payFor_10 : decode mX0_payFor.2.1 10 = .ok (.aload_n 0, 1) := by decide +kernel
theorem dX0_payFor_11 : decode mX0_payFor.2.1 11 = .ok (.getfield 27, 3) := by decide +kernel
theorem dX0_payFor_14 : decode mX0_payFor.2.1 14 = .ok (.if_icmp .ge 53, 3) := by decide +kernel
theorem dX0_payFor_17 : decode mX0_payFor.2.1 17 = .ok (.iload 5, 2) := by decide +kernel
theorem dX0_payFor_19 : decode mX0_payFor.2.1 19 = .ok (.bipush 20, 2) := by decide +kernel
theorem dX0_payFor_21 : decode mX0_payFor.2.1 21 = .ok (.if_icmp .ge 46, 3) := by decide +kernel
theorem dX0_payFor_24 : decode mX0_payFor.2.1 24 = .ok (.aload_n 0, 1) := by decide +kernel
theorem dX0_payFor_25 : decode mX0_payFor.2.1 25 = .ok (.iload 4, 2) := by decide +kernel
theorem dX0_payFor_27 : decode mX0_payFor.2.1 27 = .ok (.aload_n 0, 1) := by decide +kernel
theorem dX0_payFor_28 : decode mX0_payFor.2.1 28 = .ok (.getfield 9, 3) := by decide +kernel
theorem dX0_payFor_31 : decode mX0_payFor.2.1 31 = .ok (.iload 5, 2) := by decide +kernel
theorem dX0_payFor_33 : decode mX0_payFor.2.1 33 = .ok (.iaload, 1) := by decide +kernel
theorem dX0_payFor_34 : decode mX0_payFor.2.1 34 = .ok (.aload_n 1, 1) := by decide +kernel
theorem dX0_payFor_35 : decode mX0_payFor.2.1 35 = .ok (.iload_n 2, 1) := by decide +kernel
theorem dX0_payFor_36 : decode mX0_payFor.2.1 36 = .ok (.invokevirtual 37, 3) := by decide +kernel
theorem dX0_payFor_39 : decode mX0_payFor.2.1 39 = .ok (.ifCond .eq 13, 3) := by decide +kernel
theorem dX0_payFor_42 : decode mX0_payFor.2.1 42 = .ok (.iload_n 3, 1) := by decide +kernel
theorem dX0_payFor_43 : decode mX0_payFor.2.1 43 = .ok (.aload_n 0, 1) := by decide +kernel
theorem dX0_payFor_44 : decode mX0_payFor.2.1 44 = .ok (.getfield 15, 3) := by decide +kernel
theorem dX0_payFor_47 : decode mX0_payFor.2.1 47 = .ok (.iload 5, 2) := by decide +kernel
theorem dX0_payFor_49 : decode mX0_payFor.2.1 49 = .ok (.iaload, 1) := by decide +kernel
theorem dX0_payFor_50 : decode mX0_payFor.2.1 50 = .ok (.iadd, 1) := by decide +kernel
theorem dX0_payFor_51 : decode mX0_payFor.2.1 51 = .ok (.istore_n 3, 1) := by decide +kernel
theorem dX0_payFor_52 : decode mX0_payFor.2.1 52 = .ok (.aload_n 0, 1) := by decide +kernel
theorem dX0_payFor_53 : decode mX0_payFor.2.1 53 = .ok (.getfield 9, 3) := by decide +kernel
theorem dX0_payFor_56 : decode mX0_payFor.2.1 56 = .ok (.iload 5, 2) := by decide +kernel
theorem dX0_payFor_58 : decode mX0_payFor.2.1 58 = .ok (.iaload, 1) := by decide +kernel
theorem dX0_payFor_59 : decode mX0_payFor.2.1 59 = .ok (.istore 4, 2) := by decide +kernel
theorem dX0_payFor_61 : decode mX0_payFor.2.1 61 = .ok (.iinc 5 1, 3) := by decide +kernel
theorem dX0_payFor_64 : decode mX0_payFor.2.1 64 = .ok (.goto (-56), 3) := by decide +kernel
theorem dX0_payFor_67 : decode mX0_payFor.2.1 67 = .ok (.iload_n 3, 1) := by decide +kernel
theorem dX0_payFor_68 : decode mX0_payFor.2.1 68 = .ok (.ireturn, 1) := by decide +kernel
theorem dX10_bargain_0 : decode mX10_bargain.2.1 0 = .ok (.aload_n 0, 1) := by decide +kernel
theorem dX10_bargain_1 : decode mX10_bargain.2.1 1 = .ok (.getfield 71, 3) := by decide +kernel
theorem dX10_bargain_4 : decode mX10_bargain.2.1 4 = .ok (.bipush 10, 2) := by decide +kernel
theorem dX10_bargain_6 : decode mX10_bargain.2.1 6 = .ok (.if_icmp .lt 5, 3) := by decide +kernel
theorem dX10_bargain_9 : decode mX10_bargain.2.1 9 = .ok (.iconst (-1), 1) := by decide +kernel
theorem dX10_bargain_10 : decode mX10_bargain.2.1 10 = .ok (.ireturn, 1) := by decide +kernel
theorem dX10_bargain_11 : decode mX10_bargain.2.1 11 = .ok (.aload_n 0, 1) := by decide +kernel
theorem dX10_bargain_12 : decode mX10_bargain.2.1 12 = .ok (.getfield 53, 3) := by decide +kernel
theorem dX10_bargain_15 : decode mX10_bargain.2.1 15 = .ok (.aload_n 0, 1) := by decide +kernel
theorem dX10_bargain_16 : decode mX10_bargain.2.1 16 = .ok (.getfield 30, 3) := by decide +kernel
theorem dX10_bargain_19 : decode mX10_bargain.2.1 19 = .ok (.aload_n 0, 1) := by decide +kernel
theorem dX10_bargain_20 : decode mX10_bargain.2.1 20 = .ok (.getfield 71, 3) := by decide +kernel
theorem dX10_bargain_23 : decode mX10_bargain.2.1 23 = .ok (.aaload, 1) := by decide +kernel
theorem dX10_bargain_24 : decode mX10_bargain.2.1 24 = .ok (.invokevirtual 230, 3) := by decide +kernel
theorem dX10_bargain_27 : decode mX10_bargain.2.1 27 = .ok (.istore_n 1, 1) := by decide +kernel
theorem dX10_bargain_28 : decode mX10_bargain.2.1 28 = .ok (.aload_n 0, 1) := by decide +kernel
theorem dX10_bargain_29 : decode mX10_bargain.2.1 29 = .ok (.getfield 44, 3) := by decide +kernel
theorem dX10_bargain_32 : decode mX10_bargain.2.1 32 = .ok (.iconst 0, 1) := by decide +kernel
theorem dX10_bargain_33 : decode mX10_bargain.2.1 33 = .ok (.putfield 224, 3) := by decide +kernel
theorem dX10_bargain_36 : decode mX10_bargain.2.1 36 = .ok (.aload_n 0, 1) := by decide +kernel
theorem dX10_bargain_37 : decode mX10_bargain.2.1 37 = .ok (.aload_n 0, 1) := by decide +kernel
theorem dX10_bargain_38 : decode mX10_bargain.2.1 38 = .ok (.getfield 53, 3) := by decide +kernel
theorem dX10_bargain_41 : decode mX10_bargain.2.1 41 = .ok (.getfield 234, 3) := by decide +kernel
theorem dX10_bargain_44 : decode mX10_bargain.2.1 44 = .ok (.putfield 74, 3) := by decide +kernel
theorem dX10_bargain_47 : decode mX10_bargain.2.1 47 = .ok (.iload_n 1, 1) := by decide +kernel
theorem dX10_bargain_48 : decode mX10_bargain.2.1 48 = .ok (.ifCond .eq 8, 3) := by decide +kernel
theorem dX10_bargain_51 : decode mX10_bargain.2.1 51 = .ok (.bipush (-2), 2) := by decide +kernel
theorem dX10_bargain_53 : decode mX10_bargain.2.1 53 = .ok (.iload_n 1, 1) := by decide +kernel
theorem dX10_bargain_54 : decode mX10_bargain.2.1 54 = .ok (.isub, 1) := by decide +kernel
theorem dX10_bargain_55 : decode mX10_bargain.2.1 55 = .ok (.ireturn, 1) := by decide +kernel
theorem dX10_bargain_56 : decode mX10_bargain.2.1 56 = .ok (.aload_n 0, 1) := by decide +kernel
theorem dX10_bargain_57 : decode mX10_bargain.2.1 57 = .ok (.getfield 30, 3) := by decide +kernel
theorem dX10_bargain_60 : decode mX10_bargain.2.1 60 = .ok (.aload_n 0, 1) := by decide +kernel
theorem dX10_bargain_61 : decode mX10_bargain.2.1 61 = .ok (.getfield 71, 3) := by decide +kernel
theorem dX10_bargain_64 : decode mX10_bargain.2.1 64 = .ok (.aaload, 1) := by decide +kernel
theorem dX10_bargain_65 : decode mX10_bargain.2.1 65 = .ok (.aload_n 0, 1) := by decide +kernel
theorem dX10_bargain_66 : decode mX10_bargain.2.1 66 = .ok (.getfield 77, 3) := by decide +kernel
theorem dX10_bargain_69 : decode mX10_bargain.2.1 69 = .ok (.putfield 235, 3) := by decide +kernel
theorem dX10_bargain_72 : decode mX10_bargain.2.1 72 = .ok (.aload_n 0, 1) := by decide +kernel
theorem dX10_bargain_73 : decode mX10_bargain.2.1 73 = .ok (.dup, 1) := by decide +kernel
theorem dX10_bargain_74 : decode mX10_bargain.2.1 74 = .ok (.getfield 71, 3) := by decide +kernel
theorem dX10_bargain_77 : decode mX10_bargain.2.1 77 = .ok (.iconst 1, 1) := by decide +kernel
theorem dX10_bargain_78 : decode mX10_bargain.2.1 78 = .ok (.iadd, 1) := by decide +kernel
theorem dX10_bargain_79 : decode mX10_bargain.2.1 79 = .ok (.putfield 71, 3) := by decide +kernel
theorem dX10_bargain_82 : decode mX10_bargain.2.1 82 = .ok (.aload_n 0, 1) := by decide +kernel
theorem dX10_bargain_83 : decode mX10_bargain.2.1 83 = .ok (.getfield 71, 3) := by decide +kernel
theorem dX10_bargain_86 : decode mX10_bargain.2.1 86 = .ok (.iconst 1, 1) := by decide +kernel
theorem dX10_bargain_87 : decode mX10_bargain.2.1 87 = .ok (.isub, 1) := by decide +kernel
theorem dX10_bargain_88 : decode mX10_bargain.2.1 88 = .ok (.ireturn, 1) := by decide +kernel
theorem dX10_bargainIn_0 : decode mX10_bargainIn.2.1 0 = .ok (.aload_n 0, 1) := by decide +kernel
theorem dX10_bargainIn_1 : decode mX10_bargainIn.2.1 1 = .ok (.getfield 71, 3) := by decide +kernel
theorem dX10_bargainIn_4 : decode mX10_bargainIn.2.1 4 = .ok (.iconst 1, 1) := by decide +kernel
theorem dX10_bargainIn_5 : decode mX10_bargainIn.2.1 5 = .ok (.isub, 1) := by decide +kernel
theorem dX10_bargainIn_6 : decode mX10_bargainIn.2.1 6 = .ok (.istore_n 2, 1) := by decide +kernel
theorem dX10_bargainIn_7 : decode mX10_bargainIn.2.1 7 = .ok (.iload_n 2, 1) := by decide +kernel
theorem dX10_bargainIn_8 : decode mX10_bargainIn.2.1 8 = .ok (.ifCond .lt 30, 3) := by decide +kernel
theorem dX10_bargainIn_11 : decode mX10_bargainIn.2.1 11 = .ok (.iload_n 2, 1) := by decide +kernel
theorem dX10_bargainIn_12 : decode mX10_bargainIn.2.1 12 = .ok (.bipush 10, 2) := by decide +kernel
theorem dX10_bargainIn_14 : decode mX10_bargainIn.2.1 14 = .ok (.if_icmp .ge 18, 3) := by decide +kernel
theorem dX10_bargainIn_17 : decode mX10_bargainIn.2.1 17 = .ok (.aload_n 0, 1) := by decide +kernel
theorem dX10_bargainIn_18 : decode mX10_bargainIn.2.1 18 = .ok (.getfield 30, 3) := by decide +kernel
theorem dX10_bargainIn_21 : decode mX10_bargainIn.2.1 21 = .ok (.iload_n 2, 1) := by decide +kernel
theorem dX10_bargainIn_22 : decode mX10_bargainIn.2.1 22 = .ok (.aaload, 1) := by decide +kernel
theorem dX10_bargainIn_23 : decode mX10_bargainIn.2.1 23 = .ok (.getfield 235, 3) := by decide +kernel
theorem dX10_bargainIn_26 : decode mX10_bargainIn.2.1 26 = .ok (.iload_n 1, 1) := by decide +kernel
theorem dX10_bargainIn_27 : decode mX10_bargainIn.2.1 27 = .ok (.if_icmp .gt 5, 3) := by decide +kernel
theorem dX10_bargainIn_30 : decode mX10_bargainIn.2.1 30 = .ok (.iload_n 2, 1) := by decide +kernel
theorem dX10_bargainIn_31 : decode mX10_bargainIn.2.1 31 = .ok (.ireturn, 1) := by decide +kernel
theorem dX10_bargainIn_32 : decode mX10_bargainIn.2.1 32 = .ok (.iinc 2 (-1), 3) := by decide +kernel
theorem dX10_bargainIn_35 : decode mX10_bargainIn.2.1 35 = .ok (.goto (-28), 3) := by decide +kernel
theorem dX10_bargainIn_38 : decode mX10_bargainIn.2.1 38 = .ok (.iconst (-1), 1) := by decide +kernel
theorem dX10_bargainIn_39 : decode mX10_bargainIn.2.1 39 = .ok (.ireturn, 1) := by decide +kernel
theorem dX10_best_0 : decode mX10_best.2.1 0 = .ok (.aload_n 0, 1) := by decide +kernel
theorem dX10_best_1 : decode mX10_best.2.1 1 = .ok (.iload_n 1, 1) := by decide +kernel
theorem dX10_best_2 : decode mX10_best.2.1 2 = .ok (.iload_n 2, 1) := by decide +kernel
theorem dX10_best_3 : decode mX10_best.2.1 3 = .ok (.invokevirtual 215, 3) := by decide +kernel
theorem dX10_best_6 : decode mX10_best.2.1 6 = .ok (.ifCond .eq 13, 3) := by decide +kernel
theorem dX10_best_9 : decode mX10_best.2.1 9 = .ok (.aload_n 0, 1) := by decide +kernel
theorem dX10_best_10 : decode mX10_best.2.1 10 = .ok (.getfield 60, 3) := by decide +kernel
theorem dX10_best_13 : decode mX10_best.2.1 13 = .ok (.getfield 219, 3) := by decide +kernel
theorem dX10_best_16 : decode mX10_best.2.1 16 = .ok (.goto 4, 3) := by decide +kernel
theorem dX10_best_19 : decode mX10_best.2.1 19 = .ok (.iconst (-1), 1) := by decide +kernel
theorem dX10_best_20 : decode mX10_best.2.1 20 = .ok (.ireturn, 1) := by decide +kernel
theorem dX10_bestOf_0 : decode mX10_bestOf.2.1 0 = .ok (.aload_n 0, 1) := by decide +kernel
theorem dX10_bestOf_1 : decode mX10_bestOf.2.1 1 = .ok (.iload_n 1, 1) := by decide +kernel
theorem dX10_bestOf_2 : decode mX10_bestOf.2.1 2 = .ok (.iload_n 2, 1) := by decide +kernel
theorem dX10_bestOf_3 : decode mX10_bestOf.2.1 3 = .ok (.invokevirtual 215, 3) := by decide +kernel
theorem dX10_bestOf_6 : decode mX10_bestOf.2.1 6 = .ok (.ifCond .eq 14, 3) := by decide +kernel
theorem dX10_bestOf_9 : decode mX10_bestOf.2.1 9 = .ok (.aload_n 0, 1) := by decide +kernel
theorem dX10_bestOf_10 : decode mX10_bestOf.2.1 10 = .ok (.getfield 60, 3) := by decide +kernel
theorem dX10_bestOf_13 : decode mX10_bestOf.2.1 13 = .ok (.iload_n 3, 1) := by decide +kernel
theorem dX10_bestOf_14 : decode mX10_bestOf.2.1 14 = .ok (.invokevirtual 221, 3) := by decide +kernel
theorem dX10_bestOf_17 : decode mX10_bestOf.2.1 17 = .ok (.goto 4, 3) := by decide +kernel
theorem dX10_bestOf_20 : decode mX10_bestOf.2.1 20 = .ok (.iconst (-1), 1) := by decide +kernel
theorem dX10_bestOf_21 : decode mX10_bestOf.2.1 21 = .ok (.ireturn, 1) := by decide +kernel
theorem dX10_brought_0 : decode mX10_brought.2.1 0 = .ok (.aload_n 0, 1) := by decide +kernel
theorem dX10_brought_1 : decode mX10_brought.2.1 1 = .ok (.iload_n 1, 1) := by decide +kernel
theorem dX10_brought_2 : decode mX10_brought.2.1 2 = .ok (.invokevirtual 120, 3) := by decide +kernel
theorem dX10_brought_5 : decode mX10_brought.2.1 5 = .ok (.astore_n 2, 1) := by decide +kernel
theorem dX10_brought_6 : decode mX10_brought.2.1 6 = .ok (.aload_n 2, 1) := by decide +kernel
theorem dX10_brought_7 : decode mX10_brought.2.1 7 = .ok (.ifnull 11, 3) := by decide +kernel
theorem dX10_brought_10 : decode mX10_brought.2.1 10 = .ok (.aload_n 2, 1) := by decide +kernel
theorem dX10_brought_11 : decode mX10_brought.2.1 11 = .ok (.getfield 128, 3) := by decide +kernel
theorem dX10_brought_14 : decode mX10_brought.2.1 14 = .ok (.iconst 2, 1) := by decide +kernel
theorem dX10_brought_15 : decode mX10_brought.2.1 15 = .ok (.if_icmp .eq 14, 3) := by decide +kernel
theorem dX10_brought_18 : decode mX10_brought.2.1 18 = .ok (.new 265, 3) := by decide +kernel
theorem dX10_brought_21 : decode mX10_brought.2.1 21 = .ok (.dup, 1) := by decide +kernel
theorem dX10_brought_22 : decode mX10_brought.2.1 22 = .ok (.ldc_w 267, 3) := by decide +kernel
theorem dX10_brought_25 : decode mX10_brought.2.1 25 = .ok (.invokespecial 269, 3) := by decide +kernel
theorem dX10_brought_28 : decode mX10_brought.2.1 28 = .ok (.athrow, 1) := by decide +kernel
theorem dX10_brought_29 : decode mX10_brought.2.1 29 = .ok (.aload_n 2, 1) := by decide +kernel
theorem dX10_brought_30 : decode mX10_brought.2.1 30 = .ok (.getfield 272, 3) := by decide +kernel
theorem dX10_brought_33 : decode mX10_brought.2.1 33 = .ok (.ireturn, 1) := by decide +kernel
theorem dX10_count_0 : decode mX10_count.2.1 0 = .ok (.iload_n 1, 1) := by decide +kernel
theorem dX10_count_1 : decode mX10_count.2.1 1 = .ok (.tableswitch 116 0 9 #[55, 60, 68, 73, 78, 86, 91, 99, 105, 111], 55) := by decide +kernel
theorem dX10_count_56 : decode mX10_count.2.1 56 = .ok (.aload_n 0, 1) := by decide +kernel
theorem dX10_count_57 : decode mX10_count.2.1 57 = .ok (.getfield 77, 3) := by decide +kernel
theorem dX10_count_60 : decode mX10_count.2.1 60 = .ok (.ireturn, 1) := by decide +kernel
theorem dX10_count_61 : decode mX10_count.2.1 61 = .ok (.aload_n 0, 1) := by decide +kernel
theorem dX10_count_62 : decode mX10_count.2.1 62 = .ok (.getfield 10, 3) := by decide +kernel
theorem dX10_count_65 : decode mX10_count.2.1 65 = .ok (.getfield 279, 3) := by decide +kernel
theorem dX10_count_68 : decode mX10_count.2.1 68 = .ok (.ireturn, 1) := by decide +kernel
theorem dX10_count_69 : decode mX10_count.2.1 69 = .ok (.aload_n 0, 1) := by decide +kernel
theorem dX10_count_70 : decode mX10_count.2.1 70 = .ok (.getfield 64, 3) := by decide +kernel
theorem dX10_count_73 : decode mX10_count.2.1 73 = .ok (.ireturn, 1) := by decide +kernel
theorem dX10_count_74 : decode mX10_count.2.1 74 = .ok (.aload_n 0, 1) := by decide +kernel
theorem dX10_count_75 : decode mX10_count.2.1 75 = .ok (.getfield 68, 3) := by decide +kernel
theorem dX10_count_78 : decode mX10_count.2.1 78 = .ok (.ireturn, 1) := by decide +kernel
theorem dX10_count_79 : decode mX10_count.2.1 79 = .ok (.aload_n 0, 1) := by decide +kernel
theorem dX10_count_80 : decode mX10_count.2.1 80 = .ok (.getfield 10, 3) := by decide +kernel
theorem dX10_count_83 : decode mX10_count.2.1 83 = .ok (.getfield 282, 3) := by decide +kernel
theorem dX10_count_86 : decode mX10_count.2.1 86 = .ok (.ireturn, 1) := by decide +kernel
theorem dX10_count_87 : decode mX10_count.2.1 87 = .ok (.aload_n 0, 1) := by decide +kernel
theorem dX10_count_88 : decode mX10_count.2.1 88 = .ok (.getfield 71, 3) := by decide +kernel
theorem dX10_count_91 : decode mX10_count.2.1 91 = .ok (.ireturn, 1) := by decide +kernel
theorem dX10_count_92 : decode mX10_count.2.1 92 = .ok (.aload_n 0, 1) := by decide +kernel
theorem dX10_count_93 : decode mX10_count.2.1 93 = .ok (.getfield 44, 3) := by decide +kernel
theorem dX10_count_96 : decode mX10_count.2.1 96 = .ok (.getfield 224, 3) := by decide +kernel
theorem dX10_count_99 : decode mX10_count.2.1 99 = .ok (.ireturn, 1) := by decide +kernel
theorem dX10_count_100 : decode mX10_count.2.1 100 = .ok (.aload_n 0, 1) := by decide +kernel
theorem dX10_count_101 : decode mX10_count.2.1 101 = .ok (.iconst 0, 1) := by decide +kernel
theorem dX10_count_102 : decode mX10_count.2.1 102 = .ok (.invokevirtual 285, 3) := by decide +kernel
theorem dX10_count_105 : decode mX10_count.2.1 105 = .ok (.ireturn, 1) := by decide +kernel
theorem dX10_count_106 : decode mX10_count.2.1 106 = .ok (.aload_n 0, 1) := by decide +kernel
theorem dX10_count_107 : decode mX10_count.2.1 107 = .ok (.iconst 2, 1) := by decide +kernel
theorem dX10_count_108 : decode mX10_count.2.1 108 = .ok (.invokevirtual 285, 3) := by decide +kernel
theorem dX10_count_111 : decode mX10_count.2.1 111 = .ok (.ireturn, 1) := by decide +kernel
theorem dX10_count_112 : decode mX10_count.2.1 112 = .ok (.aload_n 0, 1) := by decide +kernel
theorem dX10_count_113 : decode mX10_count.2.1 113 = .ok (.invokevirtual 288, 3) := by decide +kernel
theorem dX10_count_116 : decode mX10_count.2.1 116 = .ok (.ireturn, 1) := by decide +kernel
theorem dX10_count_117 : decode mX10_count.2.1 117 = .ok (.iconst (-1), 1) := by decide +kernel
theorem dX10_count_118 : decode mX10_count.2.1 118 = .ok (.ireturn, 1) := by decide +kernel
theorem dX10_down_0 : decode mX10_down.2.1 0 = .ok (.aload_n 0, 1) := by decide +kernel
theorem dX10_down_1 : decode mX10_down.2.1 1 = .ok (.iload_n 1, 1) := by decide +kernel
theorem dX10_down_2 : decode mX10_down.2.1 2 = .ok (.invokevirtual 120, 3) := by decide +kernel
theorem dX10_down_5 : decode mX10_down.2.1 5 = .ok (.astore_n 2, 1) := by decide +kernel
theorem dX10_down_6 : decode mX10_down.2.1 6 = .ok (.aload_n 2, 1) := by decide +kernel
theorem dX10_down_7 : decode mX10_down.2.1 7 = .ok (.ifnonnull 5, 3) := by decide +kernel
theorem dX10_down_10 : decode mX10_down.2.1 10 = .ok (.iconst (-1), 1) := by decide +kernel
theorem dX10_down_11 : decode mX10_down.2.1 11 = .ok (.ireturn, 1) := by decide +kernel
theorem dX10_down_12 : decode mX10_down.2.1 12 = .ok (.aload_n 2, 1) := by decide +kernel
theorem dX10_down_13 : decode mX10_down.2.1 13 = .ok (.getfield 128, 3) := by decide +kernel
theorem dX10_down_16 : decode mX10_down.2.1 16 = .ok (.iconst 1, 1) := by decide +kernel
theorem dX10_down_17 : decode mX10_down.2.1 17 = .ok (.if_icmp .eq 6, 3) := by decide +kernel
theorem dX10_down_20 : decode mX10_down.2.1 20 = .ok (.bipush (-2), 2) := by decide +kernel
