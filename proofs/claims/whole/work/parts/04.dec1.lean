theorem dJ9_abs_0f7a4_0 : decode cJ9_abs_0f7a4 0 = .ok (.iload_n 0, 1) := by decide +kernel
theorem dJ9_abs_0f7a4_1 : decode cJ9_abs_0f7a4 1 = .ok (.ifCond .ge 8, 3) := by decide +kernel
theorem dJ9_abs_0f7a4_4 : decode cJ9_abs_0f7a4 4 = .ok (.iload_n 0, 1) := by decide +kernel
theorem dJ9_abs_0f7a4_5 : decode cJ9_abs_0f7a4 5 = .ok (.ineg, 1) := by decide +kernel
theorem dJ9_abs_0f7a4_6 : decode cJ9_abs_0f7a4 6 = .ok (.goto 4, 3) := by decide +kernel
theorem dJ9_abs_0f7a4_9 : decode cJ9_abs_0f7a4 9 = .ok (.iload_n 0, 1) := by decide +kernel
theorem dJ9_abs_0f7a4_10 : decode cJ9_abs_0f7a4 10 = .ok (.ireturn, 1) := by decide +kernel
theorem dJ9_min_7cf53_0 : decode cJ9_min_7cf53 0 = .ok (.iload_n 0, 1) := by decide +kernel
theorem dJ9_min_7cf53_1 : decode cJ9_min_7cf53 1 = .ok (.iload_n 1, 1) := by decide +kernel
theorem dJ9_min_7cf53_2 : decode cJ9_min_7cf53 2 = .ok (.if_icmp .gt 7, 3) := by decide +kernel
theorem dJ9_min_7cf53_5 : decode cJ9_min_7cf53 5 = .ok (.iload_n 0, 1) := by decide +kernel
theorem dJ9_min_7cf53_6 : decode cJ9_min_7cf53 6 = .ok (.goto 4, 3) := by decide +kernel
theorem dJ9_min_7cf53_9 : decode cJ9_min_7cf53 9 = .ok (.iload_n 1, 1) := by decide +kernel
theorem dJ9_min_7cf53_10 : decode cJ9_min_7cf53 10 = .ok (.ireturn, 1) := by decide +kernel
set_option maxRecDepth 20000 in
theorem ggJ0_length_8abf5_J0_coder_7d493 : GoodIn wsJ0_length_8abf5 wsJ0_coder_7d493 := goodIn_r _ [6, 7, 8] (by decide +kernel) (by decide +kernel)
set_option maxRecDepth 20000 in
theorem gJ0_length_8abf5_J0_coder_7d493 : GoodIn wsJ0_length_8abf5 (wsV RJ0 335 RJ0 yJ0_coder_7d493 wsJ0_coder_7d493) := goodIn_app (goodIn_of _ (by decide +kernel)) ggJ0_length_8abf5_J0_coder_7d493
theorem dJ0_length_8abf5_0 : decode cJ0_length_8abf5 0 = .ok (.aload_n 0, 1) := by decide +kernel
theorem dJ0_length_8abf5_1 : decode cJ0_length_8abf5 1 = .ok (.getfield 9, 3) := by decide +kernel
theorem dJ0_length_8abf5_4 : decode cJ0_length_8abf5 4 = .ok (.arraylength, 1) := by decide +kernel
theorem dJ0_length_8abf5_5 : decode cJ0_length_8abf5 5 = .ok (.aload_n 0, 1) := by decide +kernel
theorem dJ0_length_8abf5_6 : decode cJ0_length_8abf5 6 = .ok (.invokevirtual 335, 3) := by decide +kernel
theorem dJ0_length_8abf5_9 : decode cJ0_length_8abf5 9 = .ok (.ishr, 1) := by decide +kernel
theorem dJ0_length_8abf5_10 : decode cJ0_length_8abf5 10 = .ok (.ireturn, 1) := by decide +kernel
set_option maxRecDepth 20000 in
theorem ggJ0_charAt_5068e_J0_isLatin1_aae02 : GoodIn wsJ0_charAt_5068e wsJ0_isLatin1_aae02 := goodIn_r _ [6, 7, 8] (by decide +kernel) (by decide +kernel)
set_option maxRecDepth 20000 in
theorem gJ0_charAt_5068e_J0_isLatin1_aae02 : GoodIn wsJ0_charAt_5068e (wsV RJ0 492 RJ0 yJ0_isLatin1_aae02 wsJ0_isLatin1_aae02) := goodIn_app (goodIn_of _ (by decide +kernel)) ggJ0_charAt_5068e_J0_isLatin1_aae02
set_option maxRecDepth 20000 in
theorem ggJ0_charAt_5068e_J1_charAt_3b067 : GoodIn wsJ0_charAt_5068e wsJ1_charAt_3b067 := goodIn_r _ [12, 13, 14, 5, 15, 16, 17, 18, 19, 20] (by decide +kernel) (by decide +kernel)
set_option maxRecDepth 20000 in
theorem gJ0_charAt_5068e_J1_charAt_3b067 : GoodIn wsJ0_charAt_5068e (va_wsS RJ0 495 yJ1_charAt_3b067 wsJ1_charAt_3b067) := goodIn_app (goodIn_of _ (by decide +kernel)) ggJ0_charAt_5068e_J1_charAt_3b067
set_option maxRecDepth 20000 in
theorem ggJ0_charAt_5068e_J2_charAt_3b067 : GoodIn wsJ0_charAt_5068e wsJ2_charAt_3b067 := goodIn_r _ [24, 25, 26, 23, 27, 28, 29, 30, 31, 14, 5, 15, 16, 17, 18, 19, 20, 32, 33, 34, 35, 36, 37] (by decide +kernel) (by decide +kernel)
set_option maxRecDepth 20000 in
theorem gJ0_charAt_5068e_J2_charAt_3b067 : GoodIn wsJ0_charAt_5068e (va_wsS RJ0 498 yJ2_charAt_3b067 wsJ2_charAt_3b067) := goodIn_app (goodIn_of _ (by decide +kernel)) ggJ0_charAt_5068e_J2_charAt_3b067
theorem dJ0_charAt_5068e_0 : decode cJ0_charAt_5068e 0 = .ok (.aload_n 0, 1) := by decide +kernel
theorem dJ0_charAt_5068e_1 : decode cJ0_charAt_5068e 1 = .ok (.invokevirtual 492, 3) := by decide +kernel
theorem dJ0_charAt_5068e_4 : decode cJ0_charAt_5068e 4 = .ok (.ifCond .eq 12, 3) := by decide +kernel
theorem dJ0_charAt_5068e_7 : decode cJ0_charAt_5068e 7 = .ok (.aload_n 0, 1) := by decide +kernel
theorem dJ0_charAt_5068e_8 : decode cJ0_charAt_5068e 8 = .ok (.getfield 9, 3) := by decide +kernel
theorem dJ0_charAt_5068e_11 : decode cJ0_charAt_5068e 11 = .ok (.iload_n 1, 1) := by decide +kernel
theorem dJ0_charAt_5068e_12 : decode cJ0_charAt_5068e 12 = .ok (.invokestatic 495, 3) := by decide +kernel
theorem dJ0_charAt_5068e_15 : decode cJ0_charAt_5068e 15 = .ok (.ireturn, 1) := by decide +kernel
theorem dJ0_charAt_5068e_16 : decode cJ0_charAt_5068e 16 = .ok (.aload_n 0, 1) := by decide +kernel
theorem dJ0_charAt_5068e_17 : decode cJ0_charAt_5068e 17 = .ok (.getfield 9, 3) := by decide +kernel
theorem dJ0_charAt_5068e_20 : decode cJ0_charAt_5068e 20 = .ok (.iload_n 1, 1) := by decide +kernel
theorem dJ0_charAt_5068e_21 : decode cJ0_charAt_5068e 21 = .ok (.invokestatic 498, 3) := by decide +kernel
theorem dJ0_charAt_5068e_24 : decode cJ0_charAt_5068e 24 = .ok (.ireturn, 1) := by decide +kernel
theorem dJ0_coder_7d493_0 : decode cJ0_coder_7d493 0 = .ok (.getstatic 38, 3) := by decide +kernel
theorem dJ0_coder_7d493_3 : decode cJ0_coder_7d493 3 = .ok (.ifCond .eq 10, 3) := by decide +kernel
theorem dJ0_coder_7d493_6 : decode cJ0_coder_7d493 6 = .ok (.aload_n 0, 1) := by decide +kernel
theorem dJ0_coder_7d493_7 : decode cJ0_coder_7d493 7 = .ok (.getfield 15, 3) := by decide +kernel
theorem dJ0_coder_7d493_10 : decode cJ0_coder_7d493 10 = .ok (.goto 4, 3) := by decide +kernel
theorem dJ0_coder_7d493_13 : decode cJ0_coder_7d493 13 = .ok (.iconst 1, 1) := by decide +kernel
theorem dJ0_coder_7d493_14 : decode cJ0_coder_7d493 14 = .ok (.ireturn, 1) := by decide +kernel
theorem dJ0_isLatin1_aae02_0 : decode cJ0_isLatin1_aae02 0 = .ok (.getstatic 38, 3) := by decide +kernel
theorem dJ0_isLatin1_aae02_3 : decode cJ0_isLatin1_aae02 3 = .ok (.ifCond .eq 14, 3) := by decide +kernel
theorem dJ0_isLatin1_aae02_6 : decode cJ0_isLatin1_aae02 6 = .ok (.aload_n 0, 1) := by decide +kernel
theorem dJ0_isLatin1_aae02_7 : decode cJ0_isLatin1_aae02 7 = .ok (.getfield 15, 3) := by decide +kernel
theorem dJ0_isLatin1_aae02_10 : decode cJ0_isLatin1_aae02 10 = .ok (.ifCond .ne 7, 3) := by decide +kernel
theorem dJ0_isLatin1_aae02_13 : decode cJ0_isLatin1_aae02 13 = .ok (.iconst 1, 1) := by decide +kernel
theorem dJ0_isLatin1_aae02_14 : decode cJ0_isLatin1_aae02 14 = .ok (.goto 4, 3) := by decide +kernel
theorem dJ0_isLatin1_aae02_17 : decode cJ0_isLatin1_aae02 17 = .ok (.iconst 0, 1) := by decide +kernel
theorem dJ0_isLatin1_aae02_18 : decode cJ0_isLatin1_aae02 18 = .ok (.ireturn, 1) := by decide +kernel
set_option maxRecDepth 20000 in
theorem ggJ0_checkIndex_df160_J3_checkIndex_8e157 : GoodIn wsJ0_checkIndex_df160 wsJ3_checkIndex_8e157 := goodIn_r _ [5] (by decide +kernel) (by decide +kernel)
set_option maxRecDepth 20000 in
theorem gJ0_checkIndex_df160_J3_checkIndex_8e157 : GoodIn wsJ0_checkIndex_df160 (va_wsS RJ0 1059 yJ3_checkIndex_8e157 wsJ3_checkIndex_8e157) := goodIn_app (goodIn_of _ (by decide +kernel)) ggJ0_checkIndex_df160_J3_checkIndex_8e157
theorem dJ0_checkIndex_df160_0 : decode cJ0_checkIndex_df160 0 = .ok (.iload_n 0, 1) := by decide +kernel
theorem dJ0_checkIndex_df160_1 : decode cJ0_checkIndex_df160 1 = .ok (.iload_n 1, 1) := by decide +kernel
theorem dJ0_checkIndex_df160_2 : decode cJ0_checkIndex_df160 2 = .ok (.getstatic 1053, 3) := by decide +kernel
theorem dJ0_checkIndex_df160_5 : decode cJ0_checkIndex_df160 5 = .ok (.invokestatic 1059, 3) := by decide +kernel
theorem dJ0_checkIndex_df160_8 : decode cJ0_checkIndex_df160 8 = .ok (.pop, 1) := by decide +kernel
theorem dJ0_checkIndex_df160_9 : decode cJ0_checkIndex_df160 9 = .ok (.return_, 1) := by decide +kernel
set_option maxRecDepth 20000 in
theorem ggJ1_charAt_3b067_J0_checkIndex_df160 : GoodIn wsJ1_charAt_3b067 wsJ0_checkIndex_df160 := goodIn_r _ [4, 5, 6, 7, 8, 9] (by decide +kernel) (by decide +kernel)
set_option maxRecDepth 20000 in
theorem gJ1_charAt_3b067_J0_checkIndex_df160 : GoodIn wsJ1_charAt_3b067 (va_wsS RJ1 9 yJ0_checkIndex_df160 wsJ0_checkIndex_df160) := goodIn_app (goodIn_of _ (by decide +kernel)) ggJ1_charAt_3b067_J0_checkIndex_df160
theorem dJ1_charAt_3b067_0 : decode cJ1_charAt_3b067 0 = .ok (.iload_n 1, 1) := by decide +kernel
theorem dJ1_charAt_3b067_1 : decode cJ1_charAt_3b067 1 = .ok (.aload_n 0, 1) := by decide +kernel
theorem dJ1_charAt_3b067_2 : decode cJ1_charAt_3b067 2 = .ok (.arraylength, 1) := by decide +kernel
theorem dJ1_charAt_3b067_3 : decode cJ1_charAt_3b067 3 = .ok (.invokestatic 9, 3) := by decide +kernel
theorem dJ1_charAt_3b067_6 : decode cJ1_charAt_3b067 6 = .ok (.aload_n 0, 1) := by decide +kernel
theorem dJ1_charAt_3b067_7 : decode cJ1_charAt_3b067 7 = .ok (.iload_n 1, 1) := by decide +kernel
theorem dJ1_charAt_3b067_8 : decode cJ1_charAt_3b067 8 = .ok (.baload, 1) := by decide +kernel
theorem dJ1_charAt_3b067_9 : decode cJ1_charAt_3b067 9 = .ok (.sipush 255, 3) := by decide +kernel
theorem dJ1_charAt_3b067_12 : decode cJ1_charAt_3b067 12 = .ok (.iand, 1) := by decide +kernel
theorem dJ1_charAt_3b067_13 : decode cJ1_charAt_3b067 13 = .ok (.i2c, 1) := by decide +kernel
theorem dJ1_charAt_3b067_14 : decode cJ1_charAt_3b067 14 = .ok (.ireturn, 1) := by decide +kernel
set_option maxRecDepth 20000 in
theorem ggJ2_getChar_3b067_J2_length_9d52b : GoodIn wsJ2_getChar_3b067 wsJ2_length_9d52b := goodIn_r _ [7] (by decide +kernel) (by decide +kernel)
set_option maxRecDepth 20000 in
theorem gJ2_getChar_3b067_J2_length_9d52b : GoodIn wsJ2_getChar_3b067 (va_wsS RJ2 48 yJ2_length_9d52b wsJ2_length_9d52b) := goodIn_app (goodIn_of _ (by decide +kernel)) ggJ2_getChar_3b067_J2_length_9d52b
theorem dJ2_getChar_3b067_0 : decode cJ2_getChar_3b067 0 = .ok (.getstatic 44, 3) := by decide +kernel
theorem dJ2_getChar_3b067_3 : decode cJ2_getChar_3b067 3 = .ok (.ifCond .ne 25, 3) := by decide +kernel
theorem dJ2_getChar_3b067_6 : decode cJ2_getChar_3b067 6 = .ok (.iload_n 1, 1) := by decide +kernel
theorem dJ2_getChar_3b067_7 : decode cJ2_getChar_3b067 7 = .ok (.ifCond .lt 11, 3) := by decide +kernel
theorem dJ2_getChar_3b067_10 : decode cJ2_getChar_3b067 10 = .ok (.iload_n 1, 1) := by decide +kernel
theorem dJ2_getChar_3b067_11 : decode cJ2_getChar_3b067 11 = .ok (.aload_n 0, 1) := by decide +kernel
theorem dJ2_getChar_3b067_12 : decode cJ2_getChar_3b067 12 = .ok (.invokestatic 48, 3) := by decide +kernel
theorem dJ2_getChar_3b067_15 : decode cJ2_getChar_3b067 15 = .ok (.if_icmp .lt 13, 3) := by decide +kernel
theorem dJ2_getChar_3b067_18 : decode cJ2_getChar_3b067 18 = .ok (.new 52, 3) := by decide +kernel
theorem dJ2_getChar_3b067_21 : decode cJ2_getChar_3b067 21 = .ok (.dup, 1) := by decide +kernel
theorem dJ2_getChar_3b067_22 : decode cJ2_getChar_3b067 22 = .ok (.ldc 54, 2) := by decide +kernel
theorem dJ2_getChar_3b067_24 : decode cJ2_getChar_3b067 24 = .ok (.invokespecial 56, 3) := by decide +kernel
theorem dJ2_getChar_3b067_27 : decode cJ2_getChar_3b067 27 = .ok (.athrow, 1) := by decide +kernel
theorem dJ2_getChar_3b067_28 : decode cJ2_getChar_3b067 28 = .ok (.iload_n 1, 1) := by decide +kernel
theorem dJ2_getChar_3b067_29 : decode cJ2_getChar_3b067 29 = .ok (.iconst 1, 1) := by decide +kernel
theorem dJ2_getChar_3b067_30 : decode cJ2_getChar_3b067 30 = .ok (.ishl, 1) := by decide +kernel
theorem dJ2_getChar_3b067_31 : decode cJ2_getChar_3b067 31 = .ok (.istore_n 1, 1) := by decide +kernel
theorem dJ2_getChar_3b067_32 : decode cJ2_getChar_3b067 32 = .ok (.aload_n 0, 1) := by decide +kernel
theorem dJ2_getChar_3b067_33 : decode cJ2_getChar_3b067 33 = .ok (.iload_n 1, 1) := by decide +kernel
theorem dJ2_getChar_3b067_34 : decode cJ2_getChar_3b067 34 = .ok (.iinc 1 1, 3) := by decide +kernel
theorem dJ2_getChar_3b067_37 : decode cJ2_getChar_3b067 37 = .ok (.baload, 1) := by decide +kernel
theorem dJ2_getChar_3b067_38 : decode cJ2_getChar_3b067 38 = .ok (.sipush 255, 3) := by decide +kernel
theorem dJ2_getChar_3b067_41 : decode cJ2_getChar_3b067 41 = .ok (.iand, 1) := by decide +kernel
theorem dJ2_getChar_3b067_42 : decode cJ2_getChar_3b067 42 = .ok (.getstatic 59, 3) := by decide +kernel
theorem dJ2_getChar_3b067_45 : decode cJ2_getChar_3b067 45 = .ok (.ishl, 1) := by decide +kernel
theorem dJ2_getChar_3b067_46 : decode cJ2_getChar_3b067 46 = .ok (.aload_n 0, 1) := by decide +kernel
theorem dJ2_getChar_3b067_47 : decode cJ2_getChar_3b067 47 = .ok (.iload_n 1, 1) := by decide +kernel
theorem dJ2_getChar_3b067_48 : decode cJ2_getChar_3b067 48 = .ok (.baload, 1) := by decide +kernel
theorem dJ2_getChar_3b067_49 : decode cJ2_getChar_3b067 49 = .ok (.sipush 255, 3) := by decide +kernel
theorem dJ2_getChar_3b067_52 : decode cJ2_getChar_3b067 52 = .ok (.iand, 1) := by decide +kernel
theorem dJ2_getChar_3b067_53 : decode cJ2_getChar_3b067 53 = .ok (.getstatic 63, 3) := by decide +kernel
theorem dJ2_getChar_3b067_56 : decode cJ2_getChar_3b067 56 = .ok (.ishl, 1) := by decide +kernel
theorem dJ2_getChar_3b067_57 : decode cJ2_getChar_3b067 57 = .ok (.ior, 1) := by decide +kernel
theorem dJ2_getChar_3b067_58 : decode cJ2_getChar_3b067 58 = .ok (.i2c, 1) := by decide +kernel
theorem dJ2_getChar_3b067_59 : decode cJ2_getChar_3b067 59 = .ok (.ireturn, 1) := by decide +kernel
theorem dJ2_length_9d52b_0 : decode cJ2_length_9d52b 0 = .ok (.aload_n 0, 1) := by decide +kernel
theorem dJ2_length_9d52b_1 : decode cJ2_length_9d52b 1 = .ok (.arraylength, 1) := by decide +kernel
theorem dJ2_length_9d52b_2 : decode cJ2_length_9d52b 2 = .ok (.iconst 1, 1) := by decide +kernel
theorem dJ2_length_9d52b_3 : decode cJ2_length_9d52b 3 = .ok (.ishr, 1) := by decide +kernel
theorem dJ2_length_9d52b_4 : decode cJ2_length_9d52b 4 = .ok (.ireturn, 1) := by decide +kernel
set_option maxRecDepth 20000 in
theorem ggJ2_charAt_3b067_J2_checkIndex_2214a : GoodIn wsJ2_charAt_3b067 wsJ2_checkIndex_2214a := goodIn_r _ [4, 5, 6, 3, 7, 8, 9, 10, 11, 12, 13, 14, 15, 16] (by decide +kernel) (by decide +kernel)
set_option maxRecDepth 20000 in
theorem gJ2_charAt_3b067_J2_checkIndex_2214a : GoodIn wsJ2_charAt_3b067 (va_wsS RJ2 67 yJ2_checkIndex_2214a wsJ2_checkIndex_2214a) := goodIn_app (goodIn_of _ (by decide +kernel)) ggJ2_charAt_3b067_J2_checkIndex_2214a
set_option maxRecDepth 20000 in
theorem ggJ2_charAt_3b067_J2_getChar_3b067 : GoodIn wsJ2_charAt_3b067 wsJ2_getChar_3b067 := goodIn_r _ [19, 20, 21, 22, 5, 6, 3, 7] (by decide +kernel) (by decide +kernel)
set_option maxRecDepth 20000 in
theorem gJ2_charAt_3b067_J2_getChar_3b067 : GoodIn wsJ2_charAt_3b067 (va_wsS RJ2 71 yJ2_getChar_3b067 wsJ2_getChar_3b067) := goodIn_app (goodIn_of _ (by decide +kernel)) ggJ2_charAt_3b067_J2_getChar_3b067
theorem dJ2_charAt_3b067_0 : decode cJ2_charAt_3b067 0 = .ok (.iload_n 1, 1) := by decide +kernel
theorem dJ2_charAt_3b067_1 : decode cJ2_charAt_3b067 1 = .ok (.aload_n 0, 1) := by decide +kernel
theorem dJ2_charAt_3b067_2 : decode cJ2_charAt_3b067 2 = .ok (.invokestatic 67, 3) := by decide +kernel
theorem dJ2_charAt_3b067_5 : decode cJ2_charAt_3b067 5 = .ok (.aload_n 0, 1) := by decide +kernel
theorem dJ2_charAt_3b067_6 : decode cJ2_charAt_3b067 6 = .ok (.iload_n 1, 1) := by decide +kernel
theorem dJ2_charAt_3b067_7 : decode cJ2_charAt_3b067 7 = .ok (.invokestatic 71, 3) := by decide +kernel
theorem dJ2_charAt_3b067_10 : decode cJ2_charAt_3b067 10 = .ok (.ireturn, 1) := by decide +kernel
set_option maxRecDepth 20000 in
theorem ggJ2_checkIndex_2214a_J2_length_9d52b : GoodIn wsJ2_checkIndex_2214a wsJ2_length_9d52b := goodIn_r _ [4] (by decide +kernel) (by decide +kernel)
set_option maxRecDepth 20000 in
theorem gJ2_checkIndex_2214a_J2_length_9d52b : GoodIn wsJ2_checkIndex_2214a (va_wsS RJ2 48 yJ2_length_9d52b wsJ2_length_9d52b) := goodIn_app (goodIn_of _ (by decide +kernel)) ggJ2_checkIndex_2214a_J2_length_9d52b
set_option maxRecDepth 20000 in
theorem ggJ2_checkIndex_2214a_J0_checkIndex_df160 : GoodIn wsJ2_checkIndex_2214a wsJ0_checkIndex_df160 := goodIn_r _ [8, 9, 10, 11, 12, 13] (by decide +kernel) (by decide +kernel)
set_option maxRecDepth 20000 in
theorem gJ2_checkIndex_2214a_J0_checkIndex_df160 : GoodIn wsJ2_checkIndex_2214a (va_wsS RJ2 414 yJ0_checkIndex_df160 wsJ0_checkIndex_df160) := goodIn_app (goodIn_of _ (by decide +kernel)) ggJ2_checkIndex_2214a_J0_checkIndex_df160
theorem dJ2_checkIndex_2214a_0 : decode cJ2_checkIndex_2214a 0 = .ok (.iload_n 0, 1) := by decide +kernel
theorem dJ2_checkIndex_2214a_1 : decode cJ2_checkIndex_2214a 1 = .ok (.aload_n 1, 1) := by decide +kernel
theorem dJ2_checkIndex_2214a_2 : decode cJ2_checkIndex_2214a 2 = .ok (.invokestatic 48, 3) := by decide +kernel
theorem dJ2_checkIndex_2214a_5 : decode cJ2_checkIndex_2214a 5 = .ok (.invokestatic 414, 3) := by decide +kernel
theorem dJ2_checkIndex_2214a_8 : decode cJ2_checkIndex_2214a 8 = .ok (.return_, 1) := by decide +kernel
theorem dJ3_checkIndex_8e157_0 : decode cJ3_checkIndex_8e157 0 = .ok (.iload_n 0, 1) := by decide +kernel
theorem dJ3_checkIndex_8e157_1 : decode cJ3_checkIndex_8e157 1 = .ok (.ifCond .lt 8, 3) := by decide +kernel
theorem dJ3_checkIndex_8e157_4 : decode cJ3_checkIndex_8e157 4 = .ok (.iload_n 0, 1) := by decide +kernel
theorem dJ3_checkIndex_8e157_5 : decode cJ3_checkIndex_8e157 5 = .ok (.iload_n 1, 1) := by decide +kernel
theorem dJ3_checkIndex_8e157_6 : decode cJ3_checkIndex_8e157 6 = .ok (.if_icmp .lt 10, 3) := by decide +kernel
theorem dJ3_checkIndex_8e157_9 : decode cJ3_checkIndex_8e157 9 = .ok (.aload_n 2, 1) := by decide +kernel
theorem dJ3_checkIndex_8e157_10 : decode cJ3_checkIndex_8e157 10 = .ok (.iload_n 0, 1) := by decide +kernel
theorem dJ3_checkIndex_8e157_11 : decode cJ3_checkIndex_8e157 11 = .ok (.iload_n 1, 1) := by decide +kernel
theorem dJ3_checkIndex_8e157_12 : decode cJ3_checkIndex_8e157 12 = .ok (.invokestatic 95, 3) := by decide +kernel
theorem dJ3_checkIndex_8e157_15 : decode cJ3_checkIndex_8e157 15 = .ok (.athrow, 1) := by decide +kernel
theorem dJ3_checkIndex_8e157_16 : decode cJ3_checkIndex_8e157 16 = .ok (.iload_n 0, 1) := by decide +kernel
theorem dJ3_checkIndex_8e157_17 : decode cJ3_checkIndex_8e157 17 = .ok (.ireturn, 1) := by decide +kernel
theorem dX5_init_0 : decode cX5_init 0 = .ok (.aload_n 0, 1) := by decide +kernel
theorem dX5_init_1 : decode cX5_init 1 = .ok (.invokespecial 3, 3) := by decide +kernel
theorem dX5_init_4 : decode cX5_init 4 = .ok (.aload_n 0, 1) := by decide +kernel
theorem dX5_init_5 : decode cX5_init 5 = .ok (.bipush 24, 2) := by decide +kernel
theorem dX5_init_7 : decode cX5_init 7 = .ok (.newarray .int, 2) := by decide +kernel
theorem dX5_init_9 : decode cX5_init 9 = .ok (.putfield 9, 3) := by decide +kernel
theorem dX5_init_12 : decode cX5_init 12 = .ok (.aload_n 0, 1) := by decide +kernel
theorem dX5_init_13 : decode cX5_init 13 = .ok (.bipush 24, 2) := by decide +kernel
theorem dX5_init_15 : decode cX5_init 15 = .ok (.newarray .int, 2) := by decide +kernel
theorem dX5_init_17 : decode cX5_init 17 = .ok (.putfield 15, 3) := by decide +kernel
theorem dX5_init_20 : decode cX5_init 20 = .ok (.aload_n 0, 1) := by decide +kernel
theorem dX5_init_21 : decode cX5_init 21 = .ok (.bipush 24, 2) := by decide +kernel
theorem dX5_init_23 : decode cX5_init 23 = .ok (.newarray .int, 2) := by decide +kernel
theorem dX5_init_25 : decode cX5_init 25 = .ok (.putfield 18, 3) := by decide +kernel
theorem dX5_init_28 : decode cX5_init 28 = .ok (.aload_n 0, 1) := by decide +kernel
theorem dX5_init_29 : decode cX5_init 29 = .ok (.bipush 24, 2) := by decide +kernel
theorem dX5_init_31 : decode cX5_init 31 = .ok (.newarray .int, 2) := by decide +kernel
theorem dX5_init_33 : decode cX5_init 33 = .ok (.putfield 21, 3) := by decide +kernel
theorem dX5_init_36 : decode cX5_init 36 = .ok (.aload_n 0, 1) := by decide +kernel
theorem dX5_init_37 : decode cX5_init 37 = .ok (.bipush 24, 2) := by decide +kernel
theorem dX5_init_39 : decode cX5_init 39 = .ok (.newarray .int, 2) := by decide +kernel
theorem dX5_init_41 : decode cX5_init 41 = .ok (.putfield 24, 3) := by decide +kernel
theorem dX5_init_44 : decode cX5_init 44 = .ok (.aload_n 0, 1) := by decide +kernel
theorem dX5_init_45 : decode cX5_init 45 = .ok (.bipush 24, 2) := by decide +kernel
theorem dX5_init_47 : decode cX5_init 47 = .ok (.newarray .int, 2) := by decide +kernel
theorem dX5_init_49 : decode cX5_init 49 = .ok (.putfield 27, 3) := by decide +kernel
theorem dX5_init_52 : decode cX5_init 52 = .ok (.aload_n 0, 1) := by decide +kernel
theorem dX5_init_53 : decode cX5_init 53 = .ok (.bipush 24, 2) := by decide +kernel
theorem dX5_init_55 : decode cX5_init 55 = .ok (.newarray .int, 2) := by decide +kernel
theorem dX5_init_57 : decode cX5_init 57 = .ok (.putfield 30, 3) := by decide +kernel
theorem dX5_init_60 : decode cX5_init 60 = .ok (.return_, 1) := by decide +kernel
theorem dX5_has_0 : decode cX5_has 0 = .ok (.iload_n 1, 1) := by decide +kernel
theorem dX5_has_1 : decode cX5_has 1 = .ok (.ifCond .lt 15, 3) := by decide +kernel
theorem dX5_has_4 : decode cX5_has 4 = .ok (.iload_n 1, 1) := by decide +kernel
theorem dX5_has_5 : decode cX5_has 5 = .ok (.aload_n 0, 1) := by decide +kernel
theorem dX5_has_6 : decode cX5_has 6 = .ok (.getfield 33, 3) := by decide +kernel
theorem dX5_has_9 : decode cX5_has 9 = .ok (.if_icmp .ge 7, 3) := by decide +kernel
theorem dX5_has_12 : decode cX5_has 12 = .ok (.iconst 1, 1) := by decide +kernel
theorem dX5_has_13 : decode cX5_has 13 = .ok (.goto 4, 3) := by decide +kernel
theorem dX5_has_16 : decode cX5_has 16 = .ok (.iconst 0, 1) := by decide +kernel
theorem dX5_has_17 : decode cX5_has 17 = .ok (.ireturn, 1) := by decide +kernel
theorem dX5_add_0 : decode cX5_add 0 = .ok (.aload_n 0, 1) := by decide +kernel
theorem dX5_add_1 : decode cX5_add 1 = .ok (.getfield 33, 3) := by decide +kernel
theorem dX5_add_4 : decode cX5_add 4 = .ok (.bipush 24, 2) := by decide +kernel
theorem dX5_add_6 : decode cX5_add 6 = .ok (.if_icmp .ge 84, 3) := by decide +kernel
theorem dX5_add_9 : decode cX5_add 9 = .ok (.aload_n 0, 1) := by decide +kernel
theorem dX5_add_10 : decode cX5_add 10 = .ok (.getfield 9, 3) := by decide +kernel
theorem dX5_add_13 : decode cX5_add 13 = .ok (.aload_n 0, 1) := by decide +kernel
theorem dX5_add_14 : decode cX5_add 14 = .ok (.getfield 33, 3) := by decide +kernel
theorem dX5_add_17 : decode cX5_add 17 = .ok (.iload_n 1, 1) := by decide +kernel
theorem dX5_add_18 : decode cX5_add 18 = .ok (.iastore, 1) := by decide +kernel
theorem dX5_add_19 : decode cX5_add 19 = .ok (.aload_n 0, 1) := by decide +kernel
theorem dX5_add_20 : decode cX5_add 20 = .ok (.getfield 15, 3) := by decide +kernel
theorem dX5_add_23 : decode cX5_add 23 = .ok (.aload_n 0, 1) := by decide +kernel
theorem dX5_add_24 : decode cX5_add 24 = .ok (.getfield 33, 3) := by decide +kernel
theorem dX5_add_27 : decode cX5_add 27 = .ok (.iload_n 2, 1) := by decide +kernel
theorem dX5_add_28 : decode cX5_add 28 = .ok (.iastore, 1) := by decide +kernel
theorem dX5_add_29 : decode cX5_add 29 = .ok (.aload_n 0, 1) := by decide +kernel
theorem dX5_add_30 : decode cX5_add 30 = .ok (.getfield 18, 3) := by decide +kernel
theorem dX5_add_33 : decode cX5_add 33 = .ok (.aload_n 0, 1) := by decide +kernel
theorem dX5_add_34 : decode cX5_add 34 = .ok (.getfield 33, 3) := by decide +kernel
theorem dX5_add_37 : decode cX5_add 37 = .ok (.iload_n 3, 1) := by decide +kernel
theorem dX5_add_38 : decode cX5_add 38 = .ok (.iastore, 1) := by decide +kernel
theorem dX5_add_39 : decode cX5_add 39 = .ok (.aload_n 0, 1) := by decide +kernel
theorem dX5_add_40 : decode cX5_add 40 = .ok (.getfield 21, 3) := by decide +kernel
theorem dX5_add_43 : decode cX5_add 43 = .ok (.aload_n 0, 1) := by decide +kernel
theorem dX5_add_44 : decode cX5_add 44 = .ok (.getfield 33, 3) := by decide +kernel
theorem dX5_add_47 : decode cX5_add 47 = .ok (.iload 4, 2) := by decide +kernel
theorem dX5_add_49 : decode cX5_add 49 = .ok (.iastore, 1) := by decide +kernel
theorem dX5_add_50 : decode cX5_add 50 = .ok (.aload_n 0, 1) := by decide +kernel
theorem dX5_add_51 : decode cX5_add 51 = .ok (.getfield 24, 3) := by decide +kernel
theorem dX5_add_54 : decode cX5_add 54 = .ok (.aload_n 0, 1) := by decide +kernel
theorem dX5_add_55 : decode cX5_add 55 = .ok (.getfield 33, 3) := by decide +kernel
theorem dX5_add_58 : decode cX5_add 58 = .ok (.iconst 0, 1) := by decide +kernel
theorem dX5_add_59 : decode cX5_add 59 = .ok (.iastore, 1) := by decide +kernel
theorem dX5_add_60 : decode cX5_add 60 = .ok (.aload_n 0, 1) := by decide +kernel
theorem dX5_add_61 : decode cX5_add 61 = .ok (.getfield 27, 3) := by decide +kernel
theorem dX5_add_64 : decode cX5_add 64 = .ok (.aload_n 0, 1) := by decide +kernel
theorem dX5_add_65 : decode cX5_add 65 = .ok (.getfield 33, 3) := by decide +kernel
theorem dX5_add_68 : decode cX5_add 68 = .ok (.iconst (-1), 1) := by decide +kernel
theorem dX5_add_69 : decode cX5_add 69 = .ok (.iastore, 1) := by decide +kernel
theorem dX5_add_70 : decode cX5_add 70 = .ok (.aload_n 0, 1) := by decide +kernel
theorem dX5_add_71 : decode cX5_add 71 = .ok (.getfield 30, 3) := by decide +kernel
theorem dX5_add_74 : decode cX5_add 74 = .ok (.aload_n 0, 1) := by decide +kernel
theorem dX5_add_75 : decode cX5_add 75 = .ok (.getfield 33, 3) := by decide +kernel
theorem dX5_add_78 : decode cX5_add 78 = .ok (.iconst (-1), 1) := by decide +kernel
theorem dX5_add_79 : decode cX5_add 79 = .ok (.iastore, 1) := by decide +kernel
theorem dX5_add_80 : decode cX5_add 80 = .ok (.aload_n 0, 1) := by decide +kernel
theorem dX5_add_81 : decode cX5_add 81 = .ok (.dup, 1) := by decide +kernel
theorem dX5_add_82 : decode cX5_add 82 = .ok (.getfield 33, 3) := by decide +kernel
theorem dX5_add_85 : decode cX5_add 85 = .ok (.iconst 1, 1) := by decide +kernel
theorem dX5_add_86 : decode cX5_add 86 = .ok (.iadd, 1) := by decide +kernel
theorem dX5_add_87 : decode cX5_add 87 = .ok (.putfield 33, 3) := by decide +kernel
theorem dX5_add_90 : decode cX5_add 90 = .ok (.return_, 1) := by decide +kernel
set_option maxRecDepth 20000 in
theorem ggX5_close_X5_has : GoodIn wsX5_close wsX5_has := goodIn_r _ [8, 9, 10, 11, 12, 13, 14, 15, 16, 17] (by decide +kernel) (by decide +kernel)
set_option maxRecDepth 20000 in
theorem gX5_close_X5_has : GoodIn wsX5_close (wsV RX5 37 RX5 yX5_has wsX5_has) := goodIn_app (goodIn_of _ (by decide +kernel)) ggX5_close_X5_has
theorem dX5_close_0 : decode cX5_close 0 = .ok (.aload_n 0, 1) := by decide +kernel
theorem dX5_close_1 : decode cX5_close 1 = .ok (.iload_n 1, 1) := by decide +kernel
theorem dX5_close_2 : decode cX5_close 2 = .ok (.invokevirtual 37, 3) := by decide +kernel
theorem dX5_close_5 : decode cX5_close 5 = .ok (.ifCond .eq 25, 3) := by decide +kernel
theorem dX5_close_8 : decode cX5_close 8 = .ok (.aload_n 0, 1) := by decide +kernel
theorem dX5_close_9 : decode cX5_close 9 = .ok (.getfield 24, 3) := by decide +kernel
theorem dX5_close_12 : decode cX5_close 12 = .ok (.iload_n 1, 1) := by decide +kernel
theorem dX5_close_13 : decode cX5_close 13 = .ok (.iload_n 2, 1) := by decide +kernel
theorem dX5_close_14 : decode cX5_close 14 = .ok (.iastore, 1) := by decide +kernel
theorem dX5_close_15 : decode cX5_close 15 = .ok (.aload_n 0, 1) := by decide +kernel
theorem dX5_close_16 : decode cX5_close 16 = .ok (.getfield 27, 3) := by decide +kernel
theorem dX5_close_19 : decode cX5_close 19 = .ok (.iload_n 1, 1) := by decide +kernel
theorem dX5_close_20 : decode cX5_close 20 = .ok (.iload_n 3, 1) := by decide +kernel
theorem dX5_close_21 : decode cX5_close 21 = .ok (.iastore, 1) := by decide +kernel
theorem dX5_close_22 : decode cX5_close 22 = .ok (.aload_n 0, 1) := by decide +kernel
theorem dX5_close_23 : decode cX5_close 23 = .ok (.getfield 30, 3) := by decide +kernel
theorem dX5_close_26 : decode cX5_close 26 = .ok (.iload_n 1, 1) := by decide +kernel
theorem dX5_close_27 : decode cX5_close 27 = .ok (.iload 4, 2) := by decide +kernel
theorem dX5_close_29 : decode cX5_close 29 = .ok (.iastore, 1) := by decide +kernel
theorem dX5_close_30 : decode cX5_close 30 = .ok (.return_, 1) := by decide +kernel
theorem dX5_findWaiting_0 : decode cX5_findWaiting 0 = .ok (.iconst 0, 1) := by decide +kernel
theorem dX5_findWaiting_1 : decode cX5_findWaiting 1 = .ok (.istore_n 3, 1) := by decide +kernel
theorem dX5_findWaiting_2 : decode cX5_findWaiting 2 = .ok (.iload_n 3, 1) := by decide +kernel
theorem dX5_findWaiting_3 : decode cX5_findWaiting 3 = .ok (.aload_n 0, 1) := by decide +kernel
theorem dX5_findWaiting_4 : decode cX5_findWaiting 4 = .ok (.getfield 33, 3) := by decide +kernel
theorem dX5_findWaiting_7 : decode cX5_findWaiting 7 = .ok (.if_icmp .ge 40, 3) := by decide +kernel
theorem dX5_findWaiting_10 : decode cX5_findWaiting 10 = .ok (.aload_n 0, 1) := by decide +kernel
theorem dX5_findWaiting_11 : decode cX5_findWaiting 11 = .ok (.getfield 24, 3) := by decide +kernel
theorem dX5_findWaiting_14 : decode cX5_findWaiting 14 = .ok (.iload_n 3, 1) := by decide +kernel
theorem dX5_findWaiting_15 : decode cX5_findWaiting 15 = .ok (.iaload, 1) := by decide +kernel
theorem dX5_findWaiting_16 : decode cX5_findWaiting 16 = .ok (.ifCond .ne 25, 3) := by decide +kernel
theorem dX5_findWaiting_19 : decode cX5_findWaiting 19 = .ok (.aload_n 0, 1) := by decide +kernel
theorem dX5_findWaiting_20 : decode cX5_findWaiting 20 = .ok (.getfield 9, 3) := by decide +kernel
theorem dX5_findWaiting_23 : decode cX5_findWaiting 23 = .ok (.iload_n 3, 1) := by decide +kernel
theorem dX5_findWaiting_24 : decode cX5_findWaiting 24 = .ok (.iaload, 1) := by decide +kernel
theorem dX5_findWaiting_25 : decode cX5_findWaiting 25 = .ok (.iload_n 1, 1) := by decide +kernel
theorem dX5_findWaiting_26 : decode cX5_findWaiting 26 = .ok (.if_icmp .ne 15, 3) := by decide +kernel
theorem dX5_findWaiting_29 : decode cX5_findWaiting 29 = .ok (.aload_n 0, 1) := by decide +kernel
theorem dX5_findWaiting_30 : decode cX5_findWaiting 30 = .ok (.getfield 15, 3) := by decide +kernel
theorem dX5_findWaiting_33 : decode cX5_findWaiting 33 = .ok (.iload_n 3, 1) := by decide +kernel
theorem dX5_findWaiting_34 : decode cX5_findWaiting 34 = .ok (.iaload, 1) := by decide +kernel
theorem dX5_findWaiting_35 : decode cX5_findWaiting 35 = .ok (.iload_n 2, 1) := by decide +kernel
theorem dX5_findWaiting_36 : decode cX5_findWaiting 36 = .ok (.if_icmp .ne 5, 3) := by decide +kernel
theorem dX5_findWaiting_39 : decode cX5_findWaiting 39 = .ok (.iload_n 3, 1) := by decide +kernel
theorem dX5_findWaiting_40 : decode cX5_findWaiting 40 = .ok (.ireturn, 1) := by decide +kernel
theorem dX5_findWaiting_41 : decode cX5_findWaiting 41 = .ok (.iinc 3 1, 3) := by decide +kernel
theorem dX5_findWaiting_44 : decode cX5_findWaiting 44 = .ok (.goto (-42), 3) := by decide +kernel
theorem dX5_findWaiting_47 : decode cX5_findWaiting 47 = .ok (.iconst (-1), 1) := by decide +kernel
theorem dX5_findWaiting_48 : decode cX5_findWaiting 48 = .ok (.ireturn, 1) := by decide +kernel
theorem dX5_firstFiled_0 : decode cX5_firstFiled 0 = .ok (.iconst (-1), 1) := by decide +kernel
theorem dX5_firstFiled_1 : decode cX5_firstFiled 1 = .ok (.istore_n 2, 1) := by decide +kernel
theorem dX5_firstFiled_2 : decode cX5_firstFiled 2 = .ok (.iload_n 1, 1) := by decide +kernel
theorem dX5_firstFiled_3 : decode cX5_firstFiled 3 = .ok (.iconst 1, 1) := by decide +kernel
theorem dX5_firstFiled_4 : decode cX5_firstFiled 4 = .ok (.iadd, 1) := by decide +kernel
theorem dX5_firstFiled_5 : decode cX5_firstFiled 5 = .ok (.istore_n 3, 1) := by decide +kernel
theorem dX5_firstFiled_6 : decode cX5_firstFiled 6 = .ok (.iconst 0, 1) := by decide +kernel
theorem dX5_firstFiled_7 : decode cX5_firstFiled 7 = .ok (.istore 4, 2) := by decide +kernel
theorem dX5_firstFiled_9 : decode cX5_firstFiled 9 = .ok (.iload 4, 2) := by decide +kernel
theorem dX5_firstFiled_11 : decode cX5_firstFiled 11 = .ok (.aload_n 0, 1) := by decide +kernel
theorem dX5_firstFiled_12 : decode cX5_firstFiled 12 = .ok (.getfield 33, 3) := by decide +kernel
theorem dX5_firstFiled_15 : decode cX5_firstFiled 15 = .ok (.if_icmp .ge 41, 3) := by decide +kernel
theorem dX5_firstFiled_18 : decode cX5_firstFiled 18 = .ok (.aload_n 0, 1) := by decide +kernel
theorem dX5_firstFiled_19 : decode cX5_firstFiled 19 = .ok (.getfield 24, 3) := by decide +kernel
theorem dX5_firstFiled_22 : decode cX5_firstFiled 22 = .ok (.iload 4, 2) := by decide +kernel
theorem dX5_firstFiled_24 : decode cX5_firstFiled 24 = .ok (.iaload, 1) := by decide +kernel
theorem dX5_firstFiled_25 : decode cX5_firstFiled 25 = .ok (.ifCond .ne 25, 3) := by decide +kernel
theorem dX5_firstFiled_28 : decode cX5_firstFiled 28 = .ok (.aload_n 0, 1) := by decide +kernel
theorem dX5_firstFiled_29 : decode cX5_firstFiled 29 = .ok (.getfield 21, 3) := by decide +kernel
theorem dX5_firstFiled_32 : decode cX5_firstFiled 32 = .ok (.iload 4, 2) := by decide +kernel
theorem dX5_firstFiled_34 : decode cX5_firstFiled 34 = .ok (.iaload, 1) := by decide +kernel
theorem dX5_firstFiled_35 : decode cX5_firstFiled 35 = .ok (.iload_n 3, 1) := by decide +kernel
theorem dX5_firstFiled_36 : decode cX5_firstFiled 36 = .ok (.if_icmp .ge 14, 3) := by decide +kernel
theorem dX5_firstFiled_39 : decode cX5_firstFiled 39 = .ok (.aload_n 0, 1) := by decide +kernel
theorem dX5_firstFiled_40 : decode cX5_firstFiled 40 = .ok (.getfield 21, 3) := by decide +kernel
theorem dX5_firstFiled_43 : decode cX5_firstFiled 43 = .ok (.iload 4, 2) := by decide +kernel
theorem dX5_firstFiled_45 : decode cX5_firstFiled 45 = .ok (.iaload, 1) := by decide +kernel
theorem dX5_firstFiled_46 : decode cX5_firstFiled 46 = .ok (.istore_n 3, 1) := by decide +kernel
theorem dX5_firstFiled_47 : decode cX5_firstFiled 47 = .ok (.iload 4, 2) := by decide +kernel
theorem dX5_firstFiled_49 : decode cX5_firstFiled 49 = .ok (.istore_n 2, 1) := by decide +kernel
theorem dX5_firstFiled_50 : decode cX5_firstFiled 50 = .ok (.iinc 4 1, 3) := by decide +kernel
theorem dX5_firstFiled_53 : decode cX5_firstFiled 53 = .ok (.goto (-44), 3) := by decide +kernel
theorem dX5_firstFiled_56 : decode cX5_firstFiled 56 = .ok (.iload_n 2, 1) := by decide +kernel
theorem dX5_firstFiled_57 : decode cX5_firstFiled 57 = .ok (.ireturn, 1) := by decide +kernel
set_option maxRecDepth 20000 in
theorem ggX5_oldestToDismiss_X5_firstFiled : GoodIn wsX5_oldestToDismiss wsX5_firstFiled := goodIn_r _ [5, 6, 7, 8, 9, 10, 11, 12, 13, 14, 15, 16] (by decide +kernel) (by decide +kernel)
set_option maxRecDepth 20000 in
theorem gX5_oldestToDismiss_X5_firstFiled : GoodIn wsX5_oldestToDismiss (wsV RX5 41 RX5 yX5_firstFiled wsX5_firstFiled) := goodIn_app (goodIn_of _ (by decide +kernel)) ggX5_oldestToDismiss_X5_firstFiled
theorem dX5_oldestToDismiss_0 : decode cX5_oldestToDismiss 0 = .ok (.aload_n 0, 1) := by decide +kernel
theorem dX5_oldestToDismiss_1 : decode cX5_oldestToDismiss 1 = .ok (.iload_n 1, 1) := by decide +kernel
theorem dX5_oldestToDismiss_2 : decode cX5_oldestToDismiss 2 = .ok (.bipush 14, 2) := by decide +kernel
theorem dX5_oldestToDismiss_4 : decode cX5_oldestToDismiss 4 = .ok (.isub, 1) := by decide +kernel
theorem dX5_oldestToDismiss_5 : decode cX5_oldestToDismiss 5 = .ok (.invokevirtual 41, 3) := by decide +kernel
theorem dX5_oldestToDismiss_8 : decode cX5_oldestToDismiss 8 = .ok (.ireturn, 1) := by decide +kernel
theorem dX5_withMostAnger_0 : decode cX5_withMostAnger 0 = .ok (.iconst (-1), 1) := by decide +kernel
theorem dX5_withMostAnger_1 : decode cX5_withMostAnger 1 = .ok (.istore_n 2, 1) := by decide +kernel
theorem dX5_withMostAnger_2 : decode cX5_withMostAnger 2 = .ok (.iconst 0, 1) := by decide +kernel
theorem dX5_withMostAnger_3 : decode cX5_withMostAnger 3 = .ok (.istore_n 3, 1) := by decide +kernel
theorem dX5_withMostAnger_4 : decode cX5_withMostAnger 4 = .ok (.iconst 0, 1) := by decide +kernel
theorem dX5_withMostAnger_5 : decode cX5_withMostAnger 5 = .ok (.istore 4, 2) := by decide +kernel
theorem dX5_withMostAnger_7 : decode cX5_withMostAnger 7 = .ok (.iload 4, 2) := by decide +kernel
theorem dX5_withMostAnger_9 : decode cX5_withMostAnger 9 = .ok (.aload_n 0, 1) := by decide +kernel
theorem dX5_withMostAnger_10 : decode cX5_withMostAnger 10 = .ok (.getfield 33, 3) := by decide +kernel
theorem dX5_withMostAnger_13 : decode cX5_withMostAnger 13 = .ok (.if_icmp .ge 68, 3) := by decide +kernel
theorem dX5_withMostAnger_16 : decode cX5_withMostAnger 16 = .ok (.aload_n 0, 1) := by decide +kernel
theorem dX5_withMostAnger_17 : decode cX5_withMostAnger 17 = .ok (.getfield 24, 3) := by decide +kernel
theorem dX5_withMostAnger_20 : decode cX5_withMostAnger 20 = .ok (.iload 4, 2) := by decide +kernel
theorem dX5_withMostAnger_22 : decode cX5_withMostAnger 22 = .ok (.iaload, 1) := by decide +kernel
theorem dX5_withMostAnger_23 : decode cX5_withMostAnger 23 = .ok (.ifCond .ne 22, 3) := by decide +kernel
theorem dX5_withMostAnger_26 : decode cX5_withMostAnger 26 = .ok (.iload_n 1, 1) := by decide +kernel
theorem dX5_withMostAnger_27 : decode cX5_withMostAnger 27 = .ok (.aload_n 0, 1) := by decide +kernel
theorem dX5_withMostAnger_28 : decode cX5_withMostAnger 28 = .ok (.getfield 15, 3) := by decide +kernel
theorem dX5_withMostAnger_31 : decode cX5_withMostAnger 31 = .ok (.iload 4, 2) := by decide +kernel
theorem dX5_withMostAnger_33 : decode cX5_withMostAnger 33 = .ok (.iaload, 1) := by decide +kernel
theorem dX5_withMostAnger_34 : decode cX5_withMostAnger 34 = .ok (.ishr, 1) := by decide +kernel
theorem dX5_withMostAnger_35 : decode cX5_withMostAnger 35 = .ok (.iconst 1, 1) := by decide +kernel
theorem dX5_withMostAnger_36 : decode cX5_withMostAnger 36 = .ok (.iand, 1) := by decide +kernel
theorem dX5_withMostAnger_37 : decode cX5_withMostAnger 37 = .ok (.iconst 1, 1) := by decide +kernel
theorem dX5_withMostAnger_38 : decode cX5_withMostAnger 38 = .ok (.if_icmp .ne 7, 3) := by decide +kernel
theorem dX5_withMostAnger_41 : decode cX5_withMostAnger 41 = .ok (.iconst 1, 1) := by decide +kernel
theorem dX5_withMostAnger_42 : decode cX5_withMostAnger 42 = .ok (.goto 4, 3) := by decide +kernel
theorem dX5_withMostAnger_45 : decode cX5_withMostAnger 45 = .ok (.iconst 0, 1) := by decide +kernel
theorem dX5_withMostAnger_46 : decode cX5_withMostAnger 46 = .ok (.istore 5, 2) := by decide +kernel
theorem dX5_withMostAnger_48 : decode cX5_withMostAnger 48 = .ok (.iload 5, 2) := by decide +kernel
theorem dX5_withMostAnger_50 : decode cX5_withMostAnger 50 = .ok (.ifCond .eq 25, 3) := by decide +kernel
theorem dX5_withMostAnger_53 : decode cX5_withMostAnger 53 = .ok (.aload_n 0, 1) := by decide +kernel
theorem dX5_withMostAnger_54 : decode cX5_withMostAnger 54 = .ok (.getfield 18, 3) := by decide +kernel
theorem dX5_withMostAnger_57 : decode cX5_withMostAnger 57 = .ok (.iload 4, 2) := by decide +kernel
theorem dX5_withMostAnger_59 : decode cX5_withMostAnger 59 = .ok (.iaload, 1) := by decide +kernel
theorem dX5_withMostAnger_60 : decode cX5_withMostAnger 60 = .ok (.iload_n 3, 1) := by decide +kernel
theorem dX5_withMostAnger_61 : decode cX5_withMostAnger 61 = .ok (.if_icmp .le 14, 3) := by decide +kernel
theorem dX5_withMostAnger_64 : decode cX5_withMostAnger 64 = .ok (.aload_n 0, 1) := by decide +kernel
theorem dX5_withMostAnger_65 : decode cX5_withMostAnger 65 = .ok (.getfield 18, 3) := by decide +kernel
theorem dX5_withMostAnger_68 : decode cX5_withMostAnger 68 = .ok (.iload 4, 2) := by decide +kernel
theorem dX5_withMostAnger_70 : decode cX5_withMostAnger 70 = .ok (.iaload, 1) := by decide +kernel
theorem dX5_withMostAnger_71 : decode cX5_withMostAnger 71 = .ok (.istore_n 3, 1) := by decide +kernel
theorem dX5_withMostAnger_72 : decode cX5_withMostAnger 72 = .ok (.iload 4, 2) := by decide +kernel
theorem dX5_withMostAnger_74 : decode cX5_withMostAnger 74 = .ok (.istore_n 2, 1) := by decide +kernel
theorem dX5_withMostAnger_75 : decode cX5_withMostAnger 75 = .ok (.iinc 4 1, 3) := by decide +kernel
theorem dX5_withMostAnger_78 : decode cX5_withMostAnger 78 = .ok (.goto (-71), 3) := by decide +kernel
theorem dX5_withMostAnger_81 : decode cX5_withMostAnger 81 = .ok (.iload_n 2, 1) := by decide +kernel
theorem dX5_withMostAnger_82 : decode cX5_withMostAnger 82 = .ok (.ireturn, 1) := by decide +kernel
set_option maxRecDepth 20000 in
theorem ggX5_growOlder_X5_close : GoodIn wsX5_growOlder wsX5_close := goodIn_r _ [13, 2, 14, 15, 16, 17, 18, 12, 19, 1, 20, 21, 22, 23, 24, 25, 26, 27] (by decide +kernel) (by decide +kernel)
set_option maxRecDepth 20000 in
theorem gX5_growOlder_X5_close : GoodIn wsX5_growOlder (wsV RX5 51 RX5 yX5_close wsX5_close) := goodIn_app (goodIn_of _ (by decide +kernel)) ggX5_growOlder_X5_close
theorem dX5_growOlder_0 : decode cX5_growOlder 0 = .ok (.iconst 0, 1) := by decide +kernel
theorem dX5_growOlder_1 : decode cX5_growOlder 1 = .ok (.istore_n 2, 1) := by decide +kernel
theorem dX5_growOlder_2 : decode cX5_growOlder 2 = .ok (.iload_n 2, 1) := by decide +kernel
theorem dX5_growOlder_3 : decode cX5_growOlder 3 = .ok (.aload_n 0, 1) := by decide +kernel
theorem dX5_growOlder_4 : decode cX5_growOlder 4 = .ok (.getfield 33, 3) := by decide +kernel
theorem dX5_growOlder_7 : decode cX5_growOlder 7 = .ok (.if_icmp .ge 67, 3) := by decide +kernel
theorem dX5_growOlder_10 : decode cX5_growOlder 10 = .ok (.aload_n 0, 1) := by decide +kernel
theorem dX5_growOlder_11 : decode cX5_growOlder 11 = .ok (.getfield 24, 3) := by decide +kernel
theorem dX5_growOlder_14 : decode cX5_growOlder 14 = .ok (.iload_n 2, 1) := by decide +kernel
theorem dX5_growOlder_15 : decode cX5_growOlder 15 = .ok (.iaload, 1) := by decide +kernel
theorem dX5_growOlder_16 : decode cX5_growOlder 16 = .ok (.ifCond .ne 52, 3) := by decide +kernel
theorem dX5_growOlder_19 : decode cX5_growOlder 19 = .ok (.iload_n 1, 1) := by decide +kernel
theorem dX5_growOlder_20 : decode cX5_growOlder 20 = .ok (.aload_n 0, 1) := by decide +kernel
theorem dX5_growOlder_21 : decode cX5_growOlder 21 = .ok (.getfield 21, 3) := by decide +kernel
theorem dX5_growOlder_24 : decode cX5_growOlder 24 = .ok (.iload_n 2, 1) := by decide +kernel
theorem dX5_growOlder_25 : decode cX5_growOlder 25 = .ok (.iaload, 1) := by decide +kernel
theorem dX5_growOlder_26 : decode cX5_growOlder 26 = .ok (.isub, 1) := by decide +kernel
theorem dX5_growOlder_27 : decode cX5_growOlder 27 = .ok (.istore_n 3, 1) := by decide +kernel
theorem dX5_growOlder_28 : decode cX5_growOlder 28 = .ok (.iload_n 3, 1) := by decide +kernel
theorem dX5_growOlder_29 : decode cX5_growOlder 29 = .ok (.bipush 7, 2) := by decide +kernel
theorem dX5_growOlder_31 : decode cX5_growOlder 31 = .ok (.irem, 1) := by decide +kernel
theorem dX5_growOlder_32 : decode cX5_growOlder 32 = .ok (.ifCond .ne 22, 3) := by decide +kernel
theorem dX5_growOlder_35 : decode cX5_growOlder 35 = .ok (.aload_n 0, 1) := by decide +kernel
theorem dX5_growOlder_36 : decode cX5_growOlder 36 = .ok (.getfield 18, 3) := by decide +kernel
theorem dX5_growOlder_39 : decode cX5_growOlder 39 = .ok (.iload_n 2, 1) := by decide +kernel
theorem dX5_growOlder_40 : decode cX5_growOlder 40 = .ok (.bipush 9, 2) := by decide +kernel
theorem dX5_growOlder_42 : decode cX5_growOlder 42 = .ok (.aload_n 0, 1) := by decide +kernel
theorem dX5_growOlder_43 : decode cX5_growOlder 43 = .ok (.getfield 18, 3) := by decide +kernel
theorem dX5_growOlder_46 : decode cX5_growOlder 46 = .ok (.iload_n 2, 1) := by decide +kernel
theorem dX5_growOlder_47 : decode cX5_growOlder 47 = .ok (.iaload, 1) := by decide +kernel
theorem dX5_growOlder_48 : decode cX5_growOlder 48 = .ok (.iconst 1, 1) := by decide +kernel
theorem dX5_growOlder_49 : decode cX5_growOlder 49 = .ok (.iadd, 1) := by decide +kernel
theorem dX5_growOlder_50 : decode cX5_growOlder 50 = .ok (.invokestatic 45, 3) := by decide +kernel
theorem dX5_growOlder_53 : decode cX5_growOlder 53 = .ok (.iastore, 1) := by decide +kernel
theorem dX5_growOlder_54 : decode cX5_growOlder 54 = .ok (.iload_n 3, 1) := by decide +kernel
theorem dX5_growOlder_55 : decode cX5_growOlder 55 = .ok (.bipush 56, 2) := by decide +kernel
theorem dX5_growOlder_57 : decode cX5_growOlder 57 = .ok (.if_icmp .ne 11, 3) := by decide +kernel
theorem dX5_growOlder_60 : decode cX5_growOlder 60 = .ok (.aload_n 0, 1) := by decide +kernel
theorem dX5_growOlder_61 : decode cX5_growOlder 61 = .ok (.iload_n 2, 1) := by decide +kernel
theorem dX5_growOlder_62 : decode cX5_growOlder 62 = .ok (.iconst 3, 1) := by decide +kernel
theorem dX5_growOlder_63 : decode cX5_growOlder 63 = .ok (.iload_n 1, 1) := by decide +kernel
theorem dX5_growOlder_64 : decode cX5_growOlder 64 = .ok (.iconst (-1), 1) := by decide +kernel
theorem dX5_growOlder_65 : decode cX5_growOlder 65 = .ok (.invokevirtual 51, 3) := by decide +kernel
theorem dX5_growOlder_68 : decode cX5_growOlder 68 = .ok (.iinc 2 1, 3) := by decide +kernel
theorem dX5_growOlder_71 : decode cX5_growOlder 71 = .ok (.goto (-69), 3) := by decide +kernel
theorem dX5_growOlder_74 : decode cX5_growOlder 74 = .ok (.return_, 1) := by decide +kernel
theorem dX5_countInState_0 : decode cX5_countInState 0 = .ok (.iconst 0, 1) := by decide +kernel
theorem dX5_countInState_1 : decode cX5_countInState 1 = .ok (.istore_n 2, 1) := by decide +kernel
theorem dX5_countInState_2 : decode cX5_countInState 2 = .ok (.iconst 0, 1) := by decide +kernel
theorem dX5_countInState_3 : decode cX5_countInState 3 = .ok (.istore_n 3, 1) := by decide +kernel
theorem dX5_countInState_4 : decode cX5_countInState 4 = .ok (.iload_n 3, 1) := by decide +kernel
theorem dX5_countInState_5 : decode cX5_countInState 5 = .ok (.aload_n 0, 1) := by decide +kernel
theorem dX5_countInState_6 : decode cX5_countInState 6 = .ok (.getfield 33, 3) := by decide +kernel
theorem dX5_countInState_9 : decode cX5_countInState 9 = .ok (.if_icmp .ge 22, 3) := by decide +kernel
theorem dX5_countInState_12 : decode cX5_countInState 12 = .ok (.aload_n 0, 1) := by decide +kernel
theorem dX5_countInState_13 : decode cX5_countInState 13 = .ok (.getfield 24, 3) := by decide +kernel
theorem dX5_countInState_16 : decode cX5_countInState 16 = .ok (.iload_n 3, 1) := by decide +kernel
theorem dX5_countInState_17 : decode cX5_countInState 17 = .ok (.iaload, 1) := by decide +kernel
theorem dX5_countInState_18 : decode cX5_countInState 18 = .ok (.iload_n 1, 1) := by decide +kernel
theorem dX5_countInState_19 : decode cX5_countInState 19 = .ok (.if_icmp .ne 6, 3) := by decide +kernel
theorem dX5_countInState_22 : decode cX5_countInState 22 = .ok (.iinc 2 1, 3) := by decide +kernel
theorem dX5_countInState_25 : decode cX5_countInState 25 = .ok (.iinc 3 1, 3) := by decide +kernel
theorem dX5_countInState_28 : decode cX5_countInState 28 = .ok (.goto (-24), 3) := by decide +kernel
theorem dX5_countInState_31 : decode cX5_countInState 31 = .ok (.iload_n 2, 1) := by decide +kernel
theorem dX5_countInState_32 : decode cX5_countInState 32 = .ok (.ireturn, 1) := by decide +kernel
theorem dX5_countOfPerson_0 : decode cX5_countOfPerson 0 = .ok (.iconst 0, 1) := by decide +kernel
theorem dX5_countOfPerson_1 : decode cX5_countOfPerson 1 = .ok (.istore_n 2, 1) := by decide +kernel
theorem dX5_countOfPerson_2 : decode cX5_countOfPerson 2 = .ok (.iconst 0, 1) := by decide +kernel
theorem dX5_countOfPerson_3 : decode cX5_countOfPerson 3 = .ok (.istore_n 3, 1) := by decide +kernel
theorem dX5_countOfPerson_4 : decode cX5_countOfPerson 4 = .ok (.iload_n 3, 1) := by decide +kernel
theorem dX5_countOfPerson_5 : decode cX5_countOfPerson 5 = .ok (.aload_n 0, 1) := by decide +kernel
theorem dX5_countOfPerson_6 : decode cX5_countOfPerson 6 = .ok (.getfield 33, 3) := by decide +kernel
theorem dX5_countOfPerson_9 : decode cX5_countOfPerson 9 = .ok (.if_icmp .ge 22, 3) := by decide +kernel
theorem dX5_countOfPerson_12 : decode cX5_countOfPerson 12 = .ok (.aload_n 0, 1) := by decide +kernel
theorem dX5_countOfPerson_13 : decode cX5_countOfPerson 13 = .ok (.getfield 9, 3) := by decide +kernel
theorem dX5_countOfPerson_16 : decode cX5_countOfPerson 16 = .ok (.iload_n 3, 1) := by decide +kernel
theorem dX5_countOfPerson_17 : decode cX5_countOfPerson 17 = .ok (.iaload, 1) := by decide +kernel
theorem dX5_countOfPerson_18 : decode cX5_countOfPerson 18 = .ok (.iload_n 1, 1) := by decide +kernel
theorem dX5_countOfPerson_19 : decode cX5_countOfPerson 19 = .ok (.if_icmp .ne 6, 3) := by decide +kernel
theorem dX5_countOfPerson_22 : decode cX5_countOfPerson 22 = .ok (.iinc 2 1, 3) := by decide +kernel
theorem dX5_countOfPerson_25 : decode cX5_countOfPerson 25 = .ok (.iinc 3 1, 3) := by decide +kernel
theorem dX5_countOfPerson_28 : decode cX5_countOfPerson 28 = .ok (.goto (-24), 3) := by decide +kernel
theorem dX5_countOfPerson_31 : decode cX5_countOfPerson 31 = .ok (.iload_n 2, 1) := by decide +kernel
theorem dX5_countOfPerson_32 : decode cX5_countOfPerson 32 = .ok (.ireturn, 1) := by decide +kernel
theorem dX5_countAnsweredBy_0 : decode cX5_countAnsweredBy 0 = .ok (.iconst 0, 1) := by decide +kernel
theorem dX5_countAnsweredBy_1 : decode cX5_countAnsweredBy 1 = .ok (.istore_n 2, 1) := by decide +kernel
theorem dX5_countAnsweredBy_2 : decode cX5_countAnsweredBy 2 = .ok (.iconst 0, 1) := by decide +kernel
theorem dX5_countAnsweredBy_3 : decode cX5_countAnsweredBy 3 = .ok (.istore_n 3, 1) := by decide +kernel
theorem dX5_countAnsweredBy_4 : decode cX5_countAnsweredBy 4 = .ok (.iload_n 3, 1) := by decide +kernel
theorem dX5_countAnsweredBy_5 : decode cX5_countAnsweredBy 5 = .ok (.aload_n 0, 1) := by decide +kernel
theorem dX5_countAnsweredBy_6 : decode cX5_countAnsweredBy 6 = .ok (.getfield 33, 3) := by decide +kernel
theorem dX5_countAnsweredBy_9 : decode cX5_countAnsweredBy 9 = .ok (.if_icmp .ge 32, 3) := by decide +kernel
theorem dX5_countAnsweredBy_12 : decode cX5_countAnsweredBy 12 = .ok (.aload_n 0, 1) := by decide +kernel
theorem dX5_countAnsweredBy_13 : decode cX5_countAnsweredBy 13 = .ok (.getfield 24, 3) := by decide +kernel
theorem dX5_countAnsweredBy_16 : decode cX5_countAnsweredBy 16 = .ok (.iload_n 3, 1) := by decide +kernel
theorem dX5_countAnsweredBy_17 : decode cX5_countAnsweredBy 17 = .ok (.iaload, 1) := by decide +kernel
theorem dX5_countAnsweredBy_18 : decode cX5_countAnsweredBy 18 = .ok (.iconst 1, 1) := by decide +kernel
theorem dX5_countAnsweredBy_19 : decode cX5_countAnsweredBy 19 = .ok (.if_icmp .ne 16, 3) := by decide +kernel
theorem dX5_countAnsweredBy_22 : decode cX5_countAnsweredBy 22 = .ok (.aload_n 0, 1) := by decide +kernel
theorem dX5_countAnsweredBy_23 : decode cX5_countAnsweredBy 23 = .ok (.getfield 30, 3) := by decide +kernel
theorem dX5_countAnsweredBy_26 : decode cX5_countAnsweredBy 26 = .ok (.iload_n 3, 1) := by decide +kernel
theorem dX5_countAnsweredBy_27 : decode cX5_countAnsweredBy 27 = .ok (.iaload, 1) := by decide +kernel
theorem dX5_countAnsweredBy_28 : decode cX5_countAnsweredBy 28 = .ok (.iload_n 1, 1) := by decide +kernel
theorem dX5_countAnsweredBy_29 : decode cX5_countAnsweredBy 29 = .ok (.if_icmp .ne 6, 3) := by decide +kernel
theorem dX5_countAnsweredBy_32 : decode cX5_countAnsweredBy 32 = .ok (.iinc 2 1, 3) := by decide +kernel
theorem dX5_countAnsweredBy_35 : decode cX5_countAnsweredBy 35 = .ok (.iinc 3 1, 3) := by decide +kernel
theorem dX5_countAnsweredBy_38 : decode cX5_countAnsweredBy 38 = .ok (.goto (-34), 3) := by decide +kernel
theorem dX5_countAnsweredBy_41 : decode cX5_countAnsweredBy 41 = .ok (.iload_n 2, 1) := by decide +kernel
theorem dX5_countAnsweredBy_42 : decode cX5_countAnsweredBy 42 = .ok (.ireturn, 1) := by decide +kernel
theorem dX5_sumAnsweredAnger_0 : decode cX5_sumAnsweredAnger 0 = .ok (.iconst 0, 1) := by decide +kernel
theorem dX5_sumAnsweredAnger_1 : decode cX5_sumAnsweredAnger 1 = .ok (.istore_n 1, 1) := by decide +kernel
theorem dX5_sumAnsweredAnger_2 : decode cX5_sumAnsweredAnger 2 = .ok (.iconst 0, 1) := by decide +kernel
theorem dX5_sumAnsweredAnger_3 : decode cX5_sumAnsweredAnger 3 = .ok (.istore_n 2, 1) := by decide +kernel
theorem dX5_sumAnsweredAnger_4 : decode cX5_sumAnsweredAnger 4 = .ok (.iload_n 2, 1) := by decide +kernel
theorem dX5_sumAnsweredAnger_5 : decode cX5_sumAnsweredAnger 5 = .ok (.aload_n 0, 1) := by decide +kernel
theorem dX5_sumAnsweredAnger_6 : decode cX5_sumAnsweredAnger 6 = .ok (.getfield 33, 3) := by decide +kernel
theorem dX5_sumAnsweredAnger_9 : decode cX5_sumAnsweredAnger 9 = .ok (.if_icmp .ge 28, 3) := by decide +kernel
theorem dX5_sumAnsweredAnger_12 : decode cX5_sumAnsweredAnger 12 = .ok (.aload_n 0, 1) := by decide +kernel
theorem dX5_sumAnsweredAnger_13 : decode cX5_sumAnsweredAnger 13 = .ok (.getfield 24, 3) := by decide +kernel
theorem dX5_sumAnsweredAnger_16 : decode cX5_sumAnsweredAnger 16 = .ok (.iload_n 2, 1) := by decide +kernel
theorem dX5_sumAnsweredAnger_17 : decode cX5_sumAnsweredAnger 17 = .ok (.iaload, 1) := by decide +kernel
theorem dX5_sumAnsweredAnger_18 : decode cX5_sumAnsweredAnger 18 = .ok (.iconst 1, 1) := by decide +kernel
theorem dX5_sumAnsweredAnger_19 : decode cX5_sumAnsweredAnger 19 = .ok (.if_icmp .ne 12, 3) := by decide +kernel
theorem dX5_sumAnsweredAnger_22 : decode cX5_sumAnsweredAnger 22 = .ok (.iload_n 1, 1) := by decide +kernel
theorem dX5_sumAnsweredAnger_23 : decode cX5_sumAnsweredAnger 23 = .ok (.aload_n 0, 1) := by decide +kernel
theorem dX5_sumAnsweredAnger_24 : decode cX5_sumAnsweredAnger 24 = .ok (.getfield 18, 3) := by decide +kernel
theorem dX5_sumAnsweredAnger_27 : decode cX5_sumAnsweredAnger 27 = .ok (.iload_n 2, 1) := by decide +kernel
theorem dX5_sumAnsweredAnger_28 : decode cX5_sumAnsweredAnger 28 = .ok (.iaload, 1) := by decide +kernel
theorem dX5_sumAnsweredAnger_29 : decode cX5_sumAnsweredAnger 29 = .ok (.iadd, 1) := by decide +kernel
theorem dX5_sumAnsweredAnger_30 : decode cX5_sumAnsweredAnger 30 = .ok (.istore_n 1, 1) := by decide +kernel
theorem dX5_sumAnsweredAnger_31 : decode cX5_sumAnsweredAnger 31 = .ok (.iinc 2 1, 3) := by decide +kernel
theorem dX5_sumAnsweredAnger_34 : decode cX5_sumAnsweredAnger 34 = .ok (.goto (-30), 3) := by decide +kernel
theorem dX5_sumAnsweredAnger_37 : decode cX5_sumAnsweredAnger 37 = .ok (.iload_n 1, 1) := by decide +kernel
theorem dX5_sumAnsweredAnger_38 : decode cX5_sumAnsweredAnger 38 = .ok (.ireturn, 1) := by decide +kernel
theorem dX5_sumAnsweredWait_0 : decode cX5_sumAnsweredWait 0 = .ok (.iconst 0, 1) := by decide +kernel
theorem dX5_sumAnsweredWait_1 : decode cX5_sumAnsweredWait 1 = .ok (.istore_n 1, 1) := by decide +kernel
theorem dX5_sumAnsweredWait_2 : decode cX5_sumAnsweredWait 2 = .ok (.iconst 0, 1) := by decide +kernel
theorem dX5_sumAnsweredWait_3 : decode cX5_sumAnsweredWait 3 = .ok (.istore_n 2, 1) := by decide +kernel
theorem dX5_sumAnsweredWait_4 : decode cX5_sumAnsweredWait 4 = .ok (.iload_n 2, 1) := by decide +kernel
theorem dX5_sumAnsweredWait_5 : decode cX5_sumAnsweredWait 5 = .ok (.aload_n 0, 1) := by decide +kernel
theorem dX5_sumAnsweredWait_6 : decode cX5_sumAnsweredWait 6 = .ok (.getfield 33, 3) := by decide +kernel
theorem dX5_sumAnsweredWait_9 : decode cX5_sumAnsweredWait 9 = .ok (.if_icmp .ge 35, 3) := by decide +kernel
theorem dX5_sumAnsweredWait_12 : decode cX5_sumAnsweredWait 12 = .ok (.aload_n 0, 1) := by decide +kernel
theorem dX5_sumAnsweredWait_13 : decode cX5_sumAnsweredWait 13 = .ok (.getfield 24, 3) := by decide +kernel
theorem dX5_sumAnsweredWait_16 : decode cX5_sumAnsweredWait 16 = .ok (.iload_n 2, 1) := by decide +kernel
theorem dX5_sumAnsweredWait_17 : decode cX5_sumAnsweredWait 17 = .ok (.iaload, 1) := by decide +kernel
theorem dX5_sumAnsweredWait_18 : decode cX5_sumAnsweredWait 18 = .ok (.iconst 1, 1) := by decide +kernel
theorem dX5_sumAnsweredWait_19 : decode cX5_sumAnsweredWait 19 = .ok (.if_icmp .ne 19, 3) := by decide +kernel
theorem dX5_sumAnsweredWait_22 : decode cX5_sumAnsweredWait 22 = .ok (.iload_n 1, 1) := by decide +kernel
theorem dX5_sumAnsweredWait_23 : decode cX5_sumAnsweredWait 23 = .ok (.aload_n 0, 1) := by decide +kernel
theorem dX5_sumAnsweredWait_24 : decode cX5_sumAnsweredWait 24 = .ok (.getfield 27, 3) := by decide +kernel
theorem dX5_sumAnsweredWait_27 : decode cX5_sumAnsweredWait 27 = .ok (.iload_n 2, 1) := by decide +kernel
theorem dX5_sumAnsweredWait_28 : decode cX5_sumAnsweredWait 28 = .ok (.iaload, 1) := by decide +kernel
theorem dX5_sumAnsweredWait_29 : decode cX5_sumAnsweredWait 29 = .ok (.aload_n 0, 1) := by decide +kernel
theorem dX5_sumAnsweredWait_30 : decode cX5_sumAnsweredWait 30 = .ok (.getfield 21, 3) := by decide +kernel
theorem dX5_sumAnsweredWait_33 : decode cX5_sumAnsweredWait 33 = .ok (.iload_n 2, 1) := by decide +kernel
theorem dX5_sumAnsweredWait_34 : decode cX5_sumAnsweredWait 34 = .ok (.iaload, 1) := by decide +kernel
theorem dX5_sumAnsweredWait_35 : decode cX5_sumAnsweredWait 35 = .ok (.isub, 1) := by decide +kernel
theorem dX5_sumAnsweredWait_36 : decode cX5_sumAnsweredWait 36 = .ok (.iadd, 1) := by decide +kernel
theorem dX5_sumAnsweredWait_37 : decode cX5_sumAnsweredWait 37 = .ok (.istore_n 1, 1) := by decide +kernel
theorem dX5_sumAnsweredWait_38 : decode cX5_sumAnsweredWait 38 = .ok (.iinc 2 1, 3) := by decide +kernel
theorem dX5_sumAnsweredWait_41 : decode cX5_sumAnsweredWait 41 = .ok (.goto (-37), 3) := by decide +kernel
theorem dX5_sumAnsweredWait_44 : decode cX5_sumAnsweredWait 44 = .ok (.iload_n 1, 1) := by decide +kernel
theorem dX5_sumAnsweredWait_45 : decode cX5_sumAnsweredWait 45 = .ok (.ireturn, 1) := by decide +kernel
theorem dX5_copyFrom_0 : decode cX5_copyFrom 0 = .ok (.aload_n 0, 1) := by decide +kernel
theorem dX5_copyFrom_1 : decode cX5_copyFrom 1 = .ok (.aload_n 1, 1) := by decide +kernel
theorem dX5_copyFrom_2 : decode cX5_copyFrom 2 = .ok (.getfield 33, 3) := by decide +kernel
theorem dX5_copyFrom_5 : decode cX5_copyFrom 5 = .ok (.putfield 33, 3) := by decide +kernel
theorem dX5_copyFrom_8 : decode cX5_copyFrom 8 = .ok (.aload_n 1, 1) := by decide +kernel
theorem dX5_copyFrom_9 : decode cX5_copyFrom 9 = .ok (.getfield 9, 3) := by decide +kernel
theorem dX5_copyFrom_12 : decode cX5_copyFrom 12 = .ok (.iconst 0, 1) := by decide +kernel
theorem dX5_copyFrom_13 : decode cX5_copyFrom 13 = .ok (.aload_n 0, 1) := by decide +kernel
theorem dX5_copyFrom_14 : decode cX5_copyFrom 14 = .ok (.getfield 9, 3) := by decide +kernel
theorem dX5_copyFrom_17 : decode cX5_copyFrom 17 = .ok (.iconst 0, 1) := by decide +kernel
theorem dX5_copyFrom_18 : decode cX5_copyFrom 18 = .ok (.bipush 24, 2) := by decide +kernel
theorem dX5_copyFrom_20 : decode cX5_copyFrom 20 = .ok (.invokestatic 55, 3) := by decide +kernel
theorem dX5_copyFrom_23 : decode cX5_copyFrom 23 = .ok (.aload_n 1, 1) := by decide +kernel
theorem dX5_copyFrom_24 : decode cX5_copyFrom 24 = .ok (.getfield 15, 3) := by decide +kernel
theorem dX5_copyFrom_27 : decode cX5_copyFrom 27 = .ok (.iconst 0, 1) := by decide +kernel
theorem dX5_copyFrom_28 : decode cX5_copyFrom 28 = .ok (.aload_n 0, 1) := by decide +kernel
theorem dX5_copyFrom_29 : decode cX5_copyFrom 29 = .ok (.getfield 15, 3) := by decide +kernel
theorem dX5_copyFrom_32 : decode cX5_copyFrom 32 = .ok (.iconst 0, 1) := by decide +kernel
theorem dX5_copyFrom_33 : decode cX5_copyFrom 33 = .ok (.bipush 24, 2) := by decide +kernel
theorem dX5_copyFrom_35 : decode cX5_copyFrom 35 = .ok (.invokestatic 55, 3) := by decide +kernel
theorem dX5_copyFrom_38 : decode cX5_copyFrom 38 = .ok (.aload_n 1, 1) := by decide +kernel
theorem dX5_copyFrom_39 : decode cX5_copyFrom 39 = .ok (.getfield 18, 3) := by decide +kernel
theorem dX5_copyFrom_42 : decode cX5_copyFrom 42 = .ok (.iconst 0, 1) := by decide +kernel
theorem dX5_copyFrom_43 : decode cX5_copyFrom 43 = .ok (.aload_n 0, 1) := by decide +kernel
theorem dX5_copyFrom_44 : decode cX5_copyFrom 44 = .ok (.getfield 18, 3) := by decide +kernel
theorem dX5_copyFrom_47 : decode cX5_copyFrom 47 = .ok (.iconst 0, 1) := by decide +kernel
theorem dX5_copyFrom_48 : decode cX5_copyFrom 48 = .ok (.bipush 24, 2) := by decide +kernel
theorem dX5_copyFrom_50 : decode cX5_copyFrom 50 = .ok (.invokestatic 55, 3) := by decide +kernel
theorem dX5_copyFrom_53 : decode cX5_copyFrom 53 = .ok (.aload_n 1, 1) := by decide +kernel
theorem dX5_copyFrom_54 : decode cX5_copyFrom 54 = .ok (.getfield 21, 3) := by decide +kernel
theorem dX5_copyFrom_57 : decode cX5_copyFrom 57 = .ok (.iconst 0, 1) := by decide +kernel
theorem dX5_copyFrom_58 : decode cX5_copyFrom 58 = .ok (.aload_n 0, 1) := by decide +kernel
theorem dX5_copyFrom_59 : decode cX5_copyFrom 59 = .ok (.getfield 21, 3) := by decide +kernel
theorem dX5_copyFrom_62 : decode cX5_copyFrom 62 = .ok (.iconst 0, 1) := by decide +kernel
theorem dX5_copyFrom_63 : decode cX5_copyFrom 63 = .ok (.bipush 24, 2) := by decide +kernel
theorem dX5_copyFrom_65 : decode cX5_copyFrom 65 = .ok (.invokestatic 55, 3) := by decide +kernel
theorem dX5_copyFrom_68 : decode cX5_copyFrom 68 = .ok (.aload_n 1, 1) := by decide +kernel
theorem dX5_copyFrom_69 : decode cX5_copyFrom 69 = .ok (.getfield 24, 3) := by decide +kernel
theorem dX5_copyFrom_72 : decode cX5_copyFrom 72 = .ok (.iconst 0, 1) := by decide +kernel
theorem dX5_copyFrom_73 : decode cX5_copyFrom 73 = .ok (.aload_n 0, 1) := by decide +kernel
theorem dX5_copyFrom_74 : decode cX5_copyFrom 74 = .ok (.getfield 24, 3) := by decide +kernel
theorem dX5_copyFrom_77 : decode cX5_copyFrom 77 = .ok (.iconst 0, 1) := by decide +kernel
theorem dX5_copyFrom_78 : decode cX5_copyFrom 78 = .ok (.bipush 24, 2) := by decide +kernel
theorem dX5_copyFrom_80 : decode cX5_copyFrom 80 = .ok (.invokestatic 55, 3) := by decide +kernel
theorem dX5_copyFrom_83 : decode cX5_copyFrom 83 = .ok (.aload_n 1, 1) := by decide +kernel
theorem dX5_copyFrom_84 : decode cX5_copyFrom 84 = .ok (.getfield 27, 3) := by decide +kernel
theorem dX5_copyFrom_87 : decode cX5_copyFrom 87 = .ok (.iconst 0, 1) := by decide +kernel
theorem dX5_copyFrom_88 : decode cX5_copyFrom 88 = .ok (.aload_n 0, 1) := by decide +kernel
theorem dX5_copyFrom_89 : decode cX5_copyFrom 89 = .ok (.getfield 27, 3) := by decide +kernel
theorem dX5_copyFrom_92 : decode cX5_copyFrom 92 = .ok (.iconst 0, 1) := by decide +kernel
theorem dX5_copyFrom_93 : decode cX5_copyFrom 93 = .ok (.bipush 24, 2) := by decide +kernel
theorem dX5_copyFrom_95 : decode cX5_copyFrom 95 = .ok (.invokestatic 55, 3) := by decide +kernel
theorem dX5_copyFrom_98 : decode cX5_copyFrom 98 = .ok (.aload_n 1, 1) := by decide +kernel
theorem dX5_copyFrom_99 : decode cX5_copyFrom 99 = .ok (.getfield 30, 3) := by decide +kernel
theorem dX5_copyFrom_102 : decode cX5_copyFrom 102 = .ok (.iconst 0, 1) := by decide +kernel
theorem dX5_copyFrom_103 : decode cX5_copyFrom 103 = .ok (.aload_n 0, 1) := by decide +kernel
theorem dX5_copyFrom_104 : decode cX5_copyFrom 104 = .ok (.getfield 30, 3) := by decide +kernel
theorem dX5_copyFrom_107 : decode cX5_copyFrom 107 = .ok (.iconst 0, 1) := by decide +kernel
theorem dX5_copyFrom_108 : decode cX5_copyFrom 108 = .ok (.bipush 24, 2) := by decide +kernel
theorem dX5_copyFrom_110 : decode cX5_copyFrom 110 = .ok (.invokestatic 55, 3) := by decide +kernel
theorem dX5_copyFrom_113 : decode cX5_copyFrom 113 = .ok (.return_, 1) := by decide +kernel
theorem dX6_init_0 : decode cX6_init 0 = .ok (.aload_n 0, 1) := by decide +kernel
theorem dX6_init_1 : decode cX6_init 1 = .ok (.invokespecial 3, 3) := by decide +kernel
theorem dX6_init_4 : decode cX6_init 4 = .ok (.aload_n 0, 1) := by decide +kernel
theorem dX6_init_5 : decode cX6_init 5 = .ok (.bipush 10, 2) := by decide +kernel
theorem dX6_init_7 : decode cX6_init 7 = .ok (.newarray .int, 2) := by decide +kernel
theorem dX6_init_9 : decode cX6_init 9 = .ok (.putfield 9, 3) := by decide +kernel
theorem dX6_init_12 : decode cX6_init 12 = .ok (.return_, 1) := by decide +kernel
theorem dX6_lightIn_0 : decode cX6_lightIn 0 = .ok (.bipush 14, 2) := by decide +kernel
theorem dX6_lightIn_2 : decode cX6_lightIn 2 = .ok (.bipush 14, 2) := by decide +kernel
theorem dX6_lightIn_4 : decode cX6_lightIn 4 = .ok (.iload_n 0, 1) := by decide +kernel
theorem dX6_lightIn_5 : decode cX6_lightIn 5 = .ok (.bipush 28, 2) := by decide +kernel
theorem dX6_lightIn_7 : decode cX6_lightIn 7 = .ok (.irem, 1) := by decide +kernel
theorem dX6_lightIn_8 : decode cX6_lightIn 8 = .ok (.isub, 1) := by decide +kernel
theorem dX6_lightIn_9 : decode cX6_lightIn 9 = .ok (.invokestatic 15, 3) := by decide +kernel
theorem dX6_lightIn_12 : decode cX6_lightIn 12 = .ok (.isub, 1) := by decide +kernel
theorem dX6_lightIn_13 : decode cX6_lightIn 13 = .ok (.ireturn, 1) := by decide +kernel
theorem dX6_tideIn_0 : decode cX6_tideIn 0 = .ok (.bipush 7, 2) := by decide +kernel
theorem dX6_tideIn_2 : decode cX6_tideIn 2 = .ok (.iload_n 0, 1) := by decide +kernel
theorem dX6_tideIn_3 : decode cX6_tideIn 3 = .ok (.bipush 28, 2) := by decide +kernel
theorem dX6_tideIn_5 : decode cX6_tideIn 5 = .ok (.irem, 1) := by decide +kernel
theorem dX6_tideIn_6 : decode cX6_tideIn 6 = .ok (.bipush 14, 2) := by decide +kernel
theorem dX6_tideIn_8 : decode cX6_tideIn 8 = .ok (.irem, 1) := by decide +kernel
theorem dX6_tideIn_9 : decode cX6_tideIn 9 = .ok (.isub, 1) := by decide +kernel
theorem dX6_tideIn_10 : decode cX6_tideIn 10 = .ok (.invokestatic 15, 3) := by decide +kernel
theorem dX6_tideIn_13 : decode cX6_tideIn 13 = .ok (.ireturn, 1) := by decide +kernel
theorem dX6_hasCloud_0 : decode cX6_hasCloud 0 = .ok (.iload_n 1, 1) := by decide +kernel
theorem dX6_hasCloud_1 : decode cX6_hasCloud 1 = .ok (.ifCond .lt 15, 3) := by decide +kernel
theorem dX6_hasCloud_4 : decode cX6_hasCloud 4 = .ok (.iload_n 1, 1) := by decide +kernel
theorem dX6_hasCloud_5 : decode cX6_hasCloud 5 = .ok (.aload_n 0, 1) := by decide +kernel
theorem dX6_hasCloud_6 : decode cX6_hasCloud 6 = .ok (.getfield 21, 3) := by decide +kernel
theorem dX6_hasCloud_9 : decode cX6_hasCloud 9 = .ok (.if_icmp .ge 7, 3) := by decide +kernel
theorem dX6_hasCloud_12 : decode cX6_hasCloud 12 = .ok (.iconst 1, 1) := by decide +kernel
theorem dX6_hasCloud_13 : decode cX6_hasCloud 13 = .ok (.goto 4, 3) := by decide +kernel
theorem dX6_hasCloud_16 : decode cX6_hasCloud 16 = .ok (.iconst 0, 1) := by decide +kernel
theorem dX6_hasCloud_17 : decode cX6_hasCloud 17 = .ok (.ireturn, 1) := by decide +kernel
theorem dX6_addCloud_0 : decode cX6_addCloud 0 = .ok (.aload_n 0, 1) := by decide +kernel
theorem dX6_addCloud_1 : decode cX6_addCloud 1 = .ok (.getfield 21, 3) := by decide +kernel
theorem dX6_addCloud_4 : decode cX6_addCloud 4 = .ok (.bipush 10, 2) := by decide +kernel
theorem dX6_addCloud_6 : decode cX6_addCloud 6 = .ok (.if_icmp .ge 23, 3) := by decide +kernel
theorem dX6_addCloud_9 : decode cX6_addCloud 9 = .ok (.aload_n 0, 1) := by decide +kernel
theorem dX6_addCloud_10 : decode cX6_addCloud 10 = .ok (.getfield 9, 3) := by decide +kernel
theorem dX6_addCloud_13 : decode cX6_addCloud 13 = .ok (.aload_n 0, 1) := by decide +kernel
theorem dX6_addCloud_14 : decode cX6_addCloud 14 = .ok (.getfield 21, 3) := by decide +kernel
theorem dX6_addCloud_17 : decode cX6_addCloud 17 = .ok (.iload_n 1, 1) := by decide +kernel
theorem dX6_addCloud_18 : decode cX6_addCloud 18 = .ok (.iastore, 1) := by decide +kernel
theorem dX6_addCloud_19 : decode cX6_addCloud 19 = .ok (.aload_n 0, 1) := by decide +kernel
theorem dX6_addCloud_20 : decode cX6_addCloud 20 = .ok (.dup, 1) := by decide +kernel
theorem dX6_addCloud_21 : decode cX6_addCloud 21 = .ok (.getfield 21, 3) := by decide +kernel
theorem dX6_addCloud_24 : decode cX6_addCloud 24 = .ok (.iconst 1, 1) := by decide +kernel
theorem dX6_addCloud_25 : decode cX6_addCloud 25 = .ok (.iadd, 1) := by decide +kernel
theorem dX6_addCloud_26 : decode cX6_addCloud 26 = .ok (.putfield 21, 3) := by decide +kernel
theorem dX6_addCloud_29 : decode cX6_addCloud 29 = .ok (.return_, 1) := by decide +kernel
theorem dX6_cloudIn_0 : decode cX6_cloudIn 0 = .ok (.aload_n 0, 1) := by decide +kernel
theorem dX6_cloudIn_1 : decode cX6_cloudIn 1 = .ok (.getfield 21, 3) := by decide +kernel
theorem dX6_cloudIn_4 : decode cX6_cloudIn 4 = .ok (.ifCond .le 21, 3) := by decide +kernel
theorem dX6_cloudIn_7 : decode cX6_cloudIn 7 = .ok (.iload_n 1, 1) := by decide +kernel
theorem dX6_cloudIn_8 : decode cX6_cloudIn 8 = .ok (.ifCond .lt 17, 3) := by decide +kernel
theorem dX6_cloudIn_11 : decode cX6_cloudIn 11 = .ok (.aload_n 0, 1) := by decide +kernel
theorem dX6_cloudIn_12 : decode cX6_cloudIn 12 = .ok (.getfield 9, 3) := by decide +kernel
theorem dX6_cloudIn_15 : decode cX6_cloudIn 15 = .ok (.iload_n 1, 1) := by decide +kernel
theorem dX6_cloudIn_16 : decode cX6_cloudIn 16 = .ok (.aload_n 0, 1) := by decide +kernel
theorem dX6_cloudIn_17 : decode cX6_cloudIn 17 = .ok (.getfield 21, 3) := by decide +kernel
theorem dX6_cloudIn_20 : decode cX6_cloudIn 20 = .ok (.irem, 1) := by decide +kernel
theorem dX6_cloudIn_21 : decode cX6_cloudIn 21 = .ok (.iaload, 1) := by decide +kernel
theorem dX6_cloudIn_22 : decode cX6_cloudIn 22 = .ok (.goto 4, 3) := by decide +kernel
theorem dX6_cloudIn_25 : decode cX6_cloudIn 25 = .ok (.iconst 0, 1) := by decide +kernel
theorem dX6_cloudIn_26 : decode cX6_cloudIn 26 = .ok (.ireturn, 1) := by decide +kernel
set_option maxRecDepth 20000 in
theorem ggX6_visibleIn_X6_lightIn : GoodIn wsX6_visibleIn wsX6_lightIn := goodIn_r _ [4, 5, 6, 7, 8] (by decide +kernel) (by decide +kernel)
set_option maxRecDepth 20000 in
theorem gX6_visibleIn_X6_lightIn : GoodIn wsX6_visibleIn (va_wsS RX6 25 yX6_lightIn wsX6_lightIn) := goodIn_app (goodIn_of _ (by decide +kernel)) ggX6_visibleIn_X6_lightIn
set_option maxRecDepth 20000 in
theorem ggX6_visibleIn_X6_cloudIn : GoodIn wsX6_visibleIn wsX6_cloudIn := goodIn_r _ [12, 13, 14, 15, 16, 17, 18, 19] (by decide +kernel) (by decide +kernel)
set_option maxRecDepth 20000 in
theorem gX6_visibleIn_X6_cloudIn : GoodIn wsX6_visibleIn (wsV RX6 28 RX6 yX6_cloudIn wsX6_cloudIn) := goodIn_app (goodIn_of _ (by decide +kernel)) ggX6_visibleIn_X6_cloudIn
theorem dX6_visibleIn_0 : decode cX6_visibleIn 0 = .ok (.iload_n 1, 1) := by decide +kernel
theorem dX6_visibleIn_1 : decode cX6_visibleIn 1 = .ok (.invokestatic 25, 3) := by decide +kernel
theorem dX6_visibleIn_4 : decode cX6_visibleIn 4 = .ok (.bipush 10, 2) := by decide +kernel
theorem dX6_visibleIn_6 : decode cX6_visibleIn 6 = .ok (.aload_n 0, 1) := by decide +kernel
theorem dX6_visibleIn_7 : decode cX6_visibleIn 7 = .ok (.iload_n 1, 1) := by decide +kernel
theorem dX6_visibleIn_8 : decode cX6_visibleIn 8 = .ok (.invokevirtual 28, 3) := by decide +kernel
theorem dX6_visibleIn_11 : decode cX6_visibleIn 11 = .ok (.isub, 1) := by decide +kernel
theorem dX6_visibleIn_12 : decode cX6_visibleIn 12 = .ok (.imul, 1) := by decide +kernel
theorem dX6_visibleIn_13 : decode cX6_visibleIn 13 = .ok (.bipush 10, 2) := by decide +kernel
theorem dX6_visibleIn_15 : decode cX6_visibleIn 15 = .ok (.idiv, 1) := by decide +kernel
theorem dX6_visibleIn_16 : decode cX6_visibleIn 16 = .ok (.ireturn, 1) := by decide +kernel
set_option maxRecDepth 20000 in
theorem ggX6_costIn_X6_visibleIn : GoodIn wsX6_costIn wsX6_visibleIn := goodIn_r _ [5, 6, 7, 4, 8, 9, 10, 11, 12, 13, 14, 15, 16, 17, 18, 19, 20, 21, 22, 23] (by decide +kernel) (by decide +kernel)
set_option maxRecDepth 20000 in
theorem gX6_costIn_X6_visibleIn : GoodIn wsX6_costIn (wsV RX6 31 RX6 yX6_visibleIn wsX6_visibleIn) := goodIn_app (goodIn_of _ (by decide +kernel)) ggX6_costIn_X6_visibleIn
theorem dX6_costIn_0 : decode cX6_costIn 0 = .ok (.bipush 6, 2) := by decide +kernel
theorem dX6_costIn_2 : decode cX6_costIn 2 = .ok (.aload_n 0, 1) := by decide +kernel
theorem dX6_costIn_3 : decode cX6_costIn 3 = .ok (.iload_n 1, 1) := by decide +kernel
theorem dX6_costIn_4 : decode cX6_costIn 4 = .ok (.invokevirtual 31, 3) := by decide +kernel
theorem dX6_costIn_7 : decode cX6_costIn 7 = .ok (.iconst 3, 1) := by decide +kernel
theorem dX6_costIn_8 : decode cX6_costIn 8 = .ok (.idiv, 1) := by decide +kernel
theorem dX6_costIn_9 : decode cX6_costIn 9 = .ok (.isub, 1) := by decide +kernel
theorem dX6_costIn_10 : decode cX6_costIn 10 = .ok (.ireturn, 1) := by decide +kernel
set_option maxRecDepth 20000 in
theorem ggX6_justifies_X6_visibleIn : GoodIn wsX6_justifies wsX6_visibleIn := goodIn_r _ [8, 9, 10, 7, 11, 12, 13, 14, 15, 16, 17, 18, 19, 20, 21, 25, 26, 27, 28, 29] (by decide +kernel) (by decide +kernel)
set_option maxRecDepth 20000 in
theorem gX6_justifies_X6_visibleIn : GoodIn wsX6_justifies (wsV RX6 31 RX6 yX6_visibleIn wsX6_visibleIn) := goodIn_app (goodIn_of _ (by decide +kernel)) ggX6_justifies_X6_visibleIn
set_option maxRecDepth 20000 in
theorem ggX6_justifies_X6_tideIn : GoodIn wsX6_justifies wsX6_tideIn := goodIn_r _ [24, 12, 13, 14, 15] (by decide +kernel) (by decide +kernel)
set_option maxRecDepth 20000 in
theorem gX6_justifies_X6_tideIn : GoodIn wsX6_justifies (va_wsS RX6 40 yX6_tideIn wsX6_tideIn) := goodIn_app (goodIn_of _ (by decide +kernel)) ggX6_justifies_X6_tideIn
set_option maxRecDepth 20000 in
theorem ggX6_justifies_X6_lightIn : GoodIn wsX6_justifies wsX6_lightIn := goodIn_r _ [11, 12, 13, 14, 15] (by decide +kernel) (by decide +kernel)
set_option maxRecDepth 20000 in
theorem gX6_justifies_X6_lightIn : GoodIn wsX6_justifies (va_wsS RX6 25 yX6_lightIn wsX6_lightIn) := goodIn_app (goodIn_of _ (by decide +kernel)) ggX6_justifies_X6_lightIn
set_option maxRecDepth 20000 in
theorem ggX6_justifies_X6_cloudIn : GoodIn wsX6_justifies wsX6_cloudIn := goodIn_r _ [19, 20, 21, 25, 26, 27, 28, 29] (by decide +kernel) (by decide +kernel)
set_option maxRecDepth 20000 in
theorem gX6_justifies_X6_cloudIn : GoodIn wsX6_justifies (wsV RX6 28 RX6 yX6_cloudIn wsX6_cloudIn) := goodIn_app (goodIn_of _ (by decide +kernel)) ggX6_justifies_X6_cloudIn
theorem dX6_justifies_0 : decode cX6_justifies 0 = .ok (.iload_n 1, 1) := by decide +kernel
theorem dX6_justifies_1 : decode cX6_justifies 1 = .ok (.tableswitch 80 0 2 #[27, 45, 63], 27) := by decide +kernel
theorem dX6_justifies_28 : decode cX6_justifies 28 = .ok (.aload_n 0, 1) := by decide +kernel
theorem dX6_justifies_29 : decode cX6_justifies 29 = .ok (.iload_n 2, 1) := by decide +kernel
theorem dX6_justifies_30 : decode cX6_justifies 30 = .ok (.invokevirtual 31, 3) := by decide +kernel
theorem dX6_justifies_33 : decode cX6_justifies 33 = .ok (.aload_n 0, 1) := by decide +kernel
theorem dX6_justifies_34 : decode cX6_justifies 34 = .ok (.getfield 34, 3) := by decide +kernel
theorem dX6_justifies_37 : decode cX6_justifies 37 = .ok (.if_icmp .lt 7, 3) := by decide +kernel
theorem dX6_justifies_40 : decode cX6_justifies 40 = .ok (.iconst 1, 1) := by decide +kernel
theorem dX6_justifies_41 : decode cX6_justifies 41 = .ok (.goto 4, 3) := by decide +kernel
theorem dX6_justifies_44 : decode cX6_justifies 44 = .ok (.iconst 0, 1) := by decide +kernel
theorem dX6_justifies_45 : decode cX6_justifies 45 = .ok (.ireturn, 1) := by decide +kernel
theorem dX6_justifies_46 : decode cX6_justifies 46 = .ok (.aload_n 0, 1) := by decide +kernel
theorem dX6_justifies_47 : decode cX6_justifies 47 = .ok (.iload_n 2, 1) := by decide +kernel
theorem dX6_justifies_48 : decode cX6_justifies 48 = .ok (.invokevirtual 31, 3) := by decide +kernel
theorem dX6_justifies_51 : decode cX6_justifies 51 = .ok (.aload_n 0, 1) := by decide +kernel
theorem dX6_justifies_52 : decode cX6_justifies 52 = .ok (.getfield 37, 3) := by decide +kernel
theorem dX6_justifies_55 : decode cX6_justifies 55 = .ok (.if_icmp .gt 7, 3) := by decide +kernel
theorem dX6_justifies_58 : decode cX6_justifies 58 = .ok (.iconst 1, 1) := by decide +kernel
theorem dX6_justifies_59 : decode cX6_justifies 59 = .ok (.goto 4, 3) := by decide +kernel
theorem dX6_justifies_62 : decode cX6_justifies 62 = .ok (.iconst 0, 1) := by decide +kernel
theorem dX6_justifies_63 : decode cX6_justifies 63 = .ok (.ireturn, 1) := by decide +kernel
theorem dX6_justifies_64 : decode cX6_justifies 64 = .ok (.iload_n 2, 1) := by decide +kernel
theorem dX6_justifies_65 : decode cX6_justifies 65 = .ok (.invokestatic 40, 3) := by decide +kernel
theorem dX6_justifies_68 : decode cX6_justifies 68 = .ok (.aload_n 0, 1) := by decide +kernel
theorem dX6_justifies_69 : decode cX6_justifies 69 = .ok (.getfield 43, 3) := by decide +kernel
theorem dX6_justifies_72 : decode cX6_justifies 72 = .ok (.if_icmp .lt 7, 3) := by decide +kernel
theorem dX6_justifies_75 : decode cX6_justifies 75 = .ok (.iconst 1, 1) := by decide +kernel
theorem dX6_justifies_76 : decode cX6_justifies 76 = .ok (.goto 4, 3) := by decide +kernel
theorem dX6_justifies_79 : decode cX6_justifies 79 = .ok (.iconst 0, 1) := by decide +kernel
theorem dX6_justifies_80 : decode cX6_justifies 80 = .ok (.ireturn, 1) := by decide +kernel
theorem dX6_justifies_81 : decode cX6_justifies 81 = .ok (.iload_n 2, 1) := by decide +kernel
theorem dX6_justifies_82 : decode cX6_justifies 82 = .ok (.invokestatic 25, 3) := by decide +kernel
theorem dX6_justifies_85 : decode cX6_justifies 85 = .ok (.iconst 4, 1) := by decide +kernel
theorem dX6_justifies_86 : decode cX6_justifies 86 = .ok (.if_icmp .lt 16, 3) := by decide +kernel
theorem dX6_justifies_89 : decode cX6_justifies 89 = .ok (.aload_n 0, 1) := by decide +kernel
theorem dX6_justifies_90 : decode cX6_justifies 90 = .ok (.iload_n 2, 1) := by decide +kernel
theorem dX6_justifies_91 : decode cX6_justifies 91 = .ok (.invokevirtual 28, 3) := by decide +kernel
theorem dX6_justifies_94 : decode cX6_justifies 94 = .ok (.iconst 2, 1) := by decide +kernel
theorem dX6_justifies_95 : decode cX6_justifies 95 = .ok (.if_icmp .gt 7, 3) := by decide +kernel
theorem dX6_justifies_98 : decode cX6_justifies 98 = .ok (.iconst 1, 1) := by decide +kernel
theorem dX6_justifies_99 : decode cX6_justifies 99 = .ok (.goto 4, 3) := by decide +kernel
theorem dX6_justifies_102 : decode cX6_justifies 102 = .ok (.iconst 0, 1) := by decide +kernel
theorem dX6_justifies_103 : decode cX6_justifies 103 = .ok (.ireturn, 1) := by decide +kernel
set_option maxRecDepth 20000 in
theorem ggX6_justifiedSorts_X6_justifies : GoodIn wsX6_justifiedSorts wsX6_justifies := goodIn_r _ [5, 6, 7, 8, 9, 10, 11, 4, 12, 13, 14, 15, 16, 17, 18, 19, 20, 21, 22, 23, 24, 25, 26, 27, 28, 29, 30, 31, 32, 33] (by decide +kernel) (by decide +kernel)
set_option maxRecDepth 20000 in
theorem gX6_justifiedSorts_X6_justifies : GoodIn wsX6_justifiedSorts (wsV RX6 46 RX6 yX6_justifies wsX6_justifies) := goodIn_app (goodIn_of _ (by decide +kernel)) ggX6_justifiedSorts_X6_justifies
theorem dX6_justifiedSorts_0 : decode cX6_justifiedSorts 0 = .ok (.iconst 0, 1) := by decide +kernel
theorem dX6_justifiedSorts_1 : decode cX6_justifiedSorts 1 = .ok (.istore_n 2, 1) := by decide +kernel
theorem dX6_justifiedSorts_2 : decode cX6_justifiedSorts 2 = .ok (.iconst 0, 1) := by decide +kernel
theorem dX6_justifiedSorts_3 : decode cX6_justifiedSorts 3 = .ok (.istore_n 3, 1) := by decide +kernel
theorem dX6_justifiedSorts_4 : decode cX6_justifiedSorts 4 = .ok (.iload_n 3, 1) := by decide +kernel
theorem dX6_justifiedSorts_5 : decode cX6_justifiedSorts 5 = .ok (.iconst 3, 1) := by decide +kernel
theorem dX6_justifiedSorts_6 : decode cX6_justifiedSorts 6 = .ok (.if_icmp .gt 24, 3) := by decide +kernel
theorem dX6_justifiedSorts_9 : decode cX6_justifiedSorts 9 = .ok (.aload_n 0, 1) := by decide +kernel
theorem dX6_justifiedSorts_10 : decode cX6_justifiedSorts 10 = .ok (.iload_n 3, 1) := by decide +kernel
theorem dX6_justifiedSorts_11 : decode cX6_justifiedSorts 11 = .ok (.iload_n 1, 1) := by decide +kernel
theorem dX6_justifiedSorts_12 : decode cX6_justifiedSorts 12 = .ok (.invokevirtual 46, 3) := by decide +kernel
theorem dX6_justifiedSorts_15 : decode cX6_justifiedSorts 15 = .ok (.ifCond .eq 9, 3) := by decide +kernel
theorem dX6_justifiedSorts_18 : decode cX6_justifiedSorts 18 = .ok (.iload_n 2, 1) := by decide +kernel
theorem dX6_justifiedSorts_19 : decode cX6_justifiedSorts 19 = .ok (.iconst 1, 1) := by decide +kernel
theorem dX6_justifiedSorts_20 : decode cX6_justifiedSorts 20 = .ok (.iload_n 3, 1) := by decide +kernel
theorem dX6_justifiedSorts_21 : decode cX6_justifiedSorts 21 = .ok (.ishl, 1) := by decide +kernel
theorem dX6_justifiedSorts_22 : decode cX6_justifiedSorts 22 = .ok (.ior, 1) := by decide +kernel
theorem dX6_justifiedSorts_23 : decode cX6_justifiedSorts 23 = .ok (.istore_n 2, 1) := by decide +kernel
theorem dX6_justifiedSorts_24 : decode cX6_justifiedSorts 24 = .ok (.iinc 3 1, 3) := by decide +kernel
theorem dX6_justifiedSorts_27 : decode cX6_justifiedSorts 27 = .ok (.goto (-23), 3) := by decide +kernel
theorem dX6_justifiedSorts_30 : decode cX6_justifiedSorts 30 = .ok (.iload_n 2, 1) := by decide +kernel
theorem dX6_justifiedSorts_31 : decode cX6_justifiedSorts 31 = .ok (.ireturn, 1) := by decide +kernel
set_option maxRecDepth 20000 in
theorem ggX6_countJustified_X6_justifies : GoodIn wsX6_countJustified wsX6_justifies := goodIn_r _ [5, 6, 7, 8, 9, 10, 11, 4, 12, 13, 14, 15, 16, 17, 18, 19, 20, 21, 22, 23, 24, 25, 26, 27, 28, 29, 30, 31, 32, 33] (by decide +kernel) (by decide +kernel)
set_option maxRecDepth 20000 in
theorem gX6_countJustified_X6_justifies : GoodIn wsX6_countJustified (wsV RX6 46 RX6 yX6_justifies wsX6_justifies) := goodIn_app (goodIn_of _ (by decide +kernel)) ggX6_countJustified_X6_justifies
theorem dX6_countJustified_0 : decode cX6_countJustified 0 = .ok (.iconst 0, 1) := by decide +kernel
theorem dX6_countJustified_1 : decode cX6_countJustified 1 = .ok (.istore_n 3, 1) := by decide +kernel
theorem dX6_countJustified_2 : decode cX6_countJustified 2 = .ok (.iload_n 2, 1) := by decide +kernel
theorem dX6_countJustified_3 : decode cX6_countJustified 3 = .ok (.istore 4, 2) := by decide +kernel
theorem dX6_countJustified_5 : decode cX6_countJustified 5 = .ok (.iload 4, 2) := by decide +kernel
theorem dX6_countJustified_7 : decode cX6_countJustified 7 = .ok (.iload_n 2, 1) := by decide +kernel
theorem dX6_countJustified_8 : decode cX6_countJustified 8 = .ok (.bipush 28, 2) := by decide +kernel
theorem dX6_countJustified_10 : decode cX6_countJustified 10 = .ok (.iadd, 1) := by decide +kernel
theorem dX6_countJustified_11 : decode cX6_countJustified 11 = .ok (.if_icmp .ge 22, 3) := by decide +kernel
theorem dX6_countJustified_14 : decode cX6_countJustified 14 = .ok (.aload_n 0, 1) := by decide +kernel
theorem dX6_countJustified_15 : decode cX6_countJustified 15 = .ok (.iload_n 1, 1) := by decide +kernel
theorem dX6_countJustified_16 : decode cX6_countJustified 16 = .ok (.iload 4, 2) := by decide +kernel
theorem dX6_countJustified_18 : decode cX6_countJustified 18 = .ok (.invokevirtual 46, 3) := by decide +kernel
theorem dX6_countJustified_21 : decode cX6_countJustified 21 = .ok (.ifCond .eq 6, 3) := by decide +kernel
theorem dX6_countJustified_24 : decode cX6_countJustified 24 = .ok (.iinc 3 1, 3) := by decide +kernel
theorem dX6_countJustified_27 : decode cX6_countJustified 27 = .ok (.iinc 4 1, 3) := by decide +kernel
theorem dX6_countJustified_30 : decode cX6_countJustified 30 = .ok (.goto (-25), 3) := by decide +kernel
theorem dX6_countJustified_33 : decode cX6_countJustified 33 = .ok (.iload_n 3, 1) := by decide +kernel
theorem dX6_countJustified_34 : decode cX6_countJustified 34 = .ok (.ireturn, 1) := by decide +kernel
theorem dX6_copyFrom_0 : decode cX6_copyFrom 0 = .ok (.aload_n 0, 1) := by decide +kernel
theorem dX6_copyFrom_1 : decode cX6_copyFrom 1 = .ok (.aload_n 1, 1) := by decide +kernel
theorem dX6_copyFrom_2 : decode cX6_copyFrom 2 = .ok (.getfield 34, 3) := by decide +kernel
theorem dX6_copyFrom_5 : decode cX6_copyFrom 5 = .ok (.putfield 34, 3) := by decide +kernel
theorem dX6_copyFrom_8 : decode cX6_copyFrom 8 = .ok (.aload_n 0, 1) := by decide +kernel
theorem dX6_copyFrom_9 : decode cX6_copyFrom 9 = .ok (.aload_n 1, 1) := by decide +kernel
theorem dX6_copyFrom_10 : decode cX6_copyFrom 10 = .ok (.getfield 37, 3) := by decide +kernel
theorem dX6_copyFrom_13 : decode cX6_copyFrom 13 = .ok (.putfield 37, 3) := by decide +kernel
theorem dX6_copyFrom_16 : decode cX6_copyFrom 16 = .ok (.aload_n 0, 1) := by decide +kernel
theorem dX6_copyFrom_17 : decode cX6_copyFrom 17 = .ok (.aload_n 1, 1) := by decide +kernel
theorem dX6_copyFrom_18 : decode cX6_copyFrom 18 = .ok (.getfield 43, 3) := by decide +kernel
theorem dX6_copyFrom_21 : decode cX6_copyFrom 21 = .ok (.putfield 43, 3) := by decide +kernel
theorem dX6_copyFrom_24 : decode cX6_copyFrom 24 = .ok (.aload_n 0, 1) := by decide +kernel
theorem dX6_copyFrom_25 : decode cX6_copyFrom 25 = .ok (.aload_n 1, 1) := by decide +kernel
theorem dX6_copyFrom_26 : decode cX6_copyFrom 26 = .ok (.getfield 21, 3) := by decide +kernel
theorem dX6_copyFrom_29 : decode cX6_copyFrom 29 = .ok (.putfield 21, 3) := by decide +kernel
theorem dX6_copyFrom_32 : decode cX6_copyFrom 32 = .ok (.aload_n 1, 1) := by decide +kernel
theorem dX6_copyFrom_33 : decode cX6_copyFrom 33 = .ok (.getfield 9, 3) := by decide +kernel
theorem dX6_copyFrom_36 : decode cX6_copyFrom 36 = .ok (.iconst 0, 1) := by decide +kernel
theorem dX6_copyFrom_37 : decode cX6_copyFrom 37 = .ok (.aload_n 0, 1) := by decide +kernel
theorem dX6_copyFrom_38 : decode cX6_copyFrom 38 = .ok (.getfield 9, 3) := by decide +kernel
theorem dX6_copyFrom_41 : decode cX6_copyFrom 41 = .ok (.iconst 0, 1) := by decide +kernel
theorem dX6_copyFrom_42 : decode cX6_copyFrom 42 = .ok (.bipush 10, 2) := by decide +kernel
theorem dX6_copyFrom_44 : decode cX6_copyFrom 44 = .ok (.invokestatic 50, 3) := by decide +kernel
theorem dX6_copyFrom_47 : decode cX6_copyFrom 47 = .ok (.return_, 1) := by decide +kernel
theorem dX8_init_0 : decode cX8_init 0 = .ok (.aload_n 0, 1) := by decide +kernel
theorem dX8_init_1 : decode cX8_init 1 = .ok (.invokespecial 3, 3) := by decide +kernel
theorem dX8_init_4 : decode cX8_init 4 = .ok (.aload_n 0, 1) := by decide +kernel
theorem dX8_init_5 : decode cX8_init 5 = .ok (.iconst 5, 1) := by decide +kernel
theorem dX8_init_6 : decode cX8_init 6 = .ok (.newarray .int, 2) := by decide +kernel
theorem dX8_init_8 : decode cX8_init 8 = .ok (.putfield 9, 3) := by decide +kernel
theorem dX8_init_11 : decode cX8_init 11 = .ok (.aload_n 0, 1) := by decide +kernel
theorem dX8_init_12 : decode cX8_init 12 = .ok (.iconst 5, 1) := by decide +kernel
theorem dX8_init_13 : decode cX8_init 13 = .ok (.newarray .int, 2) := by decide +kernel
theorem dX8_init_15 : decode cX8_init 15 = .ok (.putfield 15, 3) := by decide +kernel
theorem dX8_init_18 : decode cX8_init 18 = .ok (.return_, 1) := by decide +kernel
theorem dX8_has_0 : decode cX8_has 0 = .ok (.iload_n 1, 1) := by decide +kernel
theorem dX8_has_1 : decode cX8_has 1 = .ok (.ifCond .lt 15, 3) := by decide +kernel
theorem dX8_has_4 : decode cX8_has 4 = .ok (.iload_n 1, 1) := by decide +kernel
theorem dX8_has_5 : decode cX8_has 5 = .ok (.aload_n 0, 1) := by decide +kernel
theorem dX8_has_6 : decode cX8_has 6 = .ok (.getfield 18, 3) := by decide +kernel
theorem dX8_has_9 : decode cX8_has 9 = .ok (.if_icmp .ge 7, 3) := by decide +kernel
theorem dX8_has_12 : decode cX8_has 12 = .ok (.iconst 1, 1) := by decide +kernel
theorem dX8_has_13 : decode cX8_has 13 = .ok (.goto 4, 3) := by decide +kernel
theorem dX8_has_16 : decode cX8_has 16 = .ok (.iconst 0, 1) := by decide +kernel
theorem dX8_has_17 : decode cX8_has 17 = .ok (.ireturn, 1) := by decide +kernel
theorem dX8_add_0 : decode cX8_add 0 = .ok (.aload_n 0, 1) := by decide +kernel
theorem dX8_add_1 : decode cX8_add 1 = .ok (.getfield 18, 3) := by decide +kernel
theorem dX8_add_4 : decode cX8_add 4 = .ok (.iconst 5, 1) := by decide +kernel
theorem dX8_add_5 : decode cX8_add 5 = .ok (.if_icmp .ge 33, 3) := by decide +kernel
theorem dX8_add_8 : decode cX8_add 8 = .ok (.aload_n 0, 1) := by decide +kernel
theorem dX8_add_9 : decode cX8_add 9 = .ok (.getfield 9, 3) := by decide +kernel
theorem dX8_add_12 : decode cX8_add 12 = .ok (.aload_n 0, 1) := by decide +kernel
theorem dX8_add_13 : decode cX8_add 13 = .ok (.getfield 18, 3) := by decide +kernel
theorem dX8_add_16 : decode cX8_add 16 = .ok (.iload_n 1, 1) := by decide +kernel
theorem dX8_add_17 : decode cX8_add 17 = .ok (.iastore, 1) := by decide +kernel
theorem dX8_add_18 : decode cX8_add 18 = .ok (.aload_n 0, 1) := by decide +kernel
theorem dX8_add_19 : decode cX8_add 19 = .ok (.getfield 15, 3) := by decide +kernel
theorem dX8_add_22 : decode cX8_add 22 = .ok (.aload_n 0, 1) := by decide +kernel
theorem dX8_add_23 : decode cX8_add 23 = .ok (.getfield 18, 3) := by decide +kernel
theorem dX8_add_26 : decode cX8_add 26 = .ok (.iload_n 2, 1) := by decide +kernel
theorem dX8_add_27 : decode cX8_add 27 = .ok (.iastore, 1) := by decide +kernel
theorem dX8_add_28 : decode cX8_add 28 = .ok (.aload_n 0, 1) := by decide +kernel
theorem dX8_add_29 : decode cX8_add 29 = .ok (.dup, 1) := by decide +kernel
theorem dX8_add_30 : decode cX8_add 30 = .ok (.getfield 18, 3) := by decide +kernel
theorem dX8_add_33 : decode cX8_add 33 = .ok (.iconst 1, 1) := by decide +kernel
theorem dX8_add_34 : decode cX8_add 34 = .ok (.iadd, 1) := by decide +kernel
theorem dX8_add_35 : decode cX8_add 35 = .ok (.putfield 18, 3) := by decide +kernel
theorem dX8_add_38 : decode cX8_add 38 = .ok (.return_, 1) := by decide +kernel
set_option maxRecDepth 20000 in
theorem ggX8_burn_X8_has : GoodIn wsX8_burn wsX8_has := goodIn_r _ [7, 8, 9, 10, 11, 12] (by decide +kernel) (by decide +kernel)
set_option maxRecDepth 20000 in
theorem gX8_burn_X8_has : GoodIn wsX8_burn (wsV RX8 22 RX8 yX8_has wsX8_has) := goodIn_app (goodIn_of _ (by decide +kernel)) ggX8_burn_X8_has
theorem dX8_burn_0 : decode cX8_burn 0 = .ok (.aload_n 0, 1) := by decide +kernel
theorem dX8_burn_1 : decode cX8_burn 1 = .ok (.iload_n 1, 1) := by decide +kernel
theorem dX8_burn_2 : decode cX8_burn 2 = .ok (.invokevirtual 22, 3) := by decide +kernel
theorem dX8_burn_5 : decode cX8_burn 5 = .ok (.ifCond .eq 23, 3) := by decide +kernel
theorem dX8_burn_8 : decode cX8_burn 8 = .ok (.aload_n 0, 1) := by decide +kernel
theorem dX8_burn_9 : decode cX8_burn 9 = .ok (.getfield 15, 3) := by decide +kernel
theorem dX8_burn_12 : decode cX8_burn 12 = .ok (.iload_n 1, 1) := by decide +kernel
theorem dX8_burn_13 : decode cX8_burn 13 = .ok (.dup2, 1) := by decide +kernel
theorem dX8_burn_14 : decode cX8_burn 14 = .ok (.iaload, 1) := by decide +kernel
theorem dX8_burn_15 : decode cX8_burn 15 = .ok (.iload_n 2, 1) := by decide +kernel
theorem dX8_burn_16 : decode cX8_burn 16 = .ok (.isub, 1) := by decide +kernel
theorem dX8_burn_17 : decode cX8_burn 17 = .ok (.iastore, 1) := by decide +kernel
theorem dX8_burn_18 : decode cX8_burn 18 = .ok (.aload_n 0, 1) := by decide +kernel
theorem dX8_burn_19 : decode cX8_burn 19 = .ok (.dup, 1) := by decide +kernel
theorem dX8_burn_20 : decode cX8_burn 20 = .ok (.getfield 26, 3) := by decide +kernel
theorem dX8_burn_23 : decode cX8_burn 23 = .ok (.iload_n 2, 1) := by decide +kernel
theorem dX8_burn_24 : decode cX8_burn 24 = .ok (.iadd, 1) := by decide +kernel
theorem dX8_burn_25 : decode cX8_burn 25 = .ok (.putfield 26, 3) := by decide +kernel
theorem dX8_burn_28 : decode cX8_burn 28 = .ok (.return_, 1) := by decide +kernel
theorem dX8_withLeastOil_0 : decode cX8_withLeastOil 0 = .ok (.iconst (-1), 1) := by decide +kernel
theorem dX8_withLeastOil_1 : decode cX8_withLeastOil 1 = .ok (.istore_n 1, 1) := by decide +kernel
theorem dX8_withLeastOil_2 : decode cX8_withLeastOil 2 = .ok (.bipush 100, 2) := by decide +kernel
theorem dX8_withLeastOil_4 : decode cX8_withLeastOil 4 = .ok (.istore_n 2, 1) := by decide +kernel
theorem dX8_withLeastOil_5 : decode cX8_withLeastOil 5 = .ok (.iconst 0, 1) := by decide +kernel
theorem dX8_withLeastOil_6 : decode cX8_withLeastOil 6 = .ok (.istore_n 3, 1) := by decide +kernel
theorem dX8_withLeastOil_7 : decode cX8_withLeastOil 7 = .ok (.iload_n 3, 1) := by decide +kernel
theorem dX8_withLeastOil_8 : decode cX8_withLeastOil 8 = .ok (.aload_n 0, 1) := by decide +kernel
theorem dX8_withLeastOil_9 : decode cX8_withLeastOil 9 = .ok (.getfield 18, 3) := by decide +kernel
theorem dX8_withLeastOil_12 : decode cX8_withLeastOil 12 = .ok (.if_icmp .ge 28, 3) := by decide +kernel
theorem dX8_withLeastOil_15 : decode cX8_withLeastOil 15 = .ok (.aload_n 0, 1) := by decide +kernel
theorem dX8_withLeastOil_16 : decode cX8_withLeastOil 16 = .ok (.getfield 15, 3) := by decide +kernel
theorem dX8_withLeastOil_19 : decode cX8_withLeastOil 19 = .ok (.iload_n 3, 1) := by decide +kernel
theorem dX8_withLeastOil_20 : decode cX8_withLeastOil 20 = .ok (.iaload, 1) := by decide +kernel
theorem dX8_withLeastOil_21 : decode cX8_withLeastOil 21 = .ok (.iload_n 2, 1) := by decide +kernel
theorem dX8_withLeastOil_22 : decode cX8_withLeastOil 22 = .ok (.if_icmp .ge 12, 3) := by decide +kernel
theorem dX8_withLeastOil_25 : decode cX8_withLeastOil 25 = .ok (.aload_n 0, 1) := by decide +kernel
theorem dX8_withLeastOil_26 : decode cX8_withLeastOil 26 = .ok (.getfield 15, 3) := by decide +kernel
theorem dX8_withLeastOil_29 : decode cX8_withLeastOil 29 = .ok (.iload_n 3, 1) := by decide +kernel
theorem dX8_withLeastOil_30 : decode cX8_withLeastOil 30 = .ok (.iaload, 1) := by decide +kernel
theorem dX8_withLeastOil_31 : decode cX8_withLeastOil 31 = .ok (.istore_n 2, 1) := by decide +kernel
theorem dX8_withLeastOil_32 : decode cX8_withLeastOil 32 = .ok (.iload_n 3, 1) := by decide +kernel
theorem dX8_withLeastOil_33 : decode cX8_withLeastOil 33 = .ok (.istore_n 1, 1) := by decide +kernel
theorem dX8_withLeastOil_34 : decode cX8_withLeastOil 34 = .ok (.iinc 3 1, 3) := by decide +kernel
theorem dX8_withLeastOil_37 : decode cX8_withLeastOil 37 = .ok (.goto (-30), 3) := by decide +kernel
theorem dX8_withLeastOil_40 : decode cX8_withLeastOil 40 = .ok (.iload_n 1, 1) := by decide +kernel
theorem dX8_withLeastOil_41 : decode cX8_withLeastOil 41 = .ok (.ireturn, 1) := by decide +kernel
theorem dX8_copyFrom_0 : decode cX8_copyFrom 0 = .ok (.aload_n 0, 1) := by decide +kernel
theorem dX8_copyFrom_1 : decode cX8_copyFrom 1 = .ok (.aload_n 1, 1) := by decide +kernel
theorem dX8_copyFrom_2 : decode cX8_copyFrom 2 = .ok (.getfield 18, 3) := by decide +kernel
theorem dX8_copyFrom_5 : decode cX8_copyFrom 5 = .ok (.putfield 18, 3) := by decide +kernel
theorem dX8_copyFrom_8 : decode cX8_copyFrom 8 = .ok (.aload_n 0, 1) := by decide +kernel
theorem dX8_copyFrom_9 : decode cX8_copyFrom 9 = .ok (.aload_n 1, 1) := by decide +kernel
theorem dX8_copyFrom_10 : decode cX8_copyFrom 10 = .ok (.getfield 26, 3) := by decide +kernel
theorem dX8_copyFrom_13 : decode cX8_copyFrom 13 = .ok (.putfield 26, 3) := by decide +kernel
theorem dX8_copyFrom_16 : decode cX8_copyFrom 16 = .ok (.aload_n 1, 1) := by decide +kernel
theorem dX8_copyFrom_17 : decode cX8_copyFrom 17 = .ok (.getfield 9, 3) := by decide +kernel
theorem dX8_copyFrom_20 : decode cX8_copyFrom 20 = .ok (.iconst 0, 1) := by decide +kernel
theorem dX8_copyFrom_21 : decode cX8_copyFrom 21 = .ok (.aload_n 0, 1) := by decide +kernel
theorem dX8_copyFrom_22 : decode cX8_copyFrom 22 = .ok (.getfield 9, 3) := by decide +kernel
theorem dX8_copyFrom_25 : decode cX8_copyFrom 25 = .ok (.iconst 0, 1) := by decide +kernel
theorem dX8_copyFrom_26 : decode cX8_copyFrom 26 = .ok (.iconst 5, 1) := by decide +kernel
theorem dX8_copyFrom_27 : decode cX8_copyFrom 27 = .ok (.invokestatic 29, 3) := by decide +kernel
theorem dX8_copyFrom_30 : decode cX8_copyFrom 30 = .ok (.aload_n 1, 1) := by decide +kernel
theorem dX8_copyFrom_31 : decode cX8_copyFrom 31 = .ok (.getfield 15, 3) := by decide +kernel
theorem dX8_copyFrom_34 : decode cX8_copyFrom 34 = .ok (.iconst 0, 1) := by decide +kernel
theorem dX8_copyFrom_35 : decode cX8_copyFrom 35 = .ok (.aload_n 0, 1) := by decide +kernel
theorem dX8_copyFrom_36 : decode cX8_copyFrom 36 = .ok (.getfield 15, 3) := by decide +kernel
theorem dX8_copyFrom_39 : decode cX8_copyFrom 39 = .ok (.iconst 0, 1) := by decide +kernel
theorem dX8_copyFrom_40 : decode cX8_copyFrom 40 = .ok (.iconst 5, 1) := by decide +kernel
theorem dX8_copyFrom_41 : decode cX8_copyFrom 41 = .ok (.invokestatic 29, 3) := by decide +kernel
theorem dX8_copyFrom_44 : decode cX8_copyFrom 44 = .ok (.return_, 1) := by decide +kernel
set_option maxRecDepth 20000 in
theorem ggX3_init_X6_init : GoodIn wsX3_init wsX6_init := goodIn_r _ [17, 18, 2, 3, 19, 20, 36, 37, 38, 39, 40] (by decide +kernel) (by decide +kernel)
set_option maxRecDepth 20000 in
theorem gX3_init_X6_init_n11 : GoodIn wsX3_init (wsX6_init) := ggX3_init_X6_init
set_option maxRecDepth 20000 in
theorem ggX3_init_X8_init : GoodIn wsX3_init wsX8_init := goodIn_r _ [22, 23, 2, 3, 19, 24, 25, 45, 46, 47, 48] (by decide +kernel) (by decide +kernel)
set_option maxRecDepth 20000 in
theorem gX3_init_X8_init_n20 : GoodIn wsX3_init (wsX8_init) := ggX3_init_X8_init
set_option maxRecDepth 20000 in
theorem ggX3_init_X5_init : GoodIn wsX3_init wsX5_init := goodIn_r _ [27, 28, 2, 3, 19, 29, 30, 31, 32, 33, 34, 35, 49, 50, 51, 52, 53, 54, 55, 56] (by decide +kernel) (by decide +kernel)
set_option maxRecDepth 20000 in
theorem gX3_init_X5_init_n27 : GoodIn wsX3_init (wsX5_init) := ggX3_init_X5_init
theorem dX3_init_0 : decode cX3_init 0 = .ok (.aload_n 0, 1) := by decide +kernel
theorem dX3_init_1 : decode cX3_init 1 = .ok (.invokespecial 3, 3) := by decide +kernel
theorem dX3_init_4 : decode cX3_init 4 = .ok (.aload_n 0, 1) := by decide +kernel
theorem dX3_init_5 : decode cX3_init 5 = .ok (.new 9, 3) := by decide +kernel
theorem dX3_init_8 : decode cX3_init 8 = .ok (.dup, 1) := by decide +kernel
theorem dX3_init_9 : decode cX3_init 9 = .ok (.invokespecial 11, 3) := by decide +kernel
theorem dX3_init_12 : decode cX3_init 12 = .ok (.putfield 12, 3) := by decide +kernel
theorem dX3_init_15 : decode cX3_init 15 = .ok (.aload_n 0, 1) := by decide +kernel
theorem dX3_init_16 : decode cX3_init 16 = .ok (.new 18, 3) := by decide +kernel
theorem dX3_init_19 : decode cX3_init 19 = .ok (.dup, 1) := by decide +kernel
theorem dX3_init_20 : decode cX3_init 20 = .ok (.invokespecial 20, 3) := by decide +kernel
theorem dX3_init_23 : decode cX3_init 23 = .ok (.putfield 21, 3) := by decide +kernel
theorem dX3_init_26 : decode cX3_init 26 = .ok (.aload_n 0, 1) := by decide +kernel
theorem dX3_init_27 : decode cX3_init 27 = .ok (.new 25, 3) := by decide +kernel
theorem dX3_init_30 : decode cX3_init 30 = .ok (.dup, 1) := by decide +kernel
theorem dX3_init_31 : decode cX3_init 31 = .ok (.invokespecial 27, 3) := by decide +kernel
theorem dX3_init_34 : decode cX3_init 34 = .ok (.putfield 28, 3) := by decide +kernel
theorem dX3_init_37 : decode cX3_init 37 = .ok (.return_, 1) := by decide +kernel
theorem dX3_clear_0 : decode cX3_clear 0 = .ok (.aload_n 0, 1) := by decide +kernel
theorem dX3_clear_1 : decode cX3_clear 1 = .ok (.iconst 0, 1) := by decide +kernel
theorem dX3_clear_2 : decode cX3_clear 2 = .ok (.putfield 32, 3) := by decide +kernel
theorem dX3_clear_5 : decode cX3_clear 5 = .ok (.aload_n 0, 1) := by decide +kernel
theorem dX3_clear_6 : decode cX3_clear 6 = .ok (.getfield 12, 3) := by decide +kernel
theorem dX3_clear_9 : decode cX3_clear 9 = .ok (.iconst 0, 1) := by decide +kernel
theorem dX3_clear_10 : decode cX3_clear 10 = .ok (.putfield 36, 3) := by decide +kernel
theorem dX3_clear_13 : decode cX3_clear 13 = .ok (.aload_n 0, 1) := by decide +kernel
theorem dX3_clear_14 : decode cX3_clear 14 = .ok (.getfield 21, 3) := by decide +kernel
theorem dX3_clear_17 : decode cX3_clear 17 = .ok (.iconst 0, 1) := by decide +kernel
theorem dX3_clear_18 : decode cX3_clear 18 = .ok (.putfield 39, 3) := by decide +kernel
theorem dX3_clear_21 : decode cX3_clear 21 = .ok (.aload_n 0, 1) := by decide +kernel
theorem dX3_clear_22 : decode cX3_clear 22 = .ok (.getfield 21, 3) := by decide +kernel
theorem dX3_clear_25 : decode cX3_clear 25 = .ok (.iconst 0, 1) := by decide +kernel
theorem dX3_clear_26 : decode cX3_clear 26 = .ok (.putfield 40, 3) := by decide +kernel
theorem dX3_clear_29 : decode cX3_clear 29 = .ok (.aload_n 0, 1) := by decide +kernel
theorem dX3_clear_30 : decode cX3_clear 30 = .ok (.getfield 28, 3) := by decide +kernel
theorem dX3_clear_33 : decode cX3_clear 33 = .ok (.iconst 0, 1) := by decide +kernel
theorem dX3_clear_34 : decode cX3_clear 34 = .ok (.putfield 43, 3) := by decide +kernel
theorem dX3_clear_37 : decode cX3_clear 37 = .ok (.return_, 1) := by decide +kernel
set_option maxRecDepth 20000 in
theorem ggX3_endOneNight_X6_justifiedSorts : GoodIn wsX3_endOneNight wsX6_justifiedSorts := goodIn_r _ [10, 11, 12, 13, 9, 14, 15, 16, 17, 18, 19, 20, 21, 22, 23, 24, 25, 26, 27, 28, 29, 30, 31, 32, 33, 34, 35, 36, 37, 105, 106, 107, 108, 109] (by decide +kernel) (by decide +kernel)
set_option maxRecDepth 20000 in
theorem gX3_endOneNight_X6_justifiedSorts : GoodIn wsX3_endOneNight (wsV RX3 44 RX6 yX6_justifiedSorts wsX6_justifiedSorts) := goodIn_app (goodIn_of _ (by decide +kernel)) ggX3_endOneNight_X6_justifiedSorts
set_option maxRecDepth 20000 in
theorem ggX3_endOneNight_X6_costIn : GoodIn wsX3_endOneNight wsX6_costIn := goodIn_r _ [41, 18, 19, 20, 9, 21, 22, 23, 24, 25, 26, 27, 28, 29, 30, 31, 32, 33, 34, 105, 106, 107, 108, 109] (by decide +kernel) (by decide +kernel)
set_option maxRecDepth 20000 in
theorem gX3_endOneNight_X6_costIn : GoodIn wsX3_endOneNight (wsV RX3 48 RX6 yX6_costIn wsX6_costIn) := goodIn_app (goodIn_of _ (by decide +kernel)) ggX3_endOneNight_X6_costIn
set_option maxRecDepth 20000 in
theorem ggX3_endOneNight_X3_workOf : GoodIn wsX3_endOneNight wsX3_workOf := goodIn_r _ [46, 3, 47, 48, 5, 2, 49, 50, 51, 52, 53, 54, 55, 56, 57, 58, 59, 60, 61, 62, 63, 64, 65, 66, 67, 68, 69, 70, 71, 72, 73, 74, 75, 76, 77, 78, 79, 80, 81, 82, 83, 84, 85, 86, 87, 88, 97, 98, 99, 100, 101, 102, 103, 104, 110, 111, 112, 113, 114, 115, 116, 117] (by decide +kernel) (by decide +kernel)
set_option maxRecDepth 20000 in
theorem gX3_endOneNight_X3_workOf : GoodIn wsX3_endOneNight (wsV RX3 51 RX3 yX3_workOf wsX3_workOf) := goodIn_app (goodIn_of _ (by decide +kernel)) ggX3_endOneNight_X3_workOf
set_option maxRecDepth 20000 in
theorem ggX3_endOneNight_X5_growOlder : GoodIn wsX3_endOneNight wsX5_growOlder := goodIn_r _ [92, 54, 55, 76, 57, 93, 94, 27, 95, 96, 59, 60, 52, 61, 62, 63, 64, 65, 66, 67, 110, 111, 112, 113, 114, 115, 116, 117] (by decide +kernel) (by decide +kernel)
set_option maxRecDepth 20000 in
theorem gX3_endOneNight_X5_growOlder : GoodIn wsX3_endOneNight (wsV RX3 55 RX5 yX5_growOlder wsX5_growOlder) := goodIn_app (goodIn_of _ (by decide +kernel)) ggX3_endOneNight_X5_growOlder
theorem dX3_endOneNight_0 : decode cX3_endOneNight 0 = .ok (.aload_n 0, 1) := by decide +kernel
theorem dX3_endOneNight_1 : decode cX3_endOneNight 1 = .ok (.getfield 12, 3) := by decide +kernel
theorem dX3_endOneNight_4 : decode cX3_endOneNight 4 = .ok (.aload_n 0, 1) := by decide +kernel
theorem dX3_endOneNight_5 : decode cX3_endOneNight 5 = .ok (.getfield 32, 3) := by decide +kernel
theorem dX3_endOneNight_8 : decode cX3_endOneNight 8 = .ok (.invokevirtual 44, 3) := by decide +kernel
theorem dX3_endOneNight_11 : decode cX3_endOneNight 11 = .ok (.istore_n 1, 1) := by decide +kernel
theorem dX3_endOneNight_12 : decode cX3_endOneNight 12 = .ok (.aload_n 0, 1) := by decide +kernel
theorem dX3_endOneNight_13 : decode cX3_endOneNight 13 = .ok (.getfield 12, 3) := by decide +kernel
theorem dX3_endOneNight_16 : decode cX3_endOneNight 16 = .ok (.aload_n 0, 1) := by decide +kernel
theorem dX3_endOneNight_17 : decode cX3_endOneNight 17 = .ok (.getfield 32, 3) := by decide +kernel
theorem dX3_endOneNight_20 : decode cX3_endOneNight 20 = .ok (.invokevirtual 48, 3) := by decide +kernel
theorem dX3_endOneNight_23 : decode cX3_endOneNight 23 = .ok (.istore_n 2, 1) := by decide +kernel
theorem dX3_endOneNight_24 : decode cX3_endOneNight 24 = .ok (.iconst 0, 1) := by decide +kernel
theorem dX3_endOneNight_25 : decode cX3_endOneNight 25 = .ok (.istore_n 3, 1) := by decide +kernel
theorem dX3_endOneNight_26 : decode cX3_endOneNight 26 = .ok (.iconst 0, 1) := by decide +kernel
theorem dX3_endOneNight_27 : decode cX3_endOneNight 27 = .ok (.istore 4, 2) := by decide +kernel
theorem dX3_endOneNight_29 : decode cX3_endOneNight 29 = .ok (.iload 4, 2) := by decide +kernel
theorem dX3_endOneNight_31 : decode cX3_endOneNight 31 = .ok (.aload_n 0, 1) := by decide +kernel
theorem dX3_endOneNight_32 : decode cX3_endOneNight 32 = .ok (.getfield 21, 3) := by decide +kernel
theorem dX3_endOneNight_35 : decode cX3_endOneNight 35 = .ok (.getfield 39, 3) := by decide +kernel
theorem dX3_endOneNight_38 : decode cX3_endOneNight 38 = .ok (.if_icmp .ge 20, 3) := by decide +kernel
theorem dX3_endOneNight_41 : decode cX3_endOneNight 41 = .ok (.iload_n 3, 1) := by decide +kernel
theorem dX3_endOneNight_42 : decode cX3_endOneNight 42 = .ok (.aload_n 0, 1) := by decide +kernel
theorem dX3_endOneNight_43 : decode cX3_endOneNight 43 = .ok (.iload 4, 2) := by decide +kernel
theorem dX3_endOneNight_45 : decode cX3_endOneNight 45 = .ok (.iload_n 1, 1) := by decide +kernel
theorem dX3_endOneNight_46 : decode cX3_endOneNight 46 = .ok (.iload_n 2, 1) := by decide +kernel
theorem dX3_endOneNight_47 : decode cX3_endOneNight 47 = .ok (.invokevirtual 51, 3) := by decide +kernel
theorem dX3_endOneNight_50 : decode cX3_endOneNight 50 = .ok (.iadd, 1) := by decide +kernel
theorem dX3_endOneNight_51 : decode cX3_endOneNight 51 = .ok (.istore_n 3, 1) := by decide +kernel
theorem dX3_endOneNight_52 : decode cX3_endOneNight 52 = .ok (.iinc 4 1, 3) := by decide +kernel
theorem dX3_endOneNight_55 : decode cX3_endOneNight 55 = .ok (.goto (-26), 3) := by decide +kernel
theorem dX3_endOneNight_58 : decode cX3_endOneNight 58 = .ok (.aload_n 0, 1) := by decide +kernel
theorem dX3_endOneNight_59 : decode cX3_endOneNight 59 = .ok (.dup, 1) := by decide +kernel
theorem dX3_endOneNight_60 : decode cX3_endOneNight 60 = .ok (.getfield 32, 3) := by decide +kernel
theorem dX3_endOneNight_63 : decode cX3_endOneNight 63 = .ok (.iconst 1, 1) := by decide +kernel
theorem dX3_endOneNight_64 : decode cX3_endOneNight 64 = .ok (.iadd, 1) := by decide +kernel
theorem dX3_endOneNight_65 : decode cX3_endOneNight 65 = .ok (.putfield 32, 3) := by decide +kernel
theorem dX3_endOneNight_68 : decode cX3_endOneNight 68 = .ok (.aload_n 0, 1) := by decide +kernel
theorem dX3_endOneNight_69 : decode cX3_endOneNight 69 = .ok (.getfield 28, 3) := by decide +kernel
theorem dX3_endOneNight_72 : decode cX3_endOneNight 72 = .ok (.aload_n 0, 1) := by decide +kernel
theorem dX3_endOneNight_73 : decode cX3_endOneNight 73 = .ok (.getfield 32, 3) := by decide +kernel
theorem dX3_endOneNight_76 : decode cX3_endOneNight 76 = .ok (.invokevirtual 55, 3) := by decide +kernel
theorem dX3_endOneNight_79 : decode cX3_endOneNight 79 = .ok (.iload_n 3, 1) := by decide +kernel
theorem dX3_endOneNight_80 : decode cX3_endOneNight 80 = .ok (.ireturn, 1) := by decide +kernel
set_option maxRecDepth 20000 in
theorem ggX3_workOf_X5_withMostAnger : GoodIn wsX3_workOf wsX5_withMostAnger := goodIn_r _ [10, 11, 12, 13, 14, 54, 55, 56, 57, 58, 59, 60, 61] (by decide +kernel) (by decide +kernel)
set_option maxRecDepth 20000 in
theorem gX3_workOf_X5_withMostAnger : GoodIn wsX3_workOf (wsV RX3 66 RX5 yX5_withMostAnger wsX5_withMostAnger) := goodIn_app (goodIn_of _ (by decide +kernel)) ggX3_workOf_X5_withMostAnger
set_option maxRecDepth 20000 in
theorem ggX3_workOf_X5_close : GoodIn wsX3_workOf wsX5_close := goodIn_r _ [18, 12, 19, 20, 21, 22, 23, 9, 24, 11, 54, 55, 56, 57, 58, 59, 60, 61] (by decide +kernel) (by decide +kernel)
set_option maxRecDepth 20000 in
theorem gX3_workOf_X5_close : GoodIn wsX3_workOf (wsV RX3 69 RX5 yX5_close wsX5_close) := goodIn_app (goodIn_of _ (by decide +kernel)) ggX3_workOf_X5_close
set_option maxRecDepth 20000 in
theorem ggX3_workOf_X5_oldestToDismiss : GoodIn wsX3_workOf wsX5_oldestToDismiss := goodIn_r _ [28, 29, 30, 31, 9, 32, 11, 12, 33, 54, 55, 56, 57, 58, 59, 60, 61] (by decide +kernel) (by decide +kernel)
set_option maxRecDepth 20000 in
theorem gX3_workOf_X5_oldestToDismiss : GoodIn wsX3_workOf (wsV RX3 73 RX5 yX5_oldestToDismiss wsX5_oldestToDismiss) := goodIn_app (goodIn_of _ (by decide +kernel)) ggX3_workOf_X5_oldestToDismiss
set_option maxRecDepth 20000 in
theorem ggX3_workOf_X8_burn : GoodIn wsX3_workOf wsX8_burn := goodIn_r _ [38, 39, 40, 41, 42, 43, 37, 44, 45, 50, 51, 52, 53] (by decide +kernel) (by decide +kernel)
set_option maxRecDepth 20000 in
theorem gX3_workOf_X8_burn : GoodIn wsX3_workOf (wsV RX3 76 RX8 yX8_burn wsX8_burn) := goodIn_app (goodIn_of _ (by decide +kernel)) ggX3_workOf_X8_burn
theorem dX3_workOf_0 : decode cX3_workOf 0 = .ok (.iconst 1, 1) := by decide +kernel
theorem dX3_workOf_1 : decode cX3_workOf 1 = .ok (.aload_n 0, 1) := by decide +kernel
theorem dX3_workOf_2 : decode cX3_workOf 2 = .ok (.getfield 21, 3) := by decide +kernel
theorem dX3_workOf_5 : decode cX3_workOf 5 = .ok (.getfield 59, 3) := by decide +kernel
theorem dX3_workOf_8 : decode cX3_workOf 8 = .ok (.iload_n 1, 1) := by decide +kernel
theorem dX3_workOf_9 : decode cX3_workOf 9 = .ok (.iaload, 1) := by decide +kernel
theorem dX3_workOf_10 : decode cX3_workOf 10 = .ok (.iconst 3, 1) := by decide +kernel
theorem dX3_workOf_11 : decode cX3_workOf 11 = .ok (.idiv, 1) := by decide +kernel
theorem dX3_workOf_12 : decode cX3_workOf 12 = .ok (.iadd, 1) := by decide +kernel
theorem dX3_workOf_13 : decode cX3_workOf 13 = .ok (.istore 4, 2) := by decide +kernel
theorem dX3_workOf_15 : decode cX3_workOf 15 = .ok (.iconst 0, 1) := by decide +kernel
theorem dX3_workOf_16 : decode cX3_workOf 16 = .ok (.istore 5, 2) := by decide +kernel
theorem dX3_workOf_18 : decode cX3_workOf 18 = .ok (.iconst 0, 1) := by decide +kernel
theorem dX3_workOf_19 : decode cX3_workOf 19 = .ok (.istore 6, 2) := by decide +kernel
theorem dX3_workOf_21 : decode cX3_workOf 21 = .ok (.iload 6, 2) := by decide +kernel
theorem dX3_workOf_23 : decode cX3_workOf 23 = .ok (.iload 4, 2) := by decide +kernel
theorem dX3_workOf_25 : decode cX3_workOf 25 = .ok (.if_icmp .ge 105, 3) := by decide +kernel
theorem dX3_workOf_28 : decode cX3_workOf 28 = .ok (.aload_n 0, 1) := by decide +kernel
theorem dX3_workOf_29 : decode cX3_workOf 29 = .ok (.getfield 21, 3) := by decide +kernel
theorem dX3_workOf_32 : decode cX3_workOf 32 = .ok (.getfield 63, 3) := by decide +kernel
theorem dX3_workOf_35 : decode cX3_workOf 35 = .ok (.iload_n 1, 1) := by decide +kernel
theorem dX3_workOf_36 : decode cX3_workOf 36 = .ok (.iaload, 1) := by decide +kernel
theorem dX3_workOf_37 : decode cX3_workOf 37 = .ok (.iload_n 3, 1) := by decide +kernel
theorem dX3_workOf_38 : decode cX3_workOf 38 = .ok (.if_icmp .lt 92, 3) := by decide +kernel
theorem dX3_workOf_41 : decode cX3_workOf 41 = .ok (.aload_n 0, 1) := by decide +kernel
theorem dX3_workOf_42 : decode cX3_workOf 42 = .ok (.getfield 28, 3) := by decide +kernel
theorem dX3_workOf_45 : decode cX3_workOf 45 = .ok (.iload_n 2, 1) := by decide +kernel
theorem dX3_workOf_46 : decode cX3_workOf 46 = .ok (.invokevirtual 66, 3) := by decide +kernel
theorem dX3_workOf_49 : decode cX3_workOf 49 = .ok (.istore 7, 2) := by decide +kernel
theorem dX3_workOf_51 : decode cX3_workOf 51 = .ok (.iload 7, 2) := by decide +kernel
theorem dX3_workOf_53 : decode cX3_workOf 53 = .ok (.iconst (-1), 1) := by decide +kernel
theorem dX3_workOf_54 : decode cX3_workOf 54 = .ok (.if_icmp .eq 24, 3) := by decide +kernel
theorem dX3_workOf_57 : decode cX3_workOf 57 = .ok (.aload_n 0, 1) := by decide +kernel
theorem dX3_workOf_58 : decode cX3_workOf 58 = .ok (.getfield 28, 3) := by decide +kernel
theorem dX3_workOf_61 : decode cX3_workOf 61 = .ok (.iload 7, 2) := by decide +kernel
theorem dX3_workOf_63 : decode cX3_workOf 63 = .ok (.iconst 1, 1) := by decide +kernel
theorem dX3_workOf_64 : decode cX3_workOf 64 = .ok (.aload_n 0, 1) := by decide +kernel
theorem dX3_workOf_65 : decode cX3_workOf 65 = .ok (.getfield 32, 3) := by decide +kernel
theorem dX3_workOf_68 : decode cX3_workOf 68 = .ok (.iload_n 1, 1) := by decide +kernel
theorem dX3_workOf_69 : decode cX3_workOf 69 = .ok (.invokevirtual 69, 3) := by decide +kernel
theorem dX3_workOf_72 : decode cX3_workOf 72 = .ok (.iinc 5 1, 3) := by decide +kernel
theorem dX3_workOf_75 : decode cX3_workOf 75 = .ok (.goto 40, 3) := by decide +kernel
theorem dX3_workOf_78 : decode cX3_workOf 78 = .ok (.aload_n 0, 1) := by decide +kernel
theorem dX3_workOf_79 : decode cX3_workOf 79 = .ok (.getfield 28, 3) := by decide +kernel
theorem dX3_workOf_82 : decode cX3_workOf 82 = .ok (.aload_n 0, 1) := by decide +kernel
theorem dX3_workOf_83 : decode cX3_workOf 83 = .ok (.getfield 32, 3) := by decide +kernel
theorem dX3_workOf_86 : decode cX3_workOf 86 = .ok (.invokevirtual 73, 3) := by decide +kernel
theorem dX3_workOf_89 : decode cX3_workOf 89 = .ok (.istore 7, 2) := by decide +kernel
theorem dX3_workOf_91 : decode cX3_workOf 91 = .ok (.iload 7, 2) := by decide +kernel
theorem dX3_workOf_93 : decode cX3_workOf 93 = .ok (.iconst (-1), 1) := by decide +kernel
theorem dX3_workOf_94 : decode cX3_workOf 94 = .ok (.if_icmp .ne 6, 3) := by decide +kernel
theorem dX3_workOf_97 : decode cX3_workOf 97 = .ok (.goto 33, 3) := by decide +kernel
theorem dX3_workOf_100 : decode cX3_workOf 100 = .ok (.aload_n 0, 1) := by decide +kernel
theorem dX3_workOf_101 : decode cX3_workOf 101 = .ok (.getfield 28, 3) := by decide +kernel
theorem dX3_workOf_104 : decode cX3_workOf 104 = .ok (.iload 7, 2) := by decide +kernel
theorem dX3_workOf_106 : decode cX3_workOf 106 = .ok (.iconst 2, 1) := by decide +kernel
theorem dX3_workOf_107 : decode cX3_workOf 107 = .ok (.aload_n 0, 1) := by decide +kernel
theorem dX3_workOf_108 : decode cX3_workOf 108 = .ok (.getfield 32, 3) := by decide +kernel
theorem dX3_workOf_111 : decode cX3_workOf 111 = .ok (.iload_n 1, 1) := by decide +kernel
theorem dX3_workOf_112 : decode cX3_workOf 112 = .ok (.invokevirtual 69, 3) := by decide +kernel
theorem dX3_workOf_115 : decode cX3_workOf 115 = .ok (.aload_n 0, 1) := by decide +kernel
theorem dX3_workOf_116 : decode cX3_workOf 116 = .ok (.getfield 21, 3) := by decide +kernel
theorem dX3_workOf_119 : decode cX3_workOf 119 = .ok (.iload_n 1, 1) := by decide +kernel
theorem dX3_workOf_120 : decode cX3_workOf 120 = .ok (.iload_n 3, 1) := by decide +kernel
theorem dX3_workOf_121 : decode cX3_workOf 121 = .ok (.invokevirtual 76, 3) := by decide +kernel
theorem dX3_workOf_124 : decode cX3_workOf 124 = .ok (.iinc 6 1, 3) := by decide +kernel
theorem dX3_workOf_127 : decode cX3_workOf 127 = .ok (.goto (-106), 3) := by decide +kernel
theorem dX3_workOf_130 : decode cX3_workOf 130 = .ok (.iload 5, 2) := by decide +kernel
theorem dX3_workOf_132 : decode cX3_workOf 132 = .ok (.ireturn, 1) := by decide +kernel
set_option maxRecDepth 20000 in
theorem ggX3_copyFrom_X6_copyFrom : GoodIn wsX3_copyFrom wsX6_copyFrom := goodIn_r _ [9, 10, 11, 12, 13, 14, 15, 16, 17, 18, 47, 48, 49, 50, 51] (by decide +kernel) (by decide +kernel)
set_option maxRecDepth 20000 in
theorem gX3_copyFrom_X6_copyFrom : GoodIn wsX3_copyFrom (wsV RX3 80 RX6 yX6_copyFrom wsX6_copyFrom) := goodIn_app (goodIn_of _ (by decide +kernel)) ggX3_copyFrom_X6_copyFrom
set_option maxRecDepth 20000 in
theorem ggX3_copyFrom_X8_copyFrom : GoodIn wsX3_copyFrom wsX8_copyFrom := goodIn_r _ [23, 24, 25, 26, 27, 16, 17, 18, 28, 52, 53, 54, 55] (by decide +kernel) (by decide +kernel)
set_option maxRecDepth 20000 in
theorem gX3_copyFrom_X8_copyFrom : GoodIn wsX3_copyFrom (wsV RX3 84 RX8 yX8_copyFrom wsX8_copyFrom) := goodIn_app (goodIn_of _ (by decide +kernel)) ggX3_copyFrom_X8_copyFrom
set_option maxRecDepth 20000 in
theorem ggX3_copyFrom_X5_copyFrom : GoodIn wsX3_copyFrom wsX5_copyFrom := goodIn_r _ [33, 34, 35, 36, 16, 17, 18, 37, 38, 39, 40, 41, 42, 56, 57, 58, 59, 60, 61, 62, 63] (by decide +kernel) (by decide +kernel)
set_option maxRecDepth 20000 in
theorem gX3_copyFrom_X5_copyFrom : GoodIn wsX3_copyFrom (wsV RX3 87 RX5 yX5_copyFrom wsX5_copyFrom) := goodIn_app (goodIn_of _ (by decide +kernel)) ggX3_copyFrom_X5_copyFrom
theorem dX3_copyFrom_0 : decode cX3_copyFrom 0 = .ok (.aload_n 0, 1) := by decide +kernel
theorem dX3_copyFrom_1 : decode cX3_copyFrom 1 = .ok (.aload_n 1, 1) := by decide +kernel
theorem dX3_copyFrom_2 : decode cX3_copyFrom 2 = .ok (.getfield 32, 3) := by decide +kernel
theorem dX3_copyFrom_5 : decode cX3_copyFrom 5 = .ok (.putfield 32, 3) := by decide +kernel
theorem dX3_copyFrom_8 : decode cX3_copyFrom 8 = .ok (.aload_n 0, 1) := by decide +kernel
theorem dX3_copyFrom_9 : decode cX3_copyFrom 9 = .ok (.getfield 12, 3) := by decide +kernel
theorem dX3_copyFrom_12 : decode cX3_copyFrom 12 = .ok (.aload_n 1, 1) := by decide +kernel
theorem dX3_copyFrom_13 : decode cX3_copyFrom 13 = .ok (.getfield 12, 3) := by decide +kernel
theorem dX3_copyFrom_16 : decode cX3_copyFrom 16 = .ok (.invokevirtual 80, 3) := by decide +kernel
theorem dX3_copyFrom_19 : decode cX3_copyFrom 19 = .ok (.aload_n 0, 1) := by decide +kernel
theorem dX3_copyFrom_20 : decode cX3_copyFrom 20 = .ok (.getfield 21, 3) := by decide +kernel
theorem dX3_copyFrom_23 : decode cX3_copyFrom 23 = .ok (.aload_n 1, 1) := by decide +kernel
theorem dX3_copyFrom_24 : decode cX3_copyFrom 24 = .ok (.getfield 21, 3) := by decide +kernel
theorem dX3_copyFrom_27 : decode cX3_copyFrom 27 = .ok (.invokevirtual 84, 3) := by decide +kernel
theorem dX3_copyFrom_30 : decode cX3_copyFrom 30 = .ok (.aload_n 0, 1) := by decide +kernel
theorem dX3_copyFrom_31 : decode cX3_copyFrom 31 = .ok (.getfield 28, 3) := by decide +kernel
theorem dX3_copyFrom_34 : decode cX3_copyFrom 34 = .ok (.aload_n 1, 1) := by decide +kernel
theorem dX3_copyFrom_35 : decode cX3_copyFrom 35 = .ok (.getfield 28, 3) := by decide +kernel
theorem dX3_copyFrom_38 : decode cX3_copyFrom 38 = .ok (.invokevirtual 87, 3) := by decide +kernel
theorem dX3_copyFrom_41 : decode cX3_copyFrom 41 = .ok (.return_, 1) := by decide +kernel
