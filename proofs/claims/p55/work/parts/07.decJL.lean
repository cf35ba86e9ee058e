theorem dJx00060_init_a7421_0 : decode cJx00060_init_a7421 0 = .ok (.aload_n 0, 1) := by decide +kernel
theorem dJx00060_init_a7421_1 : decode cJx00060_init_a7421 1 = .ok (.aload_n 1, 1) := by decide +kernel
theorem dJx00060_init_a7421_2 : decode cJx00060_init_a7421 2 = .ok (.invokespecial 7, 3) := by decide +kernel
theorem dJx00060_init_a7421_5 : decode cJx00060_init_a7421 5 = .ok (.return_, 1) := by decide +kernel
set_option maxRecDepth 20000 in
theorem ggJ0_charAt_5068e_J0_isLatin1_aae02 : GoodIn wsJ0_charAt_5068e wsJ0_isLatin1_aae02 := goodIn_r _ [6, 7, 8, 38, 39] (by decide +kernel) (by decide +kernel)
set_option maxRecDepth 20000 in
theorem gJ0_charAt_5068e_J0_isLatin1_aae02 : GoodIn wsJ0_charAt_5068e (wsV RJ0 492 RJ0 yJ0_isLatin1_aae02 wsJ0_isLatin1_aae02) := goodIn_app (goodIn_of _ (by decide +kernel)) ggJ0_charAt_5068e_J0_isLatin1_aae02
set_option maxRecDepth 20000 in
theorem ggJ0_charAt_5068e_J1_charAt_3b067 : GoodIn wsJ0_charAt_5068e wsJ1_charAt_3b067 := goodIn_r _ [12, 13, 14, 5, 15, 16, 17, 18, 19, 20] (by decide +kernel) (by decide +kernel)
set_option maxRecDepth 20000 in
theorem gJ0_charAt_5068e_J1_charAt_3b067 : GoodIn wsJ0_charAt_5068e (va_wsS RJ0 495 yJ1_charAt_3b067 wsJ1_charAt_3b067) := goodIn_app (goodIn_of _ (by decide +kernel)) ggJ0_charAt_5068e_J1_charAt_3b067
set_option maxRecDepth 20000 in
theorem ggJ0_charAt_5068e_J2_charAt_3b067 : GoodIn wsJ0_charAt_5068e wsJ2_charAt_3b067 := goodIn_r _ [24, 25, 26, 23, 27, 28, 29, 30, 31, 14, 5, 15, 16, 17, 18, 19, 20, 32, 33, 34, 35, 36, 37] (by decide +kernel) (by decide +kernel)
set_option maxRecDepth 20000 in
theorem gJ0_charAt_5068e_J2_charAt_3b067 : GoodIn wsJ0_charAt_5068e (va_wsS RJ0 498 yJ2_charAt_3b067 wsJ2_charAt_3b067) := goodIn_app (goodIn_of _ (by decide +kernel)) ggJ0_charAt_5068e_J2_charAt_3b067
theorem dJ0_charAt_5068e_0 : decode cJ0_charAt_5068e 0 = .ok (.aload_n 0, 1) := by decide +kernel
theorem dJ0_charAt_5068e_1 : decode cJ0_charAt_5068e 1 = .ok (.invokevirtual 492, 3) := by decide +kernel
theorem dJ0_charAt_5068e_4 : decode cJ0_charAt_5068e 4 = .ok (.ifCond .eq 12, 3) := by decide +kernel
theorem dJ0_charAt_5068e_7 : decode cJ0_charAt_5068e 7 = .ok (.aload_n 0, 1) := by decide +kernel
theorem dJ0_charAt_5068e_8 : decode cJ0_charAt_5068e 8 = .ok (.getfield 9, 3) := by decide +kernel
theorem dJ0_charAt_5068e_11 : decode cJ0_charAt_5068e 11 = .ok (.iload_n 1, 1) := by decide +kernel
theorem dJ0_charAt_5068e_12 : decode cJ0_charAt_5068e 12 = .ok (.invokestatic 495, 3) := by decide +kernel
theorem dJ0_charAt_5068e_15 : decode cJ0_charAt_5068e 15 = .ok (.ireturn, 1) := by decide +kernel
theorem dJ0_charAt_5068e_16 : decode cJ0_charAt_5068e 16 = .ok (.aload_n 0, 1) := by decide +kernel
theorem dJ0_charAt_5068e_17 : decode cJ0_charAt_5068e 17 = .ok (.getfield 9, 3) := by decide +kernel
theorem dJ0_charAt_5068e_20 : decode cJ0_charAt_5068e 20 = .ok (.iload_n 1, 1) := by decide +kernel
theorem dJ0_charAt_5068e_21 : decode cJ0_charAt_5068e 21 = .ok (.invokestatic 498, 3) := by decide +kernel
theorem dJ0_charAt_5068e_24 : decode cJ0_charAt_5068e 24 = .ok (.ireturn, 1) := by decide +kernel
theorem dJ0_isLatin1_aae02_0 : decode cJ0_isLatin1_aae02 0 = .ok (.getstatic 38, 3) := by decide +kernel
theorem dJ0_isLatin1_aae02_3 : decode cJ0_isLatin1_aae02 3 = .ok (.ifCond .eq 14, 3) := by decide +kernel
theorem dJ0_isLatin1_aae02_6 : decode cJ0_isLatin1_aae02 6 = .ok (.aload_n 0, 1) := by decide +kernel
theorem dJ0_isLatin1_aae02_7 : decode cJ0_isLatin1_aae02 7 = .ok (.getfield 15, 3) := by decide +kernel
theorem dJ0_isLatin1_aae02_10 : decode cJ0_isLatin1_aae02 10 = .ok (.ifCond .ne 7, 3) := by decide +kernel
theorem dJ0_isLatin1_aae02_13 : decode cJ0_isLatin1_aae02 13 = .ok (.iconst 1, 1) := by decide +kernel
theorem dJ0_isLatin1_aae02_14 : decode cJ0_isLatin1_aae02 14 = .ok (.goto 4, 3) := by decide +kernel
theorem dJ0_isLatin1_aae02_17 : decode cJ0_isLatin1_aae02 17 = .ok (.iconst 0, 1) := by decide +kernel
theorem dJ0_isLatin1_aae02_18 : decode cJ0_isLatin1_aae02 18 = .ok (.ireturn, 1) := by decide +kernel
set_option maxRecDepth 20000 in
theorem ggJ0_checkIndex_df160_J3_checkIndex_8e157 : GoodIn wsJ0_checkIndex_df160 wsJ3_checkIndex_8e157 := goodIn_r _ [5] (by decide +kernel) (by decide +kernel)
set_option maxRecDepth 20000 in
theorem gJ0_checkIndex_df160_J3_checkIndex_8e157 : GoodIn wsJ0_checkIndex_df160 (va_wsS RJ0 1059 yJ3_checkIndex_8e157 wsJ3_checkIndex_8e157) := goodIn_app (goodIn_of _ (by decide +kernel)) ggJ0_checkIndex_df160_J3_checkIndex_8e157
theorem dJ0_checkIndex_df160_0 : decode cJ0_checkIndex_df160 0 = .ok (.iload_n 0, 1) := by decide +kernel
theorem dJ0_checkIndex_df160_1 : decode cJ0_checkIndex_df160 1 = .ok (.iload_n 1, 1) := by decide +kernel
theorem dJ0_checkIndex_df160_2 : decode cJ0_checkIndex_df160 2 = .ok (.getstatic 1053, 3) := by decide +kernel
theorem dJ0_checkIndex_df160_5 : decode cJ0_checkIndex_df160 5 = .ok (.invokestatic 1059, 3) := by decide +kernel
theorem dJ0_checkIndex_df160_8 : decode cJ0_checkIndex_df160 8 = .ok (.pop, 1) := by decide +kernel
theorem dJ0_checkIndex_df160_9 : decode cJ0_checkIndex_df160 9 = .ok (.return_, 1) := by decide +kernel
set_option maxRecDepth 20000 in
theorem ggJ1_charAt_3b067_J0_checkIndex_df160 : GoodIn wsJ1_charAt_3b067 wsJ0_checkIndex_df160 := goodIn_r _ [4, 5, 6, 7, 8, 9] (by decide +kernel) (by decide +kernel)
set_option maxRecDepth 20000 in
theorem gJ1_charAt_3b067_J0_checkIndex_df160 : GoodIn wsJ1_charAt_3b067 (va_wsS RJ1 9 yJ0_checkIndex_df160 wsJ0_checkIndex_df160) := goodIn_app (goodIn_of _ (by decide +kernel)) ggJ1_charAt_3b067_J0_checkIndex_df160
theorem dJ1_charAt_3b067_0 : decode cJ1_charAt_3b067 0 = .ok (.iload_n 1, 1) := by decide +kernel
theorem dJ1_charAt_3b067_1 : decode cJ1_charAt_3b067 1 = .ok (.aload_n 0, 1) := by decide +kernel
theorem dJ1_charAt_3b067_2 : decode cJ1_charAt_3b067 2 = .ok (.arraylength, 1) := by decide +kernel
theorem dJ1_charAt_3b067_3 : decode cJ1_charAt_3b067 3 = .ok (.invokestatic 9, 3) := by decide +kernel
theorem dJ1_charAt_3b067_6 : decode cJ1_charAt_3b067 6 = .ok (.aload_n 0, 1) := by decide +kernel
theorem dJ1_charAt_3b067_7 : decode cJ1_charAt_3b067 7 = .ok (.iload_n 1, 1) := by decide +kernel
theorem dJ1_charAt_3b067_8 : decode cJ1_charAt_3b067 8 = .ok (.baload, 1) := by decide +kernel
theorem dJ1_charAt_3b067_9 : decode cJ1_charAt_3b067 9 = .ok (.sipush 255, 3) := by decide +kernel
theorem dJ1_charAt_3b067_12 : decode cJ1_charAt_3b067 12 = .ok (.iand, 1) := by decide +kernel
theorem dJ1_charAt_3b067_13 : decode cJ1_charAt_3b067 13 = .ok (.i2c, 1) := by decide +kernel
theorem dJ1_charAt_3b067_14 : decode cJ1_charAt_3b067 14 = .ok (.ireturn, 1) := by decide +kernel
set_option maxRecDepth 20000 in
theorem ggJ2_getChar_3b067_J2_length_9d52b : GoodIn wsJ2_getChar_3b067 wsJ2_length_9d52b := goodIn_r _ [7] (by decide +kernel) (by decide +kernel)
set_option maxRecDepth 20000 in
theorem gJ2_getChar_3b067_J2_length_9d52b : GoodIn wsJ2_getChar_3b067 (va_wsS RJ2 48 yJ2_length_9d52b wsJ2_length_9d52b) := goodIn_app (goodIn_of _ (by decide +kernel)) ggJ2_getChar_3b067_J2_length_9d52b
theorem dJ2_getChar_3b067_0 : decode cJ2_getChar_3b067 0 = .ok (.getstatic 44, 3) := by decide +kernel
theorem dJ2_getChar_3b067_3 : decode cJ2_getChar_3b067 3 = .ok (.ifCond .ne 25, 3) := by decide +kernel
theorem dJ2_getChar_3b067_6 : decode cJ2_getChar_3b067 6 = .ok (.iload_n 1, 1) := by decide +kernel
theorem dJ2_getChar_3b067_7 : decode cJ2_getChar_3b067 7 = .ok (.ifCond .lt 11, 3) := by decide +kernel
theorem dJ2_getChar_3b067_10 : decode cJ2_getChar_3b067 10 = .ok (.iload_n 1, 1) := by decide +kernel
theorem dJ2_getChar_3b067_11 : decode cJ2_getChar_3b067 11 = .ok (.aload_n 0, 1) := by decide +kernel
theorem dJ2_getChar_3b067_12 : decode cJ2_getChar_3b067 12 = .ok (.invokestatic 48, 3) := by decide +kernel
theorem dJ2_getChar_3b067_15 : decode cJ2_getChar_3b067 15 = .ok (.if_icmp .lt 13, 3) := by decide +kernel
theorem dJ2_getChar_3b067_18 : decode cJ2_getChar_3b067 18 = .ok (.new 52, 3) := by decide +kernel
theorem dJ2_getChar_3b067_21 : decode cJ2_getChar_3b067 21 = .ok (.dup, 1) := by decide +kernel
theorem dJ2_getChar_3b067_22 : decode cJ2_getChar_3b067 22 = .ok (.ldc 54, 2) := by decide +kernel
theorem dJ2_getChar_3b067_24 : decode cJ2_getChar_3b067 24 = .ok (.invokespecial 56, 3) := by decide +kernel
theorem dJ2_getChar_3b067_27 : decode cJ2_getChar_3b067 27 = .ok (.athrow, 1) := by decide +kernel
theorem dJ2_getChar_3b067_28 : decode cJ2_getChar_3b067 28 = .ok (.iload_n 1, 1) := by decide +kernel
theorem dJ2_getChar_3b067_29 : decode cJ2_getChar_3b067 29 = .ok (.iconst 1, 1) := by decide +kernel
theorem dJ2_getChar_3b067_30 : decode cJ2_getChar_3b067 30 = .ok (.ishl, 1) := by decide +kernel
theorem dJ2_getChar_3b067_31 : decode cJ2_getChar_3b067 31 = .ok (.istore_n 1, 1) := by decide +kernel
theorem dJ2_getChar_3b067_32 : decode cJ2_getChar_3b067 32 = .ok (.aload_n 0, 1) := by decide +kernel
theorem dJ2_getChar_3b067_33 : decode cJ2_getChar_3b067 33 = .ok (.iload_n 1, 1) := by decide +kernel
theorem dJ2_getChar_3b067_34 : decode cJ2_getChar_3b067 34 = .ok (.iinc 1 1, 3) := by decide +kernel
theorem dJ2_getChar_3b067_37 : decode cJ2_getChar_3b067 37 = .ok (.baload, 1) := by decide +kernel
theorem dJ2_getChar_3b067_38 : decode cJ2_getChar_3b067 38 = .ok (.sipush 255, 3) := by decide +kernel
theorem dJ2_getChar_3b067_41 : decode cJ2_getChar_3b067 41 = .ok (.iand, 1) := by decide +kernel
theorem dJ2_getChar_3b067_42 : decode cJ2_getChar_3b067 42 = .ok (.getstatic 59, 3) := by decide +kernel
theorem dJ2_getChar_3b067_45 : decode cJ2_getChar_3b067 45 = .ok (.ishl, 1) := by decide +kernel
theorem dJ2_getChar_3b067_46 : decode cJ2_getChar_3b067 46 = .ok (.aload_n 0, 1) := by decide +kernel
theorem dJ2_getChar_3b067_47 : decode cJ2_getChar_3b067 47 = .ok (.iload_n 1, 1) := by decide +kernel
theorem dJ2_getChar_3b067_48 : decode cJ2_getChar_3b067 48 = .ok (.baload, 1) := by decide +kernel
theorem dJ2_getChar_3b067_49 : decode cJ2_getChar_3b067 49 = .ok (.sipush 255, 3) := by decide +kernel
theorem dJ2_getChar_3b067_52 : decode cJ2_getChar_3b067 52 = .ok (.iand, 1) := by decide +kernel
theorem dJ2_getChar_3b067_53 : decode cJ2_getChar_3b067 53 = .ok (.getstatic 63, 3) := by decide +kernel
theorem dJ2_getChar_3b067_56 : decode cJ2_getChar_3b067 56 = .ok (.ishl, 1) := by decide +kernel
theorem dJ2_getChar_3b067_57 : decode cJ2_getChar_3b067 57 = .ok (.ior, 1) := by decide +kernel
theorem dJ2_getChar_3b067_58 : decode cJ2_getChar_3b067 58 = .ok (.i2c, 1) := by decide +kernel
theorem dJ2_getChar_3b067_59 : decode cJ2_getChar_3b067 59 = .ok (.ireturn, 1) := by decide +kernel
theorem dJ2_length_9d52b_0 : decode cJ2_length_9d52b 0 = .ok (.aload_n 0, 1) := by decide +kernel
theorem dJ2_length_9d52b_1 : decode cJ2_length_9d52b 1 = .ok (.arraylength, 1) := by decide +kernel
theorem dJ2_length_9d52b_2 : decode cJ2_length_9d52b 2 = .ok (.iconst 1, 1) := by decide +kernel
theorem dJ2_length_9d52b_3 : decode cJ2_length_9d52b 3 = .ok (.ishr, 1) := by decide +kernel
theorem dJ2_length_9d52b_4 : decode cJ2_length_9d52b 4 = .ok (.ireturn, 1) := by decide +kernel
set_option maxRecDepth 20000 in
theorem ggJ2_charAt_3b067_J2_checkIndex_2214a : GoodIn wsJ2_charAt_3b067 wsJ2_checkIndex_2214a := goodIn_r _ [4, 5, 6, 3, 7, 8, 9, 10, 11, 12, 13, 14, 15, 16] (by decide +kernel) (by decide +kernel)
set_option maxRecDepth 20000 in
theorem gJ2_charAt_3b067_J2_checkIndex_2214a : GoodIn wsJ2_charAt_3b067 (va_wsS RJ2 67 yJ2_checkIndex_2214a wsJ2_checkIndex_2214a) := goodIn_app (goodIn_of _ (by decide +kernel)) ggJ2_charAt_3b067_J2_checkIndex_2214a
set_option maxRecDepth 20000 in
theorem ggJ2_charAt_3b067_J2_getChar_3b067 : GoodIn wsJ2_charAt_3b067 wsJ2_getChar_3b067 := goodIn_r _ [19, 20, 21, 22, 5, 6, 3, 7] (by decide +kernel) (by decide +kernel)
set_option maxRecDepth 20000 in
theorem gJ2_charAt_3b067_J2_getChar_3b067 : GoodIn wsJ2_charAt_3b067 (va_wsS RJ2 71 yJ2_getChar_3b067 wsJ2_getChar_3b067) := goodIn_app (goodIn_of _ (by decide +kernel)) ggJ2_charAt_3b067_J2_getChar_3b067
theorem dJ2_charAt_3b067_0 : decode cJ2_charAt_3b067 0 = .ok (.iload_n 1, 1) := by decide +kernel
theorem dJ2_charAt_3b067_1 : decode cJ2_charAt_3b067 1 = .ok (.aload_n 0, 1) := by decide +kernel
theorem dJ2_charAt_3b067_2 : decode cJ2_charAt_3b067 2 = .ok (.invokestatic 67, 3) := by decide +kernel
theorem dJ2_charAt_3b067_5 : decode cJ2_charAt_3b067 5 = .ok (.aload_n 0, 1) := by decide +kernel
theorem dJ2_charAt_3b067_6 : decode cJ2_charAt_3b067 6 = .ok (.iload_n 1, 1) := by decide +kernel
theorem dJ2_charAt_3b067_7 : decode cJ2_charAt_3b067 7 = .ok (.invokestatic 71, 3) := by decide +kernel
theorem dJ2_charAt_3b067_10 : decode cJ2_charAt_3b067 10 = .ok (.ireturn, 1) := by decide +kernel
set_option maxRecDepth 20000 in
theorem ggJ2_checkIndex_2214a_J2_length_9d52b : GoodIn wsJ2_checkIndex_2214a wsJ2_length_9d52b := goodIn_r _ [4] (by decide +kernel) (by decide +kernel)
set_option maxRecDepth 20000 in
theorem gJ2_checkIndex_2214a_J2_length_9d52b : GoodIn wsJ2_checkIndex_2214a (va_wsS RJ2 48 yJ2_length_9d52b wsJ2_length_9d52b) := goodIn_app (goodIn_of _ (by decide +kernel)) ggJ2_checkIndex_2214a_J2_length_9d52b
set_option maxRecDepth 20000 in
theorem ggJ2_checkIndex_2214a_J0_checkIndex_df160 : GoodIn wsJ2_checkIndex_2214a wsJ0_checkIndex_df160 := goodIn_r _ [8, 9, 10, 11, 12, 13] (by decide +kernel) (by decide +kernel)
set_option maxRecDepth 20000 in
theorem gJ2_checkIndex_2214a_J0_checkIndex_df160 : GoodIn wsJ2_checkIndex_2214a (va_wsS RJ2 414 yJ0_checkIndex_df160 wsJ0_checkIndex_df160) := goodIn_app (goodIn_of _ (by decide +kernel)) ggJ2_checkIndex_2214a_J0_checkIndex_df160
theorem dJ2_checkIndex_2214a_0 : decode cJ2_checkIndex_2214a 0 = .ok (.iload_n 0, 1) := by decide +kernel
theorem dJ2_checkIndex_2214a_1 : decode cJ2_checkIndex_2214a 1 = .ok (.aload_n 1, 1) := by decide +kernel
theorem dJ2_checkIndex_2214a_2 : decode cJ2_checkIndex_2214a 2 = .ok (.invokestatic 48, 3) := by decide +kernel
theorem dJ2_checkIndex_2214a_5 : decode cJ2_checkIndex_2214a 5 = .ok (.invokestatic 414, 3) := by decide +kernel
theorem dJ2_checkIndex_2214a_8 : decode cJ2_checkIndex_2214a 8 = .ok (.return_, 1) := by decide +kernel
theorem dJ3_checkIndex_8e157_0 : decode cJ3_checkIndex_8e157 0 = .ok (.iload_n 0, 1) := by decide +kernel
theorem dJ3_checkIndex_8e157_1 : decode cJ3_checkIndex_8e157 1 = .ok (.ifCond .lt 8, 3) := by decide +kernel
theorem dJ3_checkIndex_8e157_4 : decode cJ3_checkIndex_8e157 4 = .ok (.iload_n 0, 1) := by decide +kernel
theorem dJ3_checkIndex_8e157_5 : decode cJ3_checkIndex_8e157 5 = .ok (.iload_n 1, 1) := by decide +kernel
theorem dJ3_checkIndex_8e157_6 : decode cJ3_checkIndex_8e157 6 = .ok (.if_icmp .lt 10, 3) := by decide +kernel
theorem dJ3_checkIndex_8e157_9 : decode cJ3_checkIndex_8e157 9 = .ok (.aload_n 2, 1) := by decide +kernel
theorem dJ3_checkIndex_8e157_10 : decode cJ3_checkIndex_8e157 10 = .ok (.iload_n 0, 1) := by decide +kernel
theorem dJ3_checkIndex_8e157_11 : decode cJ3_checkIndex_8e157 11 = .ok (.iload_n 1, 1) := by decide +kernel
theorem dJ3_checkIndex_8e157_12 : decode cJ3_checkIndex_8e157 12 = .ok (.invokestatic 95, 3) := by decide +kernel
theorem dJ3_checkIndex_8e157_15 : decode cJ3_checkIndex_8e157 15 = .ok (.athrow, 1) := by decide +kernel
theorem dJ3_checkIndex_8e157_16 : decode cJ3_checkIndex_8e157 16 = .ok (.iload_n 0, 1) := by decide +kernel
theorem dJ3_checkIndex_8e157_17 : decode cJ3_checkIndex_8e157 17 = .ok (.ireturn, 1) := by decide +kernel
theorem dL_cell_0 : decode cL_cell 0 = .ok (.ldc 7, 2) := by decide +kernel
theorem dL_cell_2 : decode cL_cell 2 = .ok (.iload_n 1, 1) := by decide +kernel
theorem dL_cell_3 : decode cL_cell 3 = .ok (.aload_n 0, 1) := by decide +kernel
theorem dL_cell_4 : decode cL_cell 4 = .ok (.arraylength, 1) := by decide +kernel
theorem dL_cell_5 : decode cL_cell 5 = .ok (.if_icmp .ge 9, 3) := by decide +kernel
theorem dL_cell_8 : decode cL_cell 8 = .ok (.aload_n 0, 1) := by decide +kernel
theorem dL_cell_9 : decode cL_cell 9 = .ok (.iload_n 1, 1) := by decide +kernel
theorem dL_cell_10 : decode cL_cell 10 = .ok (.iaload, 1) := by decide +kernel
theorem dL_cell_11 : decode cL_cell 11 = .ok (.goto 4, 3) := by decide +kernel
theorem dL_cell_14 : decode cL_cell 14 = .ok (.iconst 0, 1) := by decide +kernel
theorem dL_cell_15 : decode cL_cell 15 = .ok (.sipush 1009, 3) := by decide +kernel
theorem dL_cell_18 : decode cL_cell 18 = .ok (.iload_n 1, 1) := by decide +kernel
theorem dL_cell_19 : decode cL_cell 19 = .ok (.imul, 1) := by decide +kernel
theorem dL_cell_20 : decode cL_cell 20 = .ok (.iadd, 1) := by decide +kernel
theorem dL_cell_21 : decode cL_cell 21 = .ok (.imul, 1) := by decide +kernel
theorem dL_cell_22 : decode cL_cell 22 = .ok (.sipush 12345, 3) := by decide +kernel
theorem dL_cell_25 : decode cL_cell 25 = .ok (.iadd, 1) := by decide +kernel
theorem dL_cell_26 : decode cL_cell 26 = .ok (.istore_n 2, 1) := by decide +kernel
theorem dL_cell_27 : decode cL_cell 27 = .ok (.iload_n 2, 1) := by decide +kernel
theorem dL_cell_28 : decode cL_cell 28 = .ok (.iload_n 2, 1) := by decide +kernel
theorem dL_cell_29 : decode cL_cell 29 = .ok (.bipush 13, 2) := by decide +kernel
theorem dL_cell_31 : decode cL_cell 31 = .ok (.iushr, 1) := by decide +kernel
theorem dL_cell_32 : decode cL_cell 32 = .ok (.ixor, 1) := by decide +kernel
theorem dL_cell_33 : decode cL_cell 33 = .ok (.ldc 8, 2) := by decide +kernel
theorem dL_cell_35 : decode cL_cell 35 = .ok (.imul, 1) := by decide +kernel
theorem dL_cell_36 : decode cL_cell 36 = .ok (.istore_n 2, 1) := by decide +kernel
theorem dL_cell_37 : decode cL_cell 37 = .ok (.iload_n 2, 1) := by decide +kernel
theorem dL_cell_38 : decode cL_cell 38 = .ok (.iload_n 2, 1) := by decide +kernel
theorem dL_cell_39 : decode cL_cell 39 = .ok (.bipush 16, 2) := by decide +kernel
theorem dL_cell_41 : decode cL_cell 41 = .ok (.iushr, 1) := by decide +kernel
theorem dL_cell_42 : decode cL_cell 42 = .ok (.ixor, 1) := by decide +kernel
theorem dL_cell_43 : decode cL_cell 43 = .ok (.ireturn, 1) := by decide +kernel
set_option maxRecDepth 20000 in
theorem ggL_type_X9_type : GoodIn wsL_type wsX9_type := goodIn_ca (goodIn_ca (goodIn_ca (goodIn_r _ [9, 10, 11, 12, 13, 14, 15, 16, 8, 17, 18, 19, 20, 21, 22, 23, 24, 25, 26, 27, 28, 29, 30, 31, 32, 33, 34, 35, 36, 37, 38] (by decide +kernel) (by decide +kernel)) (goodIn_sub (fun _ h => List.mem_cons_of_mem _ (List.mem_append_left _ (List.mem_append_left _ (List.mem_append_right _ h)))) (by decide +kernel))) (goodIn_sub (fun _ h => List.mem_cons_of_mem _ (List.mem_append_left _ (List.mem_append_right _ h))) (by decide +kernel))) (goodIn_sub (fun _ h => List.mem_cons_of_mem _ (List.mem_append_right _ h)) (by decide +kernel))
set_option maxRecDepth 20000 in
theorem gL_type_X9_type : GoodIn wsL_type (wsV RL 9 RX9 yX9_type wsX9_type) := goodIn_app (goodIn_of _ (by decide +kernel)) ggL_type_X9_type
theorem dL_type_0 : decode cL_type 0 = .ok (.aload_n 0, 1) := by decide +kernel
theorem dL_type_1 : decode cL_type 1 = .ok (.iload_n 1, 1) := by decide +kernel
theorem dL_type_2 : decode cL_type 2 = .ok (.invokevirtual 9, 3) := by decide +kernel
theorem dL_type_5 : decode cL_type 5 = .ok (.ireturn, 1) := by decide +kernel
theorem dL_type_6 : decode cL_type 6 = .ok (.astore_n 2, 1) := by decide +kernel
theorem dL_type_7 : decode cL_type 7 = .ok (.ldc 17, 2) := by decide +kernel
theorem dL_type_9 : decode cL_type 9 = .ok (.ireturn, 1) := by decide +kernel
theorem dL_type_10 : decode cL_type 10 = .ok (.astore_n 2, 1) := by decide +kernel
theorem dL_type_11 : decode cL_type 11 = .ok (.ldc 20, 2) := by decide +kernel
theorem dL_type_13 : decode cL_type 13 = .ok (.ireturn, 1) := by decide +kernel
set_option maxRecDepth 20000 in
theorem ggL_word_X9_word : GoodIn wsL_word wsX9_word := goodIn_ca (goodIn_ca (goodIn_r _ [7, 8, 9, 10, 11, 12, 13, 14, 15, 16, 17, 18, 19, 20, 21, 22, 23, 24, 6, 25, 26, 27, 28, 29, 30, 31, 32, 33, 34, 35, 36, 37, 38, 39, 40, 41, 42, 43, 44, 45, 46, 47, 48, 49, 50, 51, 52, 53, 54] (by decide +kernel) (by decide +kernel)) (goodIn_sub (fun _ h => List.mem_cons_of_mem _ (List.mem_append_left _ (List.mem_append_right _ h))) (by decide +kernel))) (goodIn_sub (fun _ h => List.mem_cons_of_mem _ (List.mem_append_right _ h)) (by decide +kernel))
set_option maxRecDepth 20000 in
theorem gL_word_X9_word : GoodIn wsL_word (wsV RL 21 RX9 yX9_word wsX9_word) := goodIn_app (goodIn_of _ (by decide +kernel)) ggL_word_X9_word
theorem dL_word_0 : decode cL_word 0 = .ok (.aload_n 0, 1) := by decide +kernel
theorem dL_word_1 : decode cL_word 1 = .ok (.invokevirtual 21, 3) := by decide +kernel
theorem dL_word_4 : decode cL_word 4 = .ok (.ireturn, 1) := by decide +kernel
theorem dL_word_5 : decode cL_word 5 = .ok (.astore_n 1, 1) := by decide +kernel
theorem dL_word_6 : decode cL_word 6 = .ok (.ldc 17, 2) := by decide +kernel
theorem dL_word_8 : decode cL_word 8 = .ok (.ireturn, 1) := by decide +kernel
set_option maxRecDepth 20000 in
theorem ggL_length_X9_length : GoodIn wsL_length wsX9_length := goodIn_ca (goodIn_r _ [7, 8, 9, 10, 11, 6, 12, 13, 14, 15, 16, 17, 18, 19, 20, 21, 22, 23, 24, 25, 26, 27, 28, 29, 30, 31, 32, 33, 34, 35, 36] (by decide +kernel) (by decide +kernel)) (goodIn_sub (fun _ h => List.mem_cons_of_mem _ (List.mem_append_right _ h)) (by decide +kernel))
set_option maxRecDepth 20000 in
theorem gL_length_X9_length : GoodIn wsL_length (wsV RL 25 RX9 yX9_length wsX9_length) := goodIn_app (goodIn_of _ (by decide +kernel)) ggL_length_X9_length
theorem dL_length_0 : decode cL_length 0 = .ok (.aload_n 0, 1) := by decide +kernel
theorem dL_length_1 : decode cL_length 1 = .ok (.iload_n 1, 1) := by decide +kernel
theorem dL_length_2 : decode cL_length 2 = .ok (.invokevirtual 25, 3) := by decide +kernel
theorem dL_length_5 : decode cL_length 5 = .ok (.ireturn, 1) := by decide +kernel
theorem dL_length_6 : decode cL_length 6 = .ok (.astore_n 2, 1) := by decide +kernel
theorem dL_length_7 : decode cL_length 7 = .ok (.ldc 17, 2) := by decide +kernel
theorem dL_length_9 : decode cL_length 9 = .ok (.ireturn, 1) := by decide +kernel
set_option maxRecDepth 20000 in
theorem ggL_letter_X9_letter : GoodIn wsL_letter wsX9_letter := goodIn_ca (goodIn_ca (goodIn_ca (goodIn_r _ [9, 10, 11, 12, 13, 14, 15, 16, 17, 8, 18, 19, 20, 21, 22, 23, 24, 25, 26, 27, 28, 29, 30, 31, 32, 33, 34, 35, 36, 37, 38, 39, 40, 41, 42] (by decide +kernel) (by decide +kernel)) (goodIn_sub (fun _ h => List.mem_cons_of_mem _ (List.mem_append_left _ (List.mem_append_left _ (List.mem_append_right _ h)))) (by decide +kernel))) (goodIn_sub (fun _ h => List.mem_cons_of_mem _ (List.mem_append_left _ (List.mem_append_right _ h))) (by decide +kernel))) (goodIn_sub (fun _ h => List.mem_cons_of_mem _ (List.mem_append_right _ h)) (by decide +kernel))
set_option maxRecDepth 20000 in
theorem gL_letter_X9_letter : GoodIn wsL_letter (wsV RL 31 RX9 yX9_letter wsX9_letter) := goodIn_app (goodIn_of _ (by decide +kernel)) ggL_letter_X9_letter
theorem dL_letter_0 : decode cL_letter 0 = .ok (.aload_n 0, 1) := by decide +kernel
theorem dL_letter_1 : decode cL_letter 1 = .ok (.iload_n 1, 1) := by decide +kernel
theorem dL_letter_2 : decode cL_letter 2 = .ok (.iload_n 2, 1) := by decide +kernel
theorem dL_letter_3 : decode cL_letter 3 = .ok (.invokevirtual 31, 3) := by decide +kernel
theorem dL_letter_6 : decode cL_letter 6 = .ok (.ireturn, 1) := by decide +kernel
theorem dL_letter_7 : decode cL_letter 7 = .ok (.astore_n 3, 1) := by decide +kernel
theorem dL_letter_8 : decode cL_letter 8 = .ok (.ldc 17, 2) := by decide +kernel
theorem dL_letter_10 : decode cL_letter 10 = .ok (.ireturn, 1) := by decide +kernel
theorem dL_letter_11 : decode cL_letter 11 = .ok (.astore_n 3, 1) := by decide +kernel
theorem dL_letter_12 : decode cL_letter 12 = .ok (.ldc 20, 2) := by decide +kernel
theorem dL_letter_14 : decode cL_letter 14 = .ok (.ireturn, 1) := by decide +kernel
set_option maxRecDepth 20000 in
theorem ggL_compare_X9_compare : GoodIn wsL_compare wsX9_compare := goodIn_ca (goodIn_ca (goodIn_r _ [7, 8, 9, 10, 6, 11, 12, 13, 14, 15, 16, 17, 18, 19, 20, 21, 22, 23, 24, 25, 26, 27, 28, 29, 30, 31, 32, 33, 34, 35, 36, 37, 38, 39, 40, 41, 42] (by decide +kernel) (by decide +kernel)) (goodIn_sub (fun _ h => List.mem_cons_of_mem _ (List.mem_append_left _ (List.mem_append_right _ h))) (by decide +kernel))) (goodIn_sub (fun _ h => List.mem_cons_of_mem _ (List.mem_append_right _ h)) (by decide +kernel))
set_option maxRecDepth 20000 in
theorem gL_compare_X9_compare : GoodIn wsL_compare (wsV RL 37 RX9 yX9_compare wsX9_compare) := goodIn_app (goodIn_of _ (by decide +kernel)) ggL_compare_X9_compare
theorem dL_compare_0 : decode cL_compare 0 = .ok (.aload_n 0, 1) := by decide +kernel
theorem dL_compare_1 : decode cL_compare 1 = .ok (.iload_n 1, 1) := by decide +kernel
theorem dL_compare_2 : decode cL_compare 2 = .ok (.iload_n 2, 1) := by decide +kernel
theorem dL_compare_3 : decode cL_compare 3 = .ok (.invokevirtual 37, 3) := by decide +kernel
theorem dL_compare_6 : decode cL_compare 6 = .ok (.ireturn, 1) := by decide +kernel
theorem dL_compare_7 : decode cL_compare 7 = .ok (.astore_n 3, 1) := by decide +kernel
theorem dL_compare_8 : decode cL_compare 8 = .ok (.ldc 17, 2) := by decide +kernel
theorem dL_compare_10 : decode cL_compare 10 = .ok (.ireturn, 1) := by decide +kernel
set_option maxRecDepth 20000 in
theorem ggL_product_X9_product : GoodIn wsL_product wsX9_product := goodIn_ca (goodIn_ca (goodIn_ca (goodIn_r _ [9, 10, 11, 12, 13, 8, 14, 15, 16, 17, 18, 19, 20, 21, 22, 23, 24, 25, 26, 27, 28, 29, 30, 31, 32, 33, 34, 35, 36, 37, 38, 39, 40, 41, 42, 43, 44, 45, 46, 47, 48, 49, 50, 51, 52, 53, 54, 55, 56, 57, 58, 59, 60, 61, 62, 63, 64, 65, 66, 67] (by decide +kernel) (by decide +kernel)) (goodIn_sub (fun _ h => List.mem_cons_of_mem _ (List.mem_append_left _ (List.mem_append_left _ (List.mem_append_right _ h)))) (by decide +kernel))) (goodIn_sub (fun _ h => List.mem_cons_of_mem _ (List.mem_append_left _ (List.mem_append_right _ h))) (by decide +kernel))) (goodIn_sub (fun _ h => List.mem_cons_of_mem _ (List.mem_append_right _ h)) (by decide +kernel))
set_option maxRecDepth 20000 in
theorem gL_product_X9_product : GoodIn wsL_product (wsV RL 41 RX9 yX9_product wsX9_product) := goodIn_app (goodIn_of _ (by decide +kernel)) ggL_product_X9_product
theorem dL_product_0 : decode cL_product 0 = .ok (.aload_n 0, 1) := by decide +kernel
theorem dL_product_1 : decode cL_product 1 = .ok (.iload_n 1, 1) := by decide +kernel
theorem dL_product_2 : decode cL_product 2 = .ok (.iload_n 2, 1) := by decide +kernel
theorem dL_product_3 : decode cL_product 3 = .ok (.invokevirtual 41, 3) := by decide +kernel
theorem dL_product_6 : decode cL_product 6 = .ok (.ireturn, 1) := by decide +kernel
theorem dL_product_7 : decode cL_product 7 = .ok (.astore_n 3, 1) := by decide +kernel
theorem dL_product_8 : decode cL_product 8 = .ok (.ldc 17, 2) := by decide +kernel
theorem dL_product_10 : decode cL_product 10 = .ok (.ireturn, 1) := by decide +kernel
theorem dL_product_11 : decode cL_product 11 = .ok (.astore_n 3, 1) := by decide +kernel
theorem dL_product_12 : decode cL_product 12 = .ok (.ldc 20, 2) := by decide +kernel
theorem dL_product_14 : decode cL_product 14 = .ok (.ireturn, 1) := by decide +kernel
set_option maxRecDepth 20000 in
theorem ggL_inverse_X9_inverse : GoodIn wsL_inverse wsX9_inverse := goodIn_ca (goodIn_ca (goodIn_ca (goodIn_r _ [9, 10, 11, 12, 13, 8, 14, 15, 16, 17, 18, 19, 20, 21, 22, 23, 24, 25, 26, 27, 28, 29, 30, 31, 32, 33, 34, 35, 36, 37, 38, 39, 40, 41, 42, 43, 44, 45, 46, 47, 48, 49, 50, 51, 52, 53, 54, 55, 56, 57, 58, 59, 60, 61, 62, 63, 64] (by decide +kernel) (by decide +kernel)) (goodIn_sub (fun _ h => List.mem_cons_of_mem _ (List.mem_append_left _ (List.mem_append_left _ (List.mem_append_right _ h)))) (by decide +kernel))) (goodIn_sub (fun _ h => List.mem_cons_of_mem _ (List.mem_append_left _ (List.mem_append_right _ h))) (by decide +kernel))) (goodIn_sub (fun _ h => List.mem_cons_of_mem _ (List.mem_append_right _ h)) (by decide +kernel))
set_option maxRecDepth 20000 in
theorem gL_inverse_X9_inverse : GoodIn wsL_inverse (wsV RL 44 RX9 yX9_inverse wsX9_inverse) := goodIn_app (goodIn_of _ (by decide +kernel)) ggL_inverse_X9_inverse
theorem dL_inverse_0 : decode cL_inverse 0 = .ok (.aload_n 0, 1) := by decide +kernel
theorem dL_inverse_1 : decode cL_inverse 1 = .ok (.iload_n 1, 1) := by decide +kernel
theorem dL_inverse_2 : decode cL_inverse 2 = .ok (.invokevirtual 44, 3) := by decide +kernel
theorem dL_inverse_5 : decode cL_inverse 5 = .ok (.ireturn, 1) := by decide +kernel
theorem dL_inverse_6 : decode cL_inverse 6 = .ok (.astore_n 2, 1) := by decide +kernel
theorem dL_inverse_7 : decode cL_inverse 7 = .ok (.ldc 17, 2) := by decide +kernel
theorem dL_inverse_9 : decode cL_inverse 9 = .ok (.ireturn, 1) := by decide +kernel
theorem dL_inverse_10 : decode cL_inverse 10 = .ok (.astore_n 2, 1) := by decide +kernel
theorem dL_inverse_11 : decode cL_inverse 11 = .ok (.ldc 20, 2) := by decide +kernel
theorem dL_inverse_13 : decode cL_inverse 13 = .ok (.ireturn, 1) := by decide +kernel
set_option maxRecDepth 20000 in
theorem ggL_power_X9_power : GoodIn wsL_power wsX9_power := goodIn_ca (goodIn_ca (goodIn_ca (goodIn_ca (goodIn_r _ [11, 12, 13, 14, 15, 16, 17, 10, 18, 19, 20, 21, 22, 23, 24, 25, 26, 27, 28, 29, 30, 31, 32, 33, 34, 35, 36, 37, 38, 39, 40, 41, 42, 43, 44, 45, 46, 47, 48, 49, 50, 51, 52, 53, 54, 55, 56, 57, 58, 59, 60, 61, 62, 63, 64, 65, 66, 67, 68, 69, 70, 71, 72] (by decide +kernel) (by decide +kernel)) (goodIn_sub (fun _ h => List.mem_cons_of_mem _ (List.mem_append_left _ (List.mem_append_left _ (List.mem_append_left _ (List.mem_append_right _ h))))) (by decide +kernel))) (goodIn_sub (fun _ h => List.mem_cons_of_mem _ (List.mem_append_left _ (List.mem_append_left _ (List.mem_append_right _ h)))) (by decide +kernel))) (goodIn_sub (fun _ h => List.mem_cons_of_mem _ (List.mem_append_left _ (List.mem_append_right _ h))) (by decide +kernel))) (goodIn_sub (fun _ h => List.mem_cons_of_mem _ (List.mem_append_right _ h)) (by decide +kernel))
set_option maxRecDepth 20000 in
theorem gL_power_X9_power : GoodIn wsL_power (wsV RL 47 RX9 yX9_power wsX9_power) := goodIn_app (goodIn_of _ (by decide +kernel)) ggL_power_X9_power
theorem dL_power_0 : decode cL_power 0 = .ok (.aload_n 0, 1) := by decide +kernel
theorem dL_power_1 : decode cL_power 1 = .ok (.iload_n 1, 1) := by decide +kernel
theorem dL_power_2 : decode cL_power 2 = .ok (.iload_n 2, 1) := by decide +kernel
theorem dL_power_3 : decode cL_power 3 = .ok (.invokevirtual 47, 3) := by decide +kernel
theorem dL_power_6 : decode cL_power 6 = .ok (.ireturn, 1) := by decide +kernel
theorem dL_power_7 : decode cL_power 7 = .ok (.astore_n 3, 1) := by decide +kernel
theorem dL_power_8 : decode cL_power 8 = .ok (.ldc 17, 2) := by decide +kernel
theorem dL_power_10 : decode cL_power 10 = .ok (.ireturn, 1) := by decide +kernel
theorem dL_power_11 : decode cL_power 11 = .ok (.astore_n 3, 1) := by decide +kernel
theorem dL_power_12 : decode cL_power 12 = .ok (.ldc 20, 2) := by decide +kernel
theorem dL_power_14 : decode cL_power 14 = .ok (.ireturn, 1) := by decide +kernel
theorem dL_power_15 : decode cL_power 15 = .ok (.astore_n 3, 1) := by decide +kernel
theorem dL_power_16 : decode cL_power 16 = .ok (.ldc 50, 2) := by decide +kernel
theorem dL_power_18 : decode cL_power 18 = .ok (.ireturn, 1) := by decide +kernel
set_option maxRecDepth 20000 in
theorem ggL_core_X9_core : GoodIn wsL_core wsX9_core := goodIn_ca (goodIn_ca (goodIn_r _ [7, 8, 9, 10, 6, 11, 12, 13, 14, 15, 16, 17, 18, 19, 20, 21, 22, 23, 24, 25, 26, 27, 28, 29, 30, 31, 32, 33, 34, 35, 36, 37, 38, 39, 40, 41, 42, 43, 44, 45, 46] (by decide +kernel) (by decide +kernel)) (goodIn_sub (fun _ h => List.mem_cons_of_mem _ (List.mem_append_left _ (List.mem_append_right _ h))) (by decide +kernel))) (goodIn_sub (fun _ h => List.mem_cons_of_mem _ (List.mem_append_right _ h)) (by decide +kernel))
set_option maxRecDepth 20000 in
theorem gL_core_X9_core : GoodIn wsL_core (wsV RL 51 RX9 yX9_core wsX9_core) := goodIn_app (goodIn_of _ (by decide +kernel)) ggL_core_X9_core
theorem dL_core_0 : decode cL_core 0 = .ok (.aload_n 0, 1) := by decide +kernel
theorem dL_core_1 : decode cL_core 1 = .ok (.iload_n 1, 1) := by decide +kernel
theorem dL_core_2 : decode cL_core 2 = .ok (.invokevirtual 51, 3) := by decide +kernel
theorem dL_core_5 : decode cL_core 5 = .ok (.ireturn, 1) := by decide +kernel
theorem dL_core_6 : decode cL_core 6 = .ok (.astore_n 2, 1) := by decide +kernel
theorem dL_core_7 : decode cL_core 7 = .ok (.ldc 17, 2) := by decide +kernel
theorem dL_core_9 : decode cL_core 9 = .ok (.ireturn, 1) := by decide +kernel
set_option maxRecDepth 20000 in
theorem ggL_exponent_X9_exponent : GoodIn wsL_exponent wsX9_exponent := goodIn_ca (goodIn_ca (goodIn_ca (goodIn_r _ [9, 10, 11, 12, 13, 14, 15, 8, 16, 17, 18, 19, 20, 21, 22, 23, 24, 25, 26, 27, 28, 29, 30, 31, 32, 33, 34, 35, 36, 37, 38, 39, 40, 41, 42, 43, 44, 45, 46, 47, 48, 49, 50, 51, 52, 53, 54, 55, 56, 57, 58, 59] (by decide +kernel) (by decide +kernel)) (goodIn_sub (fun _ h => List.mem_cons_of_mem _ (List.mem_append_left _ (List.mem_append_left _ (List.mem_append_right _ h)))) (by decide +kernel))) (goodIn_sub (fun _ h => List.mem_cons_of_mem _ (List.mem_append_left _ (List.mem_append_right _ h))) (by decide +kernel))) (goodIn_sub (fun _ h => List.mem_cons_of_mem _ (List.mem_append_right _ h)) (by decide +kernel))
set_option maxRecDepth 20000 in
theorem gL_exponent_X9_exponent : GoodIn wsL_exponent (wsV RL 54 RX9 yX9_exponent wsX9_exponent) := goodIn_app (goodIn_of _ (by decide +kernel)) ggL_exponent_X9_exponent
theorem dL_exponent_0 : decode cL_exponent 0 = .ok (.aload_n 0, 1) := by decide +kernel
theorem dL_exponent_1 : decode cL_exponent 1 = .ok (.iload_n 1, 1) := by decide +kernel
theorem dL_exponent_2 : decode cL_exponent 2 = .ok (.invokevirtual 54, 3) := by decide +kernel
theorem dL_exponent_5 : decode cL_exponent 5 = .ok (.ireturn, 1) := by decide +kernel
theorem dL_exponent_6 : decode cL_exponent 6 = .ok (.astore_n 2, 1) := by decide +kernel
theorem dL_exponent_7 : decode cL_exponent 7 = .ok (.ldc 17, 2) := by decide +kernel
theorem dL_exponent_9 : decode cL_exponent 9 = .ok (.ireturn, 1) := by decide +kernel
theorem dL_exponent_10 : decode cL_exponent 10 = .ok (.astore_n 2, 1) := by decide +kernel
theorem dL_exponent_11 : decode cL_exponent 11 = .ok (.ldc 20, 2) := by decide +kernel
theorem dL_exponent_13 : decode cL_exponent 13 = .ok (.ireturn, 1) := by decide +kernel
set_option maxRecDepth 20000 in
theorem ggL_sum_X9_sum : GoodIn wsL_sum wsX9_sum := goodIn_ca (goodIn_ca (goodIn_ca (goodIn_r _ [9, 10, 11, 12, 8, 13, 14, 15, 16, 17, 18, 19, 20, 21, 22, 23, 24, 25, 26, 27, 28, 29, 30, 31, 32, 33, 34, 35, 36, 37, 38, 39, 40, 41, 42, 43, 44, 45, 46, 47, 48, 49, 50, 51] (by decide +kernel) (by decide +kernel)) (goodIn_sub (fun _ h => List.mem_cons_of_mem _ (List.mem_append_left _ (List.mem_append_left _ (List.mem_append_right _ h)))) (by decide +kernel))) (goodIn_sub (fun _ h => List.mem_cons_of_mem _ (List.mem_append_left _ (List.mem_append_right _ h))) (by decide +kernel))) (goodIn_sub (fun _ h => List.mem_cons_of_mem _ (List.mem_append_right _ h)) (by decide +kernel))
set_option maxRecDepth 20000 in
theorem gL_sum_X9_sum : GoodIn wsL_sum (wsV RL 57 RX9 yX9_sum wsX9_sum) := goodIn_app (goodIn_of _ (by decide +kernel)) ggL_sum_X9_sum
theorem dL_sum_0 : decode cL_sum 0 = .ok (.aload_n 0, 1) := by decide +kernel
theorem dL_sum_1 : decode cL_sum 1 = .ok (.iload_n 1, 1) := by decide +kernel
theorem dL_sum_2 : decode cL_sum 2 = .ok (.iload_n 2, 1) := by decide +kernel
theorem dL_sum_3 : decode cL_sum 3 = .ok (.invokevirtual 57, 3) := by decide +kernel
theorem dL_sum_6 : decode cL_sum 6 = .ok (.ireturn, 1) := by decide +kernel
theorem dL_sum_7 : decode cL_sum 7 = .ok (.astore_n 3, 1) := by decide +kernel
theorem dL_sum_8 : decode cL_sum 8 = .ok (.ldc 17, 2) := by decide +kernel
theorem dL_sum_10 : decode cL_sum 10 = .ok (.ireturn, 1) := by decide +kernel
theorem dL_sum_11 : decode cL_sum 11 = .ok (.astore_n 3, 1) := by decide +kernel
theorem dL_sum_12 : decode cL_sum 12 = .ok (.ldc 20, 2) := by decide +kernel
theorem dL_sum_14 : decode cL_sum 14 = .ok (.ireturn, 1) := by decide +kernel
set_option maxRecDepth 20000 in
theorem ggL_conjugator_X9_conjugator : GoodIn wsL_conjugator wsX9_conjugator := goodIn_ca (goodIn_ca (goodIn_ca (goodIn_ca (goodIn_r _ [11, 12, 13, 14, 15, 16, 17, 18, 10, 19, 20, 21, 22, 23, 24, 25, 26, 27, 28, 29, 30, 31, 32, 33, 34, 35, 36, 37, 38, 39, 40, 41, 42, 43, 44, 45, 46, 47, 48, 49, 50, 51, 52, 53, 54, 55, 56, 57, 58, 59, 60, 61, 62, 63, 64, 65, 66, 67, 68, 69, 70, 71, 72, 73, 74, 75, 76, 77, 78, 79, 80, 81, 82, 83, 84, 85, 86, 87, 88, 89, 90, 91, 92, 93, 94, 95, 96, 97, 98, 99, 100, 101, 102, 103, 104, 105, 106] (by decide +kernel) (by decide +kernel)) (goodIn_sub (fun _ h => List.mem_cons_of_mem _ (List.mem_append_left _ (List.mem_append_left _ (List.mem_append_left _ (List.mem_append_right _ h))))) (by decide +kernel))) (goodIn_sub (fun _ h => List.mem_cons_of_mem _ (List.mem_append_left _ (List.mem_append_left _ (List.mem_append_right _ h)))) (by decide +kernel))) (goodIn_sub (fun _ h => List.mem_cons_of_mem _ (List.mem_append_left _ (List.mem_append_right _ h))) (by decide +kernel))) (goodIn_sub (fun _ h => List.mem_cons_of_mem _ (List.mem_append_right _ h)) (by decide +kernel))
set_option maxRecDepth 20000 in
theorem gL_conjugator_X9_conjugator : GoodIn wsL_conjugator (wsV RL 61 RX9 yX9_conjugator wsX9_conjugator) := goodIn_app (goodIn_of _ (by decide +kernel)) ggL_conjugator_X9_conjugator
theorem dL_conjugator_0 : decode cL_conjugator 0 = .ok (.aload_n 0, 1) := by decide +kernel
theorem dL_conjugator_1 : decode cL_conjugator 1 = .ok (.iload_n 1, 1) := by decide +kernel
theorem dL_conjugator_2 : decode cL_conjugator 2 = .ok (.iload_n 2, 1) := by decide +kernel
theorem dL_conjugator_3 : decode cL_conjugator 3 = .ok (.invokevirtual 61, 3) := by decide +kernel
theorem dL_conjugator_6 : decode cL_conjugator 6 = .ok (.ireturn, 1) := by decide +kernel
theorem dL_conjugator_7 : decode cL_conjugator 7 = .ok (.astore_n 3, 1) := by decide +kernel
theorem dL_conjugator_8 : decode cL_conjugator 8 = .ok (.ldc 17, 2) := by decide +kernel
theorem dL_conjugator_10 : decode cL_conjugator 10 = .ok (.ireturn, 1) := by decide +kernel
theorem dL_conjugator_11 : decode cL_conjugator 11 = .ok (.astore_n 3, 1) := by decide +kernel
theorem dL_conjugator_12 : decode cL_conjugator 12 = .ok (.ldc 20, 2) := by decide +kernel
theorem dL_conjugator_14 : decode cL_conjugator 14 = .ok (.ireturn, 1) := by decide +kernel
theorem dL_conjugator_15 : decode cL_conjugator 15 = .ok (.astore_n 3, 1) := by decide +kernel
theorem dL_conjugator_16 : decode cL_conjugator 16 = .ok (.ldc 50, 2) := by decide +kernel
theorem dL_conjugator_18 : decode cL_conjugator 18 = .ok (.ireturn, 1) := by decide +kernel
set_option maxRecDepth 20000 in
theorem ggL_commute_X9_commute : GoodIn wsL_commute wsX9_commute := goodIn_ca (goodIn_ca (goodIn_r _ [7, 8, 9, 10, 11, 12, 6, 13, 14, 15, 16, 17, 18, 19, 20, 21, 22, 23, 24, 25, 26, 27, 28, 29, 30, 31, 32, 33, 34, 35, 36, 37, 38, 39, 40, 41, 42, 43, 44, 45, 46, 47, 48, 49, 50, 51, 52, 53, 54, 55, 56, 57, 58, 59] (by decide +kernel) (by decide +kernel)) (goodIn_sub (fun _ h => List.mem_cons_of_mem _ (List.mem_append_left _ (List.mem_append_right _ h))) (by decide +kernel))) (goodIn_sub (fun _ h => List.mem_cons_of_mem _ (List.mem_append_right _ h)) (by decide +kernel))
set_option maxRecDepth 20000 in
theorem gL_commute_X9_commute : GoodIn wsL_commute (wsV RL 64 RX9 yX9_commute wsX9_commute) := goodIn_app (goodIn_of _ (by decide +kernel)) ggL_commute_X9_commute
theorem dL_commute_0 : decode cL_commute 0 = .ok (.aload_n 0, 1) := by decide +kernel
theorem dL_commute_1 : decode cL_commute 1 = .ok (.iload_n 1, 1) := by decide +kernel
theorem dL_commute_2 : decode cL_commute 2 = .ok (.iload_n 2, 1) := by decide +kernel
theorem dL_commute_3 : decode cL_commute 3 = .ok (.invokevirtual 64, 3) := by decide +kernel
theorem dL_commute_6 : decode cL_commute 6 = .ok (.ifCond .eq 7, 3) := by decide +kernel
theorem dL_commute_9 : decode cL_commute 9 = .ok (.iconst 1, 1) := by decide +kernel
theorem dL_commute_10 : decode cL_commute 10 = .ok (.goto 4, 3) := by decide +kernel
theorem dL_commute_13 : decode cL_commute 13 = .ok (.iconst 0, 1) := by decide +kernel
theorem dL_commute_14 : decode cL_commute 14 = .ok (.ireturn, 1) := by decide +kernel
theorem dL_commute_15 : decode cL_commute 15 = .ok (.astore_n 3, 1) := by decide +kernel
theorem dL_commute_16 : decode cL_commute 16 = .ok (.ldc 17, 2) := by decide +kernel
theorem dL_commute_18 : decode cL_commute 18 = .ok (.ireturn, 1) := by decide +kernel
set_option maxRecDepth 20000 in
theorem ggL_in_L_cell : GoodIn wsL_in wsL_cell := goodIn_ca (goodIn_r _ [5, 6, 7] (by decide +kernel) (by decide +kernel)) (goodIn_sub (fun _ h => List.mem_cons_of_mem _ (List.mem_append_right _ h)) (by decide +kernel))
set_option maxRecDepth 20000 in
theorem gL_in_L_cell : GoodIn wsL_in (va_wsS RL 68 yL_cell wsL_cell) := goodIn_app (goodIn_of _ (by decide +kernel)) ggL_in_L_cell
theorem dL_in_0 : decode cL_in 0 = .ok (.aload_n 0, 1) := by decide +kernel
theorem dL_in_1 : decode cL_in 1 = .ok (.iload_n 1, 1) := by decide +kernel
theorem dL_in_2 : decode cL_in 2 = .ok (.invokestatic 68, 3) := by decide +kernel
theorem dL_in_5 : decode cL_in 5 = .ok (.ldc 74, 2) := by decide +kernel
theorem dL_in_7 : decode cL_in 7 = .ok (.iand, 1) := by decide +kernel
theorem dL_in_8 : decode cL_in 8 = .ok (.iload_n 2, 1) := by decide +kernel
theorem dL_in_9 : decode cL_in 9 = .ok (.irem, 1) := by decide +kernel
theorem dL_in_10 : decode cL_in 10 = .ok (.ireturn, 1) := by decide +kernel
theorem dL_joined_0 : decode cL_joined 0 = .ok (.aload_n 0, 1) := by decide +kernel
theorem dL_joined_1 : decode cL_joined 1 = .ok (.arraylength, 1) := by decide +kernel
theorem dL_joined_2 : decode cL_joined 2 = .ok (.aload_n 1, 1) := by decide +kernel
theorem dL_joined_3 : decode cL_joined 3 = .ok (.arraylength, 1) := by decide +kernel
theorem dL_joined_4 : decode cL_joined 4 = .ok (.iadd, 1) := by decide +kernel
theorem dL_joined_5 : decode cL_joined 5 = .ok (.newarray .int, 2) := by decide +kernel
theorem dL_joined_7 : decode cL_joined 7 = .ok (.astore_n 2, 1) := by decide +kernel
theorem dL_joined_8 : decode cL_joined 8 = .ok (.iconst 0, 1) := by decide +kernel
theorem dL_joined_9 : decode cL_joined 9 = .ok (.istore_n 3, 1) := by decide +kernel
theorem dL_joined_10 : decode cL_joined 10 = .ok (.iconst 0, 1) := by decide +kernel
theorem dL_joined_11 : decode cL_joined 11 = .ok (.istore 4, 2) := by decide +kernel
theorem dL_joined_13 : decode cL_joined 13 = .ok (.iload 4, 2) := by decide +kernel
theorem dL_joined_15 : decode cL_joined 15 = .ok (.aload_n 2, 1) := by decide +kernel
theorem dL_joined_16 : decode cL_joined 16 = .ok (.arraylength, 1) := by decide +kernel
theorem dL_joined_17 : decode cL_joined 17 = .ok (.if_icmp .ge 62, 3) := by decide +kernel
theorem dL_joined_20 : decode cL_joined 20 = .ok (.iload 4, 2) := by decide +kernel
theorem dL_joined_22 : decode cL_joined 22 = .ok (.aload_n 0, 1) := by decide +kernel
theorem dL_joined_23 : decode cL_joined 23 = .ok (.arraylength, 1) := by decide +kernel
theorem dL_joined_24 : decode cL_joined 24 = .ok (.if_icmp .ge 10, 3) := by decide +kernel
theorem dL_joined_27 : decode cL_joined 27 = .ok (.aload_n 0, 1) := by decide +kernel
theorem dL_joined_28 : decode cL_joined 28 = .ok (.iload 4, 2) := by decide +kernel
theorem dL_joined_30 : decode cL_joined 30 = .ok (.iaload, 1) := by decide +kernel
theorem dL_joined_31 : decode cL_joined 31 = .ok (.goto 10, 3) := by decide +kernel
theorem dL_joined_34 : decode cL_joined 34 = .ok (.aload_n 1, 1) := by decide +kernel
theorem dL_joined_35 : decode cL_joined 35 = .ok (.iload 4, 2) := by decide +kernel
theorem dL_joined_37 : decode cL_joined 37 = .ok (.aload_n 0, 1) := by decide +kernel
theorem dL_joined_38 : decode cL_joined 38 = .ok (.arraylength, 1) := by decide +kernel
theorem dL_joined_39 : decode cL_joined 39 = .ok (.isub, 1) := by decide +kernel
theorem dL_joined_40 : decode cL_joined 40 = .ok (.iaload, 1) := by decide +kernel
theorem dL_joined_41 : decode cL_joined 41 = .ok (.istore 5, 2) := by decide +kernel
theorem dL_joined_43 : decode cL_joined 43 = .ok (.iload_n 3, 1) := by decide +kernel
theorem dL_joined_44 : decode cL_joined 44 = .ok (.ifCond .le 21, 3) := by decide +kernel
theorem dL_joined_47 : decode cL_joined 47 = .ok (.aload_n 2, 1) := by decide +kernel
theorem dL_joined_48 : decode cL_joined 48 = .ok (.iload_n 3, 1) := by decide +kernel
theorem dL_joined_49 : decode cL_joined 49 = .ok (.iconst 1, 1) := by decide +kernel
theorem dL_joined_50 : decode cL_joined 50 = .ok (.isub, 1) := by decide +kernel
theorem dL_joined_51 : decode cL_joined 51 = .ok (.iaload, 1) := by decide +kernel
theorem dL_joined_52 : decode cL_joined 52 = .ok (.iconst 1, 1) := by decide +kernel
theorem dL_joined_53 : decode cL_joined 53 = .ok (.ixor, 1) := by decide +kernel
theorem dL_joined_54 : decode cL_joined 54 = .ok (.iload 5, 2) := by decide +kernel
theorem dL_joined_56 : decode cL_joined 56 = .ok (.if_icmp .ne 9, 3) := by decide +kernel
theorem dL_joined_59 : decode cL_joined 59 = .ok (.iinc 3 (-1), 3) := by decide +kernel
theorem dL_joined_62 : decode cL_joined 62 = .ok (.goto 11, 3) := by decide +kernel
theorem dL_joined_65 : decode cL_joined 65 = .ok (.aload_n 2, 1) := by decide +kernel
theorem dL_joined_66 : decode cL_joined 66 = .ok (.iload_n 3, 1) := by decide +kernel
theorem dL_joined_67 : decode cL_joined 67 = .ok (.iload 5, 2) := by decide +kernel
theorem dL_joined_69 : decode cL_joined 69 = .ok (.iastore, 1) := by decide +kernel
theorem dL_joined_70 : decode cL_joined 70 = .ok (.iinc 3 1, 3) := by decide +kernel
theorem dL_joined_73 : decode cL_joined 73 = .ok (.iinc 4 1, 3) := by decide +kernel
theorem dL_joined_76 : decode cL_joined 76 = .ok (.goto (-63), 3) := by decide +kernel
theorem dL_joined_79 : decode cL_joined 79 = .ok (.iload_n 3, 1) := by decide +kernel
theorem dL_joined_80 : decode cL_joined 80 = .ok (.newarray .int, 2) := by decide +kernel
theorem dL_joined_82 : decode cL_joined 82 = .ok (.astore 4, 2) := by decide +kernel
theorem dL_joined_84 : decode cL_joined 84 = .ok (.iconst 0, 1) := by decide +kernel
theorem dL_joined_85 : decode cL_joined 85 = .ok (.istore 5, 2) := by decide +kernel
theorem dL_joined_87 : decode cL_joined 87 = .ok (.iload 5, 2) := by decide +kernel
theorem dL_joined_89 : decode cL_joined 89 = .ok (.iload_n 3, 1) := by decide +kernel
theorem dL_joined_90 : decode cL_joined 90 = .ok (.if_icmp .ge 18, 3) := by decide +kernel
theorem dL_joined_93 : decode cL_joined 93 = .ok (.aload 4, 2) := by decide +kernel
theorem dL_joined_95 : decode cL_joined 95 = .ok (.iload 5, 2) := by decide +kernel
theorem dL_joined_97 : decode cL_joined 97 = .ok (.aload_n 2, 1) := by decide +kernel
theorem dL_joined_98 : decode cL_joined 98 = .ok (.iload 5, 2) := by decide +kernel
theorem dL_joined_100 : decode cL_joined 100 = .ok (.iaload, 1) := by decide +kernel
theorem dL_joined_101 : decode cL_joined 101 = .ok (.iastore, 1) := by decide +kernel
theorem dL_joined_102 : decode cL_joined 102 = .ok (.iinc 5 1, 3) := by decide +kernel
theorem dL_joined_105 : decode cL_joined 105 = .ok (.goto (-18), 3) := by decide +kernel
theorem dL_joined_108 : decode cL_joined 108 = .ok (.aload 4, 2) := by decide +kernel
theorem dL_joined_110 : decode cL_joined 110 = .ok (.areturn, 1) := by decide +kernel
theorem dL_turned_0 : decode cL_turned 0 = .ok (.aload_n 0, 1) := by decide +kernel
theorem dL_turned_1 : decode cL_turned 1 = .ok (.arraylength, 1) := by decide +kernel
theorem dL_turned_2 : decode cL_turned 2 = .ok (.newarray .int, 2) := by decide +kernel
theorem dL_turned_4 : decode cL_turned 4 = .ok (.astore_n 1, 1) := by decide +kernel
theorem dL_turned_5 : decode cL_turned 5 = .ok (.iconst 0, 1) := by decide +kernel
theorem dL_turned_6 : decode cL_turned 6 = .ok (.istore_n 2, 1) := by decide +kernel
theorem dL_turned_7 : decode cL_turned 7 = .ok (.iload_n 2, 1) := by decide +kernel
theorem dL_turned_8 : decode cL_turned 8 = .ok (.aload_n 0, 1) := by decide +kernel
theorem dL_turned_9 : decode cL_turned 9 = .ok (.arraylength, 1) := by decide +kernel
theorem dL_turned_10 : decode cL_turned 10 = .ok (.if_icmp .ge 22, 3) := by decide +kernel
theorem dL_turned_13 : decode cL_turned 13 = .ok (.aload_n 1, 1) := by decide +kernel
theorem dL_turned_14 : decode cL_turned 14 = .ok (.iload_n 2, 1) := by decide +kernel
theorem dL_turned_15 : decode cL_turned 15 = .ok (.aload_n 0, 1) := by decide +kernel
theorem dL_turned_16 : decode cL_turned 16 = .ok (.aload_n 0, 1) := by decide +kernel
theorem dL_turned_17 : decode cL_turned 17 = .ok (.arraylength, 1) := by decide +kernel
theorem dL_turned_18 : decode cL_turned 18 = .ok (.iconst 1, 1) := by decide +kernel
theorem dL_turned_19 : decode cL_turned 19 = .ok (.isub, 1) := by decide +kernel
theorem dL_turned_20 : decode cL_turned 20 = .ok (.iload_n 2, 1) := by decide +kernel
theorem dL_turned_21 : decode cL_turned 21 = .ok (.isub, 1) := by decide +kernel
theorem dL_turned_22 : decode cL_turned 22 = .ok (.iaload, 1) := by decide +kernel
theorem dL_turned_23 : decode cL_turned 23 = .ok (.iconst 1, 1) := by decide +kernel
theorem dL_turned_24 : decode cL_turned 24 = .ok (.ixor, 1) := by decide +kernel
theorem dL_turned_25 : decode cL_turned 25 = .ok (.iastore, 1) := by decide +kernel
theorem dL_turned_26 : decode cL_turned 26 = .ok (.iinc 2 1, 3) := by decide +kernel
theorem dL_turned_29 : decode cL_turned 29 = .ok (.goto (-22), 3) := by decide +kernel
theorem dL_turned_32 : decode cL_turned 32 = .ok (.aload_n 1, 1) := by decide +kernel
theorem dL_turned_33 : decode cL_turned 33 = .ok (.areturn, 1) := by decide +kernel
set_option maxRecDepth 20000 in
theorem ggL_some_L_in : GoodIn wsL_some wsL_in := goodIn_ca (goodIn_r _ [5, 6, 7, 8, 4, 9, 10, 11] (by decide +kernel) (by decide +kernel)) (goodIn_sub (fun _ h => List.mem_cons_of_mem _ (List.mem_append_right _ h)) (by decide +kernel))
set_option maxRecDepth 20000 in
theorem gL_some_L_in : GoodIn wsL_some (va_wsS RL 75 yL_in wsL_in) := goodIn_app (goodIn_of _ (by decide +kernel)) ggL_some_L_in
set_option maxRecDepth 20000 in
theorem ggL_some_L_joined : GoodIn wsL_some wsL_joined := goodIn_ca (goodIn_r _ [14, 1] (by decide +kernel) (by decide +kernel)) (goodIn_sub (fun _ h => List.mem_cons_of_mem _ (List.mem_append_right _ h)) (by decide +kernel))
set_option maxRecDepth 20000 in
theorem gL_some_L_joined : GoodIn wsL_some (va_wsS RL 79 yL_joined wsL_joined) := goodIn_app (goodIn_of _ (by decide +kernel)) ggL_some_L_joined
theorem dL_some_0 : decode cL_some 0 = .ok (.iload_n 2, 1) := by decide +kernel
theorem dL_some_1 : decode cL_some 1 = .ok (.newarray .int, 2) := by decide +kernel
theorem dL_some_3 : decode cL_some 3 = .ok (.astore_n 3, 1) := by decide +kernel
theorem dL_some_4 : decode cL_some 4 = .ok (.iconst 0, 1) := by decide +kernel
theorem dL_some_5 : decode cL_some 5 = .ok (.istore 4, 2) := by decide +kernel
theorem dL_some_7 : decode cL_some 7 = .ok (.iload 4, 2) := by decide +kernel
theorem dL_some_9 : decode cL_some 9 = .ok (.iload_n 2, 1) := by decide +kernel
theorem dL_some_10 : decode cL_some 10 = .ok (.if_icmp .ge 23, 3) := by decide +kernel
theorem dL_some_13 : decode cL_some 13 = .ok (.aload_n 3, 1) := by decide +kernel
theorem dL_some_14 : decode cL_some 14 = .ok (.iload 4, 2) := by decide +kernel
theorem dL_some_16 : decode cL_some 16 = .ok (.aload_n 0, 1) := by decide +kernel
theorem dL_some_17 : decode cL_some 17 = .ok (.iload_n 1, 1) := by decide +kernel
theorem dL_some_18 : decode cL_some 18 = .ok (.iload 4, 2) := by decide +kernel
theorem dL_some_20 : decode cL_some 20 = .ok (.iadd, 1) := by decide +kernel
theorem dL_some_21 : decode cL_some 21 = .ok (.bipush 6, 2) := by decide +kernel
theorem dL_some_23 : decode cL_some 23 = .ok (.invokestatic 75, 3) := by decide +kernel
theorem dL_some_26 : decode cL_some 26 = .ok (.iastore, 1) := by decide +kernel
theorem dL_some_27 : decode cL_some 27 = .ok (.iinc 4 1, 3) := by decide +kernel
theorem dL_some_30 : decode cL_some 30 = .ok (.goto (-23), 3) := by decide +kernel
theorem dL_some_33 : decode cL_some 33 = .ok (.aload_n 3, 1) := by decide +kernel
theorem dL_some_34 : decode cL_some 34 = .ok (.iconst 0, 1) := by decide +kernel
theorem dL_some_35 : decode cL_some 35 = .ok (.newarray .int, 2) := by decide +kernel
theorem dL_some_37 : decode cL_some 37 = .ok (.invokestatic 79, 3) := by decide +kernel
theorem dL_some_40 : decode cL_some 40 = .ok (.areturn, 1) := by decide +kernel
set_option maxRecDepth 20000 in
theorem ggL_told_J0_charAt_5068e : GoodIn wsL_told wsJ0_charAt_5068e := goodIn_r _ [5, 6, 7, 8, 9, 4, 10, 11, 12, 13, 14, 15, 16, 17, 18, 19, 20, 21, 22, 23, 24, 25, 26, 27, 28, 29, 30, 31, 32, 33, 34, 35, 36, 37, 38, 39, 40, 41, 96, 97] (by decide +kernel) (by decide +kernel)
set_option maxRecDepth 20000 in
theorem gL_told_J0_charAt_5068e : GoodIn wsL_told (wsV RL 85 RJ0 yJ0_charAt_5068e wsJ0_charAt_5068e) := goodIn_app (goodIn_of _ (by decide +kernel)) ggL_told_J0_charAt_5068e
set_option maxRecDepth 20000 in
theorem ggL_told_L_type : GoodIn wsL_told wsL_type := goodIn_ca (goodIn_ca (goodIn_ca (goodIn_r _ [45, 46, 47, 48, 49, 50, 51, 52, 53, 54, 55, 56, 57, 58, 59, 60, 61, 62, 63, 64, 65, 98, 99, 100, 101, 102, 103, 104, 105, 106, 107, 108, 109, 110, 111, 112, 113, 114, 115] (by decide +kernel) (by decide +kernel)) (goodIn_sub (fun _ h => List.mem_cons_of_mem _ (List.mem_append_left _ (List.mem_append_right _ h))) (by decide +kernel))) (goodIn_sub (fun _ h => List.mem_cons_of_mem _ (List.mem_append_left _ (List.mem_append_left _ (List.mem_append_right _ h)))) (by decide +kernel))) (goodIn_sub (fun _ h => List.mem_cons_of_mem _ (List.mem_append_right _ h)) (by decide +kernel))
set_option maxRecDepth 20000 in
theorem gL_told_L_type : GoodIn wsL_told (va_wsS RL 91 yL_type wsL_type) := goodIn_app (goodIn_of _ (by decide +kernel)) ggL_told_L_type
set_option maxRecDepth 20000 in
theorem ggL_told_L_word : GoodIn wsL_told wsL_word := goodIn_ca (goodIn_ca (goodIn_r _ [68, 47, 48, 69, 70, 71, 53, 72, 73, 57, 58, 74, 75, 76, 77, 78, 79, 80, 81, 82, 83, 84, 85, 86, 87, 88, 55, 56, 89, 90, 91, 92, 93, 94, 95, 98, 99, 100, 101, 102, 103, 104, 105, 106, 107, 108, 109, 110, 111, 112, 113, 114, 115, 116, 117] (by decide +kernel) (by decide +kernel)) (goodIn_sub (fun _ h => List.mem_cons_of_mem _ (List.mem_append_left _ (List.mem_append_left _ (List.mem_append_right _ h)))) (by decide +kernel))) (goodIn_sub (fun _ h => List.mem_cons_of_mem _ (List.mem_append_left _ (List.mem_append_right _ h))) (by decide +kernel))
set_option maxRecDepth 20000 in
theorem gL_told_L_word : GoodIn wsL_told (va_wsS RL 94 yL_word wsL_word) := goodIn_app (goodIn_of _ (by decide +kernel)) ggL_told_L_word
theorem dL_told_0 : decode cL_told 0 = .ok (.iconst 1, 1) := by decide +kernel
theorem dL_told_1 : decode cL_told 1 = .ok (.istore_n 2, 1) := by decide +kernel
theorem dL_told_2 : decode cL_told 2 = .ok (.iconst 0, 1) := by decide +kernel
theorem dL_told_3 : decode cL_told 3 = .ok (.istore_n 3, 1) := by decide +kernel
theorem dL_told_4 : decode cL_told 4 = .ok (.iload_n 3, 1) := by decide +kernel
theorem dL_told_5 : decode cL_told 5 = .ok (.aload_n 1, 1) := by decide +kernel
theorem dL_told_6 : decode cL_told 6 = .ok (.arraylength, 1) := by decide +kernel
theorem dL_told_7 : decode cL_told 7 = .ok (.if_icmp .ge 35, 3) := by decide +kernel
theorem dL_told_10 : decode cL_told 10 = .ok (.iload_n 2, 1) := by decide +kernel
theorem dL_told_11 : decode cL_told 11 = .ok (.aload_n 0, 1) := by decide +kernel
theorem dL_told_12 : decode cL_told 12 = .ok (.ldc 83, 2) := by decide +kernel
theorem dL_told_14 : decode cL_told 14 = .ok (.aload_n 1, 1) := by decide +kernel
theorem dL_told_15 : decode cL_told 15 = .ok (.iload_n 3, 1) := by decide +kernel
theorem dL_told_16 : decode cL_told 16 = .ok (.iaload, 1) := by decide +kernel
theorem dL_told_17 : decode cL_told 17 = .ok (.invokevirtual 85, 3) := by decide +kernel
theorem dL_told_20 : decode cL_told 20 = .ok (.invokestatic 91, 3) := by decide +kernel
theorem dL_told_23 : decode cL_told 23 = .ok (.iload_n 3, 1) := by decide +kernel
theorem dL_told_24 : decode cL_told 24 = .ok (.iconst 1, 1) := by decide +kernel
theorem dL_told_25 : decode cL_told 25 = .ok (.iadd, 1) := by decide +kernel
theorem dL_told_26 : decode cL_told 26 = .ok (.if_icmp .ne 7, 3) := by decide +kernel
theorem dL_told_29 : decode cL_told 29 = .ok (.iconst 1, 1) := by decide +kernel
theorem dL_told_30 : decode cL_told 30 = .ok (.goto 4, 3) := by decide +kernel
theorem dL_told_33 : decode cL_told 33 = .ok (.iconst 0, 1) := by decide +kernel
theorem dL_told_34 : decode cL_told 34 = .ok (.iand, 1) := by decide +kernel
theorem dL_told_35 : decode cL_told 35 = .ok (.istore_n 2, 1) := by decide +kernel
theorem dL_told_36 : decode cL_told 36 = .ok (.iinc 3 1, 3) := by decide +kernel
theorem dL_told_39 : decode cL_told 39 = .ok (.goto (-35), 3) := by decide +kernel
theorem dL_told_42 : decode cL_told 42 = .ok (.iload_n 2, 1) := by decide +kernel
theorem dL_told_43 : decode cL_told 43 = .ok (.ifCond .eq 10, 3) := by decide +kernel
theorem dL_told_46 : decode cL_told 46 = .ok (.aload_n 0, 1) := by decide +kernel
theorem dL_told_47 : decode cL_told 47 = .ok (.invokestatic 94, 3) := by decide +kernel
theorem dL_told_50 : decode cL_told 50 = .ok (.goto 4, 3) := by decide +kernel
theorem dL_told_53 : decode cL_told 53 = .ok (.iconst (-1), 1) := by decide +kernel
theorem dL_told_54 : decode cL_told 54 = .ok (.ireturn, 1) := by decide +kernel
set_option maxRecDepth 20000 in
theorem ggL_isRow_L_length : GoodIn wsL_isRow wsL_length := goodIn_ca (goodIn_r _ [4, 5, 6, 7, 8, 9, 10, 11, 12, 13, 14, 15, 16, 17, 18, 19, 20, 75, 76, 77, 78, 79, 80, 81, 82, 83, 84, 85, 86, 87, 88, 89, 90, 91, 92, 93, 94] (by decide +kernel) (by decide +kernel)) (goodIn_sub (fun _ h => List.mem_cons_of_mem _ (List.mem_append_left _ (List.mem_append_right _ h))) (by decide +kernel))
set_option maxRecDepth 20000 in
theorem gL_isRow_L_length : GoodIn wsL_isRow (va_wsS RL 97 yL_length wsL_length) := goodIn_app (goodIn_of _ (by decide +kernel)) ggL_isRow_L_length
set_option maxRecDepth 20000 in
theorem ggL_isRow_L_letter : GoodIn wsL_isRow wsL_letter := goodIn_ca (goodIn_ca (goodIn_ca (goodIn_r _ [23, 5, 24, 6, 25, 26, 27, 28, 10, 29, 30, 31, 12, 32, 33, 13, 14, 15, 16, 17, 18, 19, 20, 75, 76, 77, 78, 79, 80, 81, 82, 83, 84, 85, 86, 87, 88, 89, 90, 91, 92, 93, 94] (by decide +kernel) (by decide +kernel)) (goodIn_sub (fun _ h => List.mem_cons_of_mem _ (List.mem_append_right _ h)) (by decide +kernel))) (goodIn_sub (fun _ h => List.mem_cons_of_mem _ (List.mem_append_left _ (List.mem_append_left _ (List.mem_append_right _ h)))) (by decide +kernel))) (goodIn_sub (fun _ h => List.mem_cons_of_mem _ (List.mem_append_left _ (List.mem_append_right _ h))) (by decide +kernel))
set_option maxRecDepth 20000 in
theorem gL_isRow_L_letter : GoodIn wsL_isRow (va_wsS RL 100 yL_letter wsL_letter) := goodIn_app (goodIn_of _ (by decide +kernel)) ggL_isRow_L_letter
set_option maxRecDepth 20000 in
theorem ggL_isRow_J0_charAt_5068e : GoodIn wsL_isRow wsJ0_charAt_5068e := goodIn_r _ [38, 39, 40, 41, 42, 37, 43, 44, 45, 46, 47, 48, 49, 50, 51, 52, 53, 54, 55, 56, 57, 58, 59, 60, 61, 62, 63, 64, 65, 66, 67, 68, 69, 70, 71, 72, 73, 74, 95, 96] (by decide +kernel) (by decide +kernel)
set_option maxRecDepth 20000 in
theorem gL_isRow_J0_charAt_5068e : GoodIn wsL_isRow (wsV RL 85 RJ0 yJ0_charAt_5068e wsJ0_charAt_5068e) := goodIn_app (goodIn_of _ (by decide +kernel)) ggL_isRow_J0_charAt_5068e
theorem dL_isRow_0 : decode cL_isRow 0 = .ok (.aload_n 0, 1) := by decide +kernel
theorem dL_isRow_1 : decode cL_isRow 1 = .ok (.iload_n 1, 1) := by decide +kernel
theorem dL_isRow_2 : decode cL_isRow 2 = .ok (.invokestatic 97, 3) := by decide +kernel
theorem dL_isRow_5 : decode cL_isRow 5 = .ok (.aload_n 2, 1) := by decide +kernel
theorem dL_isRow_6 : decode cL_isRow 6 = .ok (.arraylength, 1) := by decide +kernel
theorem dL_isRow_7 : decode cL_isRow 7 = .ok (.if_icmp .ne 7, 3) := by decide +kernel
theorem dL_isRow_10 : decode cL_isRow 10 = .ok (.iconst 1, 1) := by decide +kernel
theorem dL_isRow_11 : decode cL_isRow 11 = .ok (.goto 4, 3) := by decide +kernel
theorem dL_isRow_14 : decode cL_isRow 14 = .ok (.iconst 0, 1) := by decide +kernel
theorem dL_isRow_15 : decode cL_isRow 15 = .ok (.istore_n 3, 1) := by decide +kernel
theorem dL_isRow_16 : decode cL_isRow 16 = .ok (.iconst 0, 1) := by decide +kernel
theorem dL_isRow_17 : decode cL_isRow 17 = .ok (.istore 4, 2) := by decide +kernel
theorem dL_isRow_19 : decode cL_isRow 19 = .ok (.iload 4, 2) := by decide +kernel
theorem dL_isRow_21 : decode cL_isRow 21 = .ok (.aload_n 2, 1) := by decide +kernel
theorem dL_isRow_22 : decode cL_isRow 22 = .ok (.arraylength, 1) := by decide +kernel
theorem dL_isRow_23 : decode cL_isRow 23 = .ok (.if_icmp .ge 38, 3) := by decide +kernel
theorem dL_isRow_26 : decode cL_isRow 26 = .ok (.iload_n 3, 1) := by decide +kernel
theorem dL_isRow_27 : decode cL_isRow 27 = .ok (.ifCond .eq 34, 3) := by decide +kernel
theorem dL_isRow_30 : decode cL_isRow 30 = .ok (.aload_n 0, 1) := by decide +kernel
theorem dL_isRow_31 : decode cL_isRow 31 = .ok (.iload_n 1, 1) := by decide +kernel
theorem dL_isRow_32 : decode cL_isRow 32 = .ok (.iload 4, 2) := by decide +kernel
theorem dL_isRow_34 : decode cL_isRow 34 = .ok (.invokestatic 100, 3) := by decide +kernel
theorem dL_isRow_37 : decode cL_isRow 37 = .ok (.ldc 83, 2) := by decide +kernel
theorem dL_isRow_39 : decode cL_isRow 39 = .ok (.aload_n 2, 1) := by decide +kernel
theorem dL_isRow_40 : decode cL_isRow 40 = .ok (.iload 4, 2) := by decide +kernel
theorem dL_isRow_42 : decode cL_isRow 42 = .ok (.iaload, 1) := by decide +kernel
theorem dL_isRow_43 : decode cL_isRow 43 = .ok (.invokevirtual 85, 3) := by decide +kernel
theorem dL_isRow_46 : decode cL_isRow 46 = .ok (.if_icmp .ne 7, 3) := by decide +kernel
theorem dL_isRow_49 : decode cL_isRow 49 = .ok (.iconst 1, 1) := by decide +kernel
theorem dL_isRow_50 : decode cL_isRow 50 = .ok (.goto 4, 3) := by decide +kernel
theorem dL_isRow_53 : decode cL_isRow 53 = .ok (.iconst 0, 1) := by decide +kernel
theorem dL_isRow_54 : decode cL_isRow 54 = .ok (.istore_n 3, 1) := by decide +kernel
theorem dL_isRow_55 : decode cL_isRow 55 = .ok (.iinc 4 1, 3) := by decide +kernel
theorem dL_isRow_58 : decode cL_isRow 58 = .ok (.goto (-39), 3) := by decide +kernel
theorem dL_isRow_61 : decode cL_isRow 61 = .ok (.iload_n 3, 1) := by decide +kernel
theorem dL_isRow_62 : decode cL_isRow 62 = .ok (.ireturn, 1) := by decide +kernel
