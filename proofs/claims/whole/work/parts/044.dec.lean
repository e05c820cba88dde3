theorem dJ9_max_7cf53_0 : decode cJ9_max_7cf53 0 = .ok (.iload_n 0, 1) := by decide +kernel
theorem dJ9_max_7cf53_1 : decode cJ9_max_7cf53 1 = .ok (.iload_n 1, 1) := by decide +kernel
theorem dJ9_max_7cf53_2 : decode cJ9_max_7cf53 2 = .ok (.if_icmp .lt 7, 3) := by decide +kernel
theorem dJ9_max_7cf53_5 : decode cJ9_max_7cf53 5 = .ok (.iload_n 0, 1) := by decide +kernel
theorem dJ9_max_7cf53_6 : decode cJ9_max_7cf53 6 = .ok (.goto 4, 3) := by decide +kernel
theorem dJ9_max_7cf53_9 : decode cJ9_max_7cf53 9 = .ok (.iload_n 1, 1) := by decide +kernel
theorem dJ9_max_7cf53_10 : decode cJ9_max_7cf53 10 = .ok (.ireturn, 1) := by decide +kernel
theorem dJ9_min_7cf53_0 : decode cJ9_min_7cf53 0 = .ok (.iload_n 0, 1) := by decide +kernel
theorem dJ9_min_7cf53_1 : decode cJ9_min_7cf53 1 = .ok (.iload_n 1, 1) := by decide +kernel
theorem dJ9_min_7cf53_2 : decode cJ9_min_7cf53 2 = .ok (.if_icmp .gt 7, 3) := by decide +kernel
theorem dJ9_min_7cf53_5 : decode cJ9_min_7cf53 5 = .ok (.iload_n 0, 1) := by decide +kernel
theorem dJ9_min_7cf53_6 : decode cJ9_min_7cf53 6 = .ok (.goto 4, 3) := by decide +kernel
theorem dJ9_min_7cf53_9 : decode cJ9_min_7cf53 9 = .ok (.iload_n 1, 1) := by decide +kernel
theorem dJ9_min_7cf53_10 : decode cJ9_min_7cf53 10 = .ok (.ireturn, 1) := by decide +kernel
theorem dJ0_length_8abf5_0 : decode cJ0_length_8abf5 0 = .ok (.aload_n 0, 1) := by decide +kernel
theorem dJ0_length_8abf5_1 : decode cJ0_length_8abf5 1 = .ok (.getfield 9, 3) := by decide +kernel
theorem dJ0_length_8abf5_4 : decode cJ0_length_8abf5 4 = .ok (.arraylength, 1) := by decide +kernel
theorem dJ0_length_8abf5_5 : decode cJ0_length_8abf5 5 = .ok (.aload_n 0, 1) := by decide +kernel
theorem dJ0_length_8abf5_6 : decode cJ0_length_8abf5 6 = .ok (.invokevirtual 335, 3) := by decide +kernel
theorem dJ0_length_8abf5_9 : decode cJ0_length_8abf5 9 = .ok (.ishr, 1) := by decide +kernel
theorem dJ0_length_8abf5_10 : decode cJ0_length_8abf5 10 = .ok (.ireturn, 1) := by decide +kernel
theorem dJ0_charAt_5068e_0 : decode cJ0_charAt_5068e 0 = .ok (.aload_n 0, 1) := by decide +kernel
theorem dJ0_charAt_5068e_1 : decode cJ0_charAt_5068e 1 = .ok (.invokevirtual 492, 3) := by decide +kernel
theorem dJ0_charAt_5068e_4 : decode cJ0_charAt_5068e 4 = .ok (.ifCond .eq 12, 3) := by decide +kernel
theorem dJ0_charAt_5068e_7 : decode cJ0_charAt_5068e 7 = .ok (.aload_n 0, 1) := by decide +kernel
theorem dJ0_charAt_5068e_8 : decode cJ0_charAt_5068e 8 = .ok (.getfield 9, 3) := by decide +kernel
theorem dJ0_charAt_5068e_11 : decode cJ0_charAt_5068e 11 = .ok (.iload_n 1, 1) := by decide +kernel
theorem dJ0_charAt_5068e_12 : decode cJ0_charAt_5068e 12 = .ok (.invokestatic 495, 3) := by decide +kernel
theorem dJ0_charAt_5068e_15 : decode cJ0_charAt_5068e 15 = .ok (.ireturn, 1) := by decide +kernel
theorem dJ0_charAt_5068e_16 : decode cJ0_charAt_5068e 16 = .ok (.aload_n 0, 1) := by decide +kernel
theorem dJ0_charAt_5068e_17 : decode cJ0_charAt_5068e 17 = .ok (.getfield 9, 3) := by decide +kernel
theorem dJ0_charAt_5068e_20 : decode cJ0_charAt_5068e 20 = .ok (.iload_n 1, 1) := by decide +kernel
theorem dJ0_charAt_5068e_21 : decode cJ0_charAt_5068e 21 = .ok (.invokestatic 498, 3) := by decide +kernel
theorem dJ0_charAt_5068e_24 : decode cJ0_charAt_5068e 24 = .ok (.ireturn, 1) := by decide +kernel
theorem dJ0_coder_7d493_0 : decode cJ0_coder_7d493 0 = .ok (.getstatic 38, 3) := by decide +kernel
theorem dJ0_coder_7d493_3 : decode cJ0_coder_7d493 3 = .ok (.ifCond .eq 10, 3) := by decide +kernel
theorem dJ0_coder_7d493_6 : decode cJ0_coder_7d493 6 = .ok (.aload_n 0, 1) := by decide +kernel
theorem dJ0_coder_7d493_7 : decode cJ0_coder_7d493 7 = .ok (.getfield 15, 3) := by decide +kernel
theorem dJ0_coder_7d493_10 : decode cJ0_coder_7d493 10 = .ok (.goto 4, 3) := by decide +kernel
theorem dJ0_coder_7d493_13 : decode cJ0_coder_7d493 13 = .ok (.iconst 1, 1) := by decide +kernel
theorem dJ0_coder_7d493_14 : decode cJ0_coder_7d493 14 = .ok (.ireturn, 1) := by decide +kernel
theorem dJ0_isLatin1_aae02_0 : decode cJ0_isLatin1_aae02 0 = .ok (.getstatic 38, 3) := by decide +kernel
theorem dJ0_isLatin1_aae02_3 : decode cJ0_isLatin1_aae02 3 = .ok (.ifCond .eq 14, 3) := by decide +kernel
theorem dJ0_isLatin1_aae02_6 : decode cJ0_isLatin1_aae02 6 = .ok (.aload_n 0, 1) := by decide +kernel
theorem dJ0_isLatin1_aae02_7 : decode cJ0_isLatin1_aae02 7 = .ok (.getfield 15, 3) := by decide +kernel
theorem dJ0_isLatin1_aae02_10 : decode cJ0_isLatin1_aae02 10 = .ok (.ifCond .ne 7, 3) := by decide +kernel
theorem dJ0_isLatin1_aae02_13 : decode cJ0_isLatin1_aae02 13 = .ok (.iconst 1, 1) := by decide +kernel
theorem dJ0_isLatin1_aae02_14 : decode cJ0_isLatin1_aae02 14 = .ok (.goto 4, 3) := by decide +kernel
theorem dJ0_isLatin1_aae02_17 : decode cJ0_isLatin1_aae02 17 = .ok (.iconst 0, 1) := by decide +kernel
theorem dJ0_isLatin1_aae02_18 : decode cJ0_isLatin1_aae02 18 = .ok (.ireturn, 1) := by decide +kernel
theorem dJ0_checkIndex_df160_0 : decode cJ0_checkIndex_df160 0 = .ok (.iload_n 0, 1) := by decide +kernel
theorem dJ0_checkIndex_df160_1 : decode cJ0_checkIndex_df160 1 = .ok (.iload_n 1, 1) := by decide +kernel
theorem dJ0_checkIndex_df160_2 : decode cJ0_checkIndex_df160 2 = .ok (.getstatic 1053, 3) := by decide +kernel
theorem dJ0_checkIndex_df160_5 : decode cJ0_checkIndex_df160 5 = .ok (.invokestatic 1059, 3) := by decide +kernel
theorem dJ0_checkIndex_df160_8 : decode cJ0_checkIndex_df160 8 = .ok (.pop, 1) := by decide +kernel
theorem dJ0_checkIndex_df160_9 : decode cJ0_checkIndex_df160 9 = .ok (.return_, 1) := by decide +kernel
theorem dJ1_charAt_3b067_0 : decode cJ1_charAt_3b067 0 = .ok (.iload_n 1, 1) := by decide +kernel
theorem dJ1_charAt_3b067_1 : decode cJ1_charAt_3b067 1 = .ok (.aload_n 0, 1) := by decide +kernel
theorem dJ1_charAt_3b067_2 : decode cJ1_charAt_3b067 2 = .ok (.arraylength, 1) := by decide +kernel
theorem dJ1_charAt_3b067_3 : decode cJ1_charAt_3b067 3 = .ok (.invokestatic 9, 3) := by decide +kernel
theorem dJ1_charAt_3b067_6 : decode cJ1_charAt_3b067 6 = .ok (.aload_n 0, 1) := by decide +kernel
theorem dJ1_charAt_3b067_7 : decode cJ1_charAt_3b067 7 = .ok (.iload_n 1, 1) := by decide +kernel
theorem dJ1_charAt_3b067_8 : decode cJ1_charAt_3b067 8 = .ok (.baload, 1) := by decide +kernel
theorem dJ1_charAt_3b067_9 : decode cJ1_charAt_3b067 9 = .ok (.sipush 255, 3) := by decide +kernel
theorem dJ1_charAt_3b067_12 : decode cJ1_charAt_3b067 12 = .ok (.iand, 1) := by decide +kernel
theorem dJ1_charAt_3b067_13 : decode cJ1_charAt_3b067 13 = .ok (.i2c, 1) := by decide +kernel
theorem dJ1_charAt_3b067_14 : decode cJ1_charAt_3b067 14 = .ok (.ireturn, 1) := by decide +kernel
theorem dJ2_getChar_3b067_0 : decode cJ2_getChar_3b067 0 = .ok (.getstatic 44, 3) := by decide +kernel
theorem dJ2_getChar_3b067_3 : decode cJ2_getChar_3b067 3 = .ok (.ifCond .ne 25, 3) := by decide +kernel
theorem dJ2_getChar_3b067_6 : decode cJ2_getChar_3b067 6 = .ok (.iload_n 1, 1) := by decide +kernel
theorem dJ2_getChar_3b067_7 : decode cJ2_getChar_3b067 7 = .ok (.ifCond .lt 11, 3) := by decide +kernel
theorem dJ2_getChar_3b067_10 : decode cJ2_getChar_3b067 10 = .ok (.iload_n 1, 1) := by decide +kernel
theorem dJ2_getChar_3b067_11 : decode cJ2_getChar_3b067 11 = .ok (.aload_n 0, 1) := by decide +kernel
theorem dJ2_getChar_3b067_12 : decode cJ2_getChar_3b067 12 = .ok (.invokestatic 48, 3) := by decide +kernel
theorem dJ2_getChar_3b067_15 : decode cJ2_getChar_3b067 15 = .ok (.if_icmp .lt 13, 3) := by decide +kernel
theorem dJ2_getChar_3b067_18 : decode cJ2_getChar_3b067 18 = .ok (.new 52, 3) := by decide +kernel
theorem dJ2_getChar_3b067_21 : decode cJ2_getChar_3b067 21 = .ok (.dup, 1) := by decide +kernel
theorem dJ2_getChar_3b067_22 : decode cJ2_getChar_3b067 22 = .ok (.ldc 54, 2) := by decide +kernel
theorem dJ2_getChar_3b067_24 : decode cJ2_getChar_3b067 24 = .ok (.invokespecial 56, 3) := by decide +kernel
theorem dJ2_getChar_3b067_27 : decode cJ2_getChar_3b067 27 = .ok (.athrow, 1) := by decide +kernel
theorem dJ2_getChar_3b067_28 : decode cJ2_getChar_3b067 28 = .ok (.iload_n 1, 1) := by decide +kernel
theorem dJ2_getChar_3b067_29 : decode cJ2_getChar_3b067 29 = .ok (.iconst 1, 1) := by decide +kernel
theorem dJ2_getChar_3b067_30 : decode cJ2_getChar_3b067 30 = .ok (.ishl, 1) := by decide +kernel
theorem dJ2_getChar_3b067_31 : decode cJ2_getChar_3b067 31 = .ok (.istore_n 1, 1) := by decide +kernel
theorem dJ2_getChar_3b067_32 : decode cJ2_getChar_3b067 32 = .ok (.aload_n 0, 1) := by decide +kernel
theorem dJ2_getChar_3b067_33 : decode cJ2_getChar_3b067 33 = .ok (.iload_n 1, 1) := by decide +kernel
theorem dJ2_getChar_3b067_34 : decode cJ2_getChar_3b067 34 = .ok (.iinc 1 1, 3) := by decide +kernel
theorem dJ2_getChar_3b067_37 : decode cJ2_getChar_3b067 37 = .ok (.baload, 1) := by decide +kernel
theorem dJ2_getChar_3b067_38 : decode cJ2_getChar_3b067 38 = .ok (.sipush 255, 3) := by decide +kernel
theorem dJ2_getChar_3b067_41 : decode cJ2_getChar_3b067 41 = .ok (.iand, 1) := by decide +kernel
theorem dJ2_getChar_3b067_42 : decode cJ2_getChar_3b067 42 = .ok (.getstatic 59, 3) := by decide +kernel
theorem dJ2_getChar_3b067_45 : decode cJ2_getChar_3b067 45 = .ok (.ishl, 1) := by decide +kernel
theorem dJ2_getChar_3b067_46 : decode cJ2_getChar_3b067 46 = .ok (.aload_n 0, 1) := by decide +kernel
theorem dJ2_getChar_3b067_47 : decode cJ2_getChar_3b067 47 = .ok (.iload_n 1, 1) := by decide +kernel
theorem dJ2_getChar_3b067_48 : decode cJ2_getChar_3b067 48 = .ok (.baload, 1) := by decide +kernel
theorem dJ2_getChar_3b067_49 : decode cJ2_getChar_3b067 49 = .ok (.sipush 255, 3) := by decide +kernel
theorem dJ2_getChar_3b067_52 : decode cJ2_getChar_3b067 52 = .ok (.iand, 1) := by decide +kernel
theorem dJ2_getChar_3b067_53 : decode cJ2_getChar_3b067 53 = .ok (.getstatic 63, 3) := by decide +kernel
theorem dJ2_getChar_3b067_56 : decode cJ2_getChar_3b067 56 = .ok (.ishl, 1) := by decide +kernel
theorem dJ2_getChar_3b067_57 : decode cJ2_getChar_3b067 57 = .ok (.ior, 1) := by decide +kernel
theorem dJ2_getChar_3b067_58 : decode cJ2_getChar_3b067 58 = .ok (.i2c, 1) := by decide +kernel
theorem dJ2_getChar_3b067_59 : decode cJ2_getChar_3b067 59 = .ok (.ireturn, 1) := by decide +kernel
theorem dJ2_length_9d52b_0 : decode cJ2_length_9d52b 0 = .ok (.aload_n 0, 1) := by decide +kernel
theorem dJ2_length_9d52b_1 : decode cJ2_length_9d52b 1 = .ok (.arraylength, 1) := by decide +kernel
theorem dJ2_length_9d52b_2 : decode cJ2_length_9d52b 2 = .ok (.iconst 1, 1) := by decide +kernel
theorem dJ2_length_9d52b_3 : decode cJ2_length_9d52b 3 = .ok (.ishr, 1) := by decide +kernel
theorem dJ2_length_9d52b_4 : decode cJ2_length_9d52b 4 = .ok (.ireturn, 1) := by decide +kernel
theorem dJ2_charAt_3b067_0 : decode cJ2_charAt_3b067 0 = .ok (.iload_n 1, 1) := by decide +kernel
theorem dJ2_charAt_3b067_1 : decode cJ2_charAt_3b067 1 = .ok (.aload_n 0, 1) := by decide +kernel
theorem dJ2_charAt_3b067_2 : decode cJ2_charAt_3b067 2 = .ok (.invokestatic 67, 3) := by decide +kernel
theorem dJ2_charAt_3b067_5 : decode cJ2_charAt_3b067 5 = .ok (.aload_n 0, 1) := by decide +kernel
theorem dJ2_charAt_3b067_6 : decode cJ2_charAt_3b067 6 = .ok (.iload_n 1, 1) := by decide +kernel
theorem dJ2_charAt_3b067_7 : decode cJ2_charAt_3b067 7 = .ok (.invokestatic 71, 3) := by decide +kernel
theorem dJ2_charAt_3b067_10 : decode cJ2_charAt_3b067 10 = .ok (.ireturn, 1) := by decide +kernel
theorem dJ2_checkIndex_2214a_0 : decode cJ2_checkIndex_2214a 0 = .ok (.iload_n 0, 1) := by decide +kernel
theorem dJ2_checkIndex_2214a_1 : decode cJ2_checkIndex_2214a 1 = .ok (.aload_n 1, 1) := by decide +kernel
theorem dJ2_checkIndex_2214a_2 : decode cJ2_checkIndex_2214a 2 = .ok (.invokestatic 48, 3) := by decide +kernel
theorem dJ2_checkIndex_2214a_5 : decode cJ2_checkIndex_2214a 5 = .ok (.invokestatic 414, 3) := by decide +kernel
theorem dJ2_checkIndex_2214a_8 : decode cJ2_checkIndex_2214a 8 = .ok (.return_, 1) := by decide +kernel
theorem dJ3_checkIndex_8e157_0 : decode cJ3_checkIndex_8e157 0 = .ok (.iload_n 0, 1) := by decide +kernel
theorem dJ3_checkIndex_8e157_1 : decode cJ3_checkIndex_8e157 1 = .ok (.ifCond .lt 8, 3) := by decide +kernel
theorem dJ3_checkIndex_8e157_4 : decode cJ3_checkIndex_8e157 4 = .ok (.iload_n 0, 1) := by decide +kernel
theorem dJ3_checkIndex_8e157_5 : decode cJ3_checkIndex_8e157 5 = .ok (.iload_n 1, 1) := by decide +kernel
theorem dJ3_checkIndex_8e157_6 : decode cJ3_checkIndex_8e157 6 = .ok (.if_icmp .lt 10, 3) := by decide +kernel
theorem dJ3_checkIndex_8e157_9 : decode cJ3_checkIndex_8e157 9 = .ok (.aload_n 2, 1) := by decide +kernel
theorem dJ3_checkIndex_8e157_10 : decode cJ3_checkIndex_8e157 10 = .ok (.iload_n 0, 1) := by decide +kernel
theorem dJ3_checkIndex_8e157_11 : decode cJ3_checkIndex_8e157 11 = .ok (.iload_n 1, 1) := by decide +kernel
theorem dJ3_checkIndex_8e157_12 : decode cJ3_checkIndex_8e157 12 = .ok (.invokestatic 95, 3) := by decide +kernel
theorem dJ3_checkIndex_8e157_15 : decode cJ3_checkIndex_8e157 15 = .ok (.athrow, 1) := by decide +kernel
theorem dJ3_checkIndex_8e157_16 : decode cJ3_checkIndex_8e157 16 = .ok (.iload_n 0, 1) := by decide +kernel
theorem dJ3_checkIndex_8e157_17 : decode cJ3_checkIndex_8e157 17 = .ok (.ireturn, 1) := by decide +kernel
theorem dL_load_0 : decode cL_load 0 = .ok (.aload_n 2, 1) := by decide +kernel
theorem dL_load_1 : decode cL_load 1 = .ok (.iconst 0, 1) := by decide +kernel
theorem dL_load_2 : decode cL_load 2 = .ok (.aload_n 0, 1) := by decide +kernel
theorem dL_load_3 : decode cL_load 3 = .ok (.iload_n 1, 1) := by decide +kernel
theorem dL_load_4 : decode cL_load 4 = .ok (.invokevirtual 7, 3) := by decide +kernel
theorem dL_load_7 : decode cL_load 7 = .ok (.i2l, 1) := by decide +kernel
theorem dL_load_8 : decode cL_load 8 = .ok (.lastore, 1) := by decide +kernel
theorem dL_load_9 : decode cL_load 9 = .ok (.goto 9, 3) := by decide +kernel
theorem dL_load_12 : decode cL_load 12 = .ok (.astore_n 3, 1) := by decide +kernel
theorem dL_load_13 : decode cL_load 13 = .ok (.iconst 1, 1) := by decide +kernel
theorem dL_load_14 : decode cL_load 14 = .ok (.ireturn, 1) := by decide +kernel
theorem dL_load_15 : decode cL_load 15 = .ok (.astore_n 3, 1) := by decide +kernel
theorem dL_load_16 : decode cL_load 16 = .ok (.iconst 2, 1) := by decide +kernel
theorem dL_load_17 : decode cL_load 17 = .ok (.ireturn, 1) := by decide +kernel
theorem dL_load_18 : decode cL_load 18 = .ok (.iconst 0, 1) := by decide +kernel
theorem dL_load_19 : decode cL_load 19 = .ok (.ireturn, 1) := by decide +kernel
theorem dL_count_0 : decode cL_count 0 = .ok (.aload_n 2, 1) := by decide +kernel
theorem dL_count_1 : decode cL_count 1 = .ok (.iconst 0, 1) := by decide +kernel
theorem dL_count_2 : decode cL_count 2 = .ok (.aload_n 0, 1) := by decide +kernel
theorem dL_count_3 : decode cL_count 3 = .ok (.iload_n 1, 1) := by decide +kernel
theorem dL_count_4 : decode cL_count 4 = .ok (.invokevirtual 17, 3) := by decide +kernel
theorem dL_count_7 : decode cL_count 7 = .ok (.i2l, 1) := by decide +kernel
theorem dL_count_8 : decode cL_count 8 = .ok (.lastore, 1) := by decide +kernel
theorem dL_count_9 : decode cL_count 9 = .ok (.goto 9, 3) := by decide +kernel
theorem dL_count_12 : decode cL_count 12 = .ok (.astore_n 3, 1) := by decide +kernel
theorem dL_count_13 : decode cL_count 13 = .ok (.iconst 1, 1) := by decide +kernel
theorem dL_count_14 : decode cL_count 14 = .ok (.ireturn, 1) := by decide +kernel
theorem dL_count_15 : decode cL_count 15 = .ok (.astore_n 3, 1) := by decide +kernel
theorem dL_count_16 : decode cL_count 16 = .ok (.iconst 2, 1) := by decide +kernel
theorem dL_count_17 : decode cL_count 17 = .ok (.ireturn, 1) := by decide +kernel
theorem dL_count_18 : decode cL_count 18 = .ok (.iconst 0, 1) := by decide +kernel
theorem dL_count_19 : decode cL_count 19 = .ok (.ireturn, 1) := by decide +kernel
theorem dL_slot_0 : decode cL_slot 0 = .ok (.aload_n 3, 1) := by decide +kernel
theorem dL_slot_1 : decode cL_slot 1 = .ok (.iconst 0, 1) := by decide +kernel
theorem dL_slot_2 : decode cL_slot 2 = .ok (.aload_n 0, 1) := by decide +kernel
theorem dL_slot_3 : decode cL_slot 3 = .ok (.iload_n 1, 1) := by decide +kernel
theorem dL_slot_4 : decode cL_slot 4 = .ok (.iload_n 2, 1) := by decide +kernel
theorem dL_slot_5 : decode cL_slot 5 = .ok (.invokevirtual 22, 3) := by decide +kernel
theorem dL_slot_8 : decode cL_slot 8 = .ok (.i2l, 1) := by decide +kernel
theorem dL_slot_9 : decode cL_slot 9 = .ok (.lastore, 1) := by decide +kernel
theorem dL_slot_10 : decode cL_slot 10 = .ok (.goto 15, 3) := by decide +kernel
theorem dL_slot_13 : decode cL_slot 13 = .ok (.astore 4, 2) := by decide +kernel
theorem dL_slot_15 : decode cL_slot 15 = .ok (.iconst 1, 1) := by decide +kernel
theorem dL_slot_16 : decode cL_slot 16 = .ok (.ireturn, 1) := by decide +kernel
theorem dL_slot_17 : decode cL_slot 17 = .ok (.astore 4, 2) := by decide +kernel
theorem dL_slot_19 : decode cL_slot 19 = .ok (.iconst 2, 1) := by decide +kernel
theorem dL_slot_20 : decode cL_slot 20 = .ok (.ireturn, 1) := by decide +kernel
theorem dL_slot_21 : decode cL_slot 21 = .ok (.astore 4, 2) := by decide +kernel
theorem dL_slot_23 : decode cL_slot 23 = .ok (.iconst 3, 1) := by decide +kernel
theorem dL_slot_24 : decode cL_slot 24 = .ok (.ireturn, 1) := by decide +kernel
theorem dL_slot_25 : decode cL_slot 25 = .ok (.iconst 0, 1) := by decide +kernel
theorem dL_slot_26 : decode cL_slot 26 = .ok (.ireturn, 1) := by decide +kernel
theorem dL_image_0 : decode cL_image 0 = .ok (.aload_n 3, 1) := by decide +kernel
theorem dL_image_1 : decode cL_image 1 = .ok (.iconst 0, 1) := by decide +kernel
theorem dL_image_2 : decode cL_image 2 = .ok (.aload_n 0, 1) := by decide +kernel
theorem dL_image_3 : decode cL_image 3 = .ok (.iload_n 1, 1) := by decide +kernel
theorem dL_image_4 : decode cL_image 4 = .ok (.iload_n 2, 1) := by decide +kernel
theorem dL_image_5 : decode cL_image 5 = .ok (.invokevirtual 26, 3) := by decide +kernel
theorem dL_image_8 : decode cL_image 8 = .ok (.i2l, 1) := by decide +kernel
theorem dL_image_9 : decode cL_image 9 = .ok (.lastore, 1) := by decide +kernel
theorem dL_image_10 : decode cL_image 10 = .ok (.goto 15, 3) := by decide +kernel
theorem dL_image_13 : decode cL_image 13 = .ok (.astore 4, 2) := by decide +kernel
theorem dL_image_15 : decode cL_image 15 = .ok (.iconst 1, 1) := by decide +kernel
theorem dL_image_16 : decode cL_image 16 = .ok (.ireturn, 1) := by decide +kernel
theorem dL_image_17 : decode cL_image 17 = .ok (.astore 4, 2) := by decide +kernel
theorem dL_image_19 : decode cL_image 19 = .ok (.iconst 2, 1) := by decide +kernel
theorem dL_image_20 : decode cL_image 20 = .ok (.ireturn, 1) := by decide +kernel
theorem dL_image_21 : decode cL_image 21 = .ok (.astore 4, 2) := by decide +kernel
theorem dL_image_23 : decode cL_image 23 = .ok (.iconst 3, 1) := by decide +kernel
theorem dL_image_24 : decode cL_image 24 = .ok (.ireturn, 1) := by decide +kernel
theorem dL_image_25 : decode cL_image 25 = .ok (.iconst 0, 1) := by decide +kernel
theorem dL_image_26 : decode cL_image 26 = .ok (.ireturn, 1) := by decide +kernel
theorem dL_install_0 : decode cL_install 0 = .ok (.aload_n 2, 1) := by decide +kernel
theorem dL_install_1 : decode cL_install 1 = .ok (.iconst 0, 1) := by decide +kernel
theorem dL_install_2 : decode cL_install 2 = .ok (.aload_n 0, 1) := by decide +kernel
theorem dL_install_3 : decode cL_install 3 = .ok (.iload_n 1, 1) := by decide +kernel
theorem dL_install_4 : decode cL_install 4 = .ok (.invokevirtual 29, 3) := by decide +kernel
theorem dL_install_7 : decode cL_install 7 = .ok (.i2l, 1) := by decide +kernel
theorem dL_install_8 : decode cL_install 8 = .ok (.lastore, 1) := by decide +kernel
theorem dL_install_9 : decode cL_install 9 = .ok (.goto 9, 3) := by decide +kernel
theorem dL_install_12 : decode cL_install 12 = .ok (.astore_n 3, 1) := by decide +kernel
theorem dL_install_13 : decode cL_install 13 = .ok (.iconst 1, 1) := by decide +kernel
theorem dL_install_14 : decode cL_install 14 = .ok (.ireturn, 1) := by decide +kernel
theorem dL_install_15 : decode cL_install 15 = .ok (.astore_n 3, 1) := by decide +kernel
theorem dL_install_16 : decode cL_install 16 = .ok (.iconst 2, 1) := by decide +kernel
theorem dL_install_17 : decode cL_install 17 = .ok (.ireturn, 1) := by decide +kernel
theorem dL_install_18 : decode cL_install 18 = .ok (.iconst 0, 1) := by decide +kernel
theorem dL_install_19 : decode cL_install 19 = .ok (.ireturn, 1) := by decide +kernel
theorem dL_boot_0 : decode cL_boot 0 = .ok (.aload_n 3, 1) := by decide +kernel
theorem dL_boot_1 : decode cL_boot 1 = .ok (.iconst 0, 1) := by decide +kernel
theorem dL_boot_2 : decode cL_boot 2 = .ok (.aload_n 0, 1) := by decide +kernel
theorem dL_boot_3 : decode cL_boot 3 = .ok (.iload_n 1, 1) := by decide +kernel
theorem dL_boot_4 : decode cL_boot 4 = .ok (.iload_n 2, 1) := by decide +kernel
theorem dL_boot_5 : decode cL_boot 5 = .ok (.invokevirtual 32, 3) := by decide +kernel
theorem dL_boot_8 : decode cL_boot 8 = .ok (.i2l, 1) := by decide +kernel
theorem dL_boot_9 : decode cL_boot 9 = .ok (.lastore, 1) := by decide +kernel
theorem dL_boot_10 : decode cL_boot 10 = .ok (.goto 11, 3) := by decide +kernel
theorem dL_boot_13 : decode cL_boot 13 = .ok (.astore 4, 2) := by decide +kernel
theorem dL_boot_15 : decode cL_boot 15 = .ok (.iconst 1, 1) := by decide +kernel
theorem dL_boot_16 : decode cL_boot 16 = .ok (.ireturn, 1) := by decide +kernel
theorem dL_boot_17 : decode cL_boot 17 = .ok (.astore 4, 2) := by decide +kernel
theorem dL_boot_19 : decode cL_boot 19 = .ok (.iconst 2, 1) := by decide +kernel
theorem dL_boot_20 : decode cL_boot 20 = .ok (.ireturn, 1) := by decide +kernel
theorem dL_boot_21 : decode cL_boot 21 = .ok (.iconst 0, 1) := by decide +kernel
theorem dL_boot_22 : decode cL_boot 22 = .ok (.ireturn, 1) := by decide +kernel
theorem dL_whyNot_0 : decode cL_whyNot 0 = .ok (.aload_n 2, 1) := by decide +kernel
theorem dL_whyNot_1 : decode cL_whyNot 1 = .ok (.iconst 0, 1) := by decide +kernel
theorem dL_whyNot_2 : decode cL_whyNot 2 = .ok (.aload_n 0, 1) := by decide +kernel
theorem dL_whyNot_3 : decode cL_whyNot 3 = .ok (.iload_n 1, 1) := by decide +kernel
theorem dL_whyNot_4 : decode cL_whyNot 4 = .ok (.invokevirtual 35, 3) := by decide +kernel
theorem dL_whyNot_7 : decode cL_whyNot 7 = .ok (.i2l, 1) := by decide +kernel
theorem dL_whyNot_8 : decode cL_whyNot 8 = .ok (.lastore, 1) := by decide +kernel
theorem dL_whyNot_9 : decode cL_whyNot 9 = .ok (.goto 9, 3) := by decide +kernel
theorem dL_whyNot_12 : decode cL_whyNot 12 = .ok (.astore_n 3, 1) := by decide +kernel
theorem dL_whyNot_13 : decode cL_whyNot 13 = .ok (.iconst 1, 1) := by decide +kernel
theorem dL_whyNot_14 : decode cL_whyNot 14 = .ok (.ireturn, 1) := by decide +kernel
theorem dL_whyNot_15 : decode cL_whyNot 15 = .ok (.astore_n 3, 1) := by decide +kernel
theorem dL_whyNot_16 : decode cL_whyNot 16 = .ok (.iconst 2, 1) := by decide +kernel
theorem dL_whyNot_17 : decode cL_whyNot 17 = .ok (.ireturn, 1) := by decide +kernel
theorem dL_whyNot_18 : decode cL_whyNot 18 = .ok (.iconst 0, 1) := by decide +kernel
theorem dL_whyNot_19 : decode cL_whyNot 19 = .ok (.ireturn, 1) := by decide +kernel
theorem dL_choice_0 : decode cL_choice 0 = .ok (.aload_n 1, 1) := by decide +kernel
theorem dL_choice_1 : decode cL_choice 1 = .ok (.iconst 0, 1) := by decide +kernel
theorem dL_choice_2 : decode cL_choice 2 = .ok (.aload_n 0, 1) := by decide +kernel
theorem dL_choice_3 : decode cL_choice 3 = .ok (.invokevirtual 38, 3) := by decide +kernel
theorem dL_choice_6 : decode cL_choice 6 = .ok (.i2l, 1) := by decide +kernel
theorem dL_choice_7 : decode cL_choice 7 = .ok (.lastore, 1) := by decide +kernel
theorem dL_choice_8 : decode cL_choice 8 = .ok (.goto 6, 3) := by decide +kernel
theorem dL_choice_11 : decode cL_choice 11 = .ok (.astore_n 2, 1) := by decide +kernel
theorem dL_choice_12 : decode cL_choice 12 = .ok (.iconst 1, 1) := by decide +kernel
theorem dL_choice_13 : decode cL_choice 13 = .ok (.ireturn, 1) := by decide +kernel
theorem dL_choice_14 : decode cL_choice 14 = .ok (.iconst 0, 1) := by decide +kernel
theorem dL_choice_15 : decode cL_choice 15 = .ok (.ireturn, 1) := by decide +kernel
theorem dL_place_0 : decode cL_place 0 = .ok (.aload_n 2, 1) := by decide +kernel
theorem dL_place_1 : decode cL_place 1 = .ok (.iconst 0, 1) := by decide +kernel
theorem dL_place_2 : decode cL_place 2 = .ok (.aload_n 0, 1) := by decide +kernel
theorem dL_place_3 : decode cL_place 3 = .ok (.iload_n 1, 1) := by decide +kernel
theorem dL_place_4 : decode cL_place 4 = .ok (.invokevirtual 42, 3) := by decide +kernel
theorem dL_place_7 : decode cL_place 7 = .ok (.i2l, 1) := by decide +kernel
theorem dL_place_8 : decode cL_place 8 = .ok (.lastore, 1) := by decide +kernel
theorem dL_place_9 : decode cL_place 9 = .ok (.goto 9, 3) := by decide +kernel
theorem dL_place_12 : decode cL_place 12 = .ok (.astore_n 3, 1) := by decide +kernel
theorem dL_place_13 : decode cL_place 13 = .ok (.iconst 1, 1) := by decide +kernel
theorem dL_place_14 : decode cL_place 14 = .ok (.ireturn, 1) := by decide +kernel
theorem dL_place_15 : decode cL_place 15 = .ok (.astore_n 3, 1) := by decide +kernel
theorem dL_place_16 : decode cL_place 16 = .ok (.iconst 2, 1) := by decide +kernel
theorem dL_place_17 : decode cL_place 17 = .ok (.ireturn, 1) := by decide +kernel
theorem dL_place_18 : decode cL_place 18 = .ok (.iconst 0, 1) := by decide +kernel
theorem dL_place_19 : decode cL_place 19 = .ok (.ireturn, 1) := by decide +kernel
theorem dL_newest_0 : decode cL_newest 0 = .ok (.aload_n 1, 1) := by decide +kernel
theorem dL_newest_1 : decode cL_newest 1 = .ok (.iconst 0, 1) := by decide +kernel
theorem dL_newest_2 : decode cL_newest 2 = .ok (.aload_n 0, 1) := by decide +kernel
theorem dL_newest_3 : decode cL_newest 3 = .ok (.invokevirtual 45, 3) := by decide +kernel
theorem dL_newest_6 : decode cL_newest 6 = .ok (.i2l, 1) := by decide +kernel
theorem dL_newest_7 : decode cL_newest 7 = .ok (.lastore, 1) := by decide +kernel
theorem dL_newest_8 : decode cL_newest 8 = .ok (.goto 6, 3) := by decide +kernel
theorem dL_newest_11 : decode cL_newest 11 = .ok (.astore_n 2, 1) := by decide +kernel
theorem dL_newest_12 : decode cL_newest 12 = .ok (.iconst 1, 1) := by decide +kernel
theorem dL_newest_13 : decode cL_newest 13 = .ok (.ireturn, 1) := by decide +kernel
theorem dL_newest_14 : decode cL_newest 14 = .ok (.iconst 0, 1) := by decide +kernel
theorem dL_newest_15 : decode cL_newest 15 = .ok (.ireturn, 1) := by decide +kernel
theorem dL_spare_0 : decode cL_spare 0 = .ok (.aload_n 1, 1) := by decide +kernel
theorem dL_spare_1 : decode cL_spare 1 = .ok (.iconst 0, 1) := by decide +kernel
theorem dL_spare_2 : decode cL_spare 2 = .ok (.aload_n 0, 1) := by decide +kernel
theorem dL_spare_3 : decode cL_spare 3 = .ok (.invokevirtual 48, 3) := by decide +kernel
theorem dL_spare_6 : decode cL_spare 6 = .ok (.i2l, 1) := by decide +kernel
theorem dL_spare_7 : decode cL_spare 7 = .ok (.lastore, 1) := by decide +kernel
theorem dL_spare_8 : decode cL_spare 8 = .ok (.goto 6, 3) := by decide +kernel
theorem dL_spare_11 : decode cL_spare 11 = .ok (.astore_n 2, 1) := by decide +kernel
theorem dL_spare_12 : decode cL_spare 12 = .ok (.iconst 1, 1) := by decide +kernel
theorem dL_spare_13 : decode cL_spare 13 = .ok (.ireturn, 1) := by decide +kernel
theorem dL_spare_14 : decode cL_spare 14 = .ok (.iconst 0, 1) := by decide +kernel
theorem dL_spare_15 : decode cL_spare 15 = .ok (.ireturn, 1) := by decide +kernel
theorem dL_fallback_0 : decode cL_fallback 0 = .ok (.aload_n 1, 1) := by decide +kernel
theorem dL_fallback_1 : decode cL_fallback 1 = .ok (.iconst 0, 1) := by decide +kernel
theorem dL_fallback_2 : decode cL_fallback 2 = .ok (.aload_n 0, 1) := by decide +kernel
theorem dL_fallback_3 : decode cL_fallback 3 = .ok (.invokevirtual 51, 3) := by decide +kernel
theorem dL_fallback_6 : decode cL_fallback 6 = .ok (.i2l, 1) := by decide +kernel
theorem dL_fallback_7 : decode cL_fallback 7 = .ok (.lastore, 1) := by decide +kernel
theorem dL_fallback_8 : decode cL_fallback 8 = .ok (.goto 6, 3) := by decide +kernel
theorem dL_fallback_11 : decode cL_fallback 11 = .ok (.astore_n 2, 1) := by decide +kernel
theorem dL_fallback_12 : decode cL_fallback 12 = .ok (.iconst 1, 1) := by decide +kernel
theorem dL_fallback_13 : decode cL_fallback 13 = .ok (.ireturn, 1) := by decide +kernel
theorem dL_fallback_14 : decode cL_fallback 14 = .ok (.iconst 0, 1) := by decide +kernel
theorem dL_fallback_15 : decode cL_fallback 15 = .ok (.ireturn, 1) := by decide +kernel
theorem dL_weakest_0 : decode cL_weakest 0 = .ok (.aload_n 1, 1) := by decide +kernel
theorem dL_weakest_1 : decode cL_weakest 1 = .ok (.iconst 0, 1) := by decide +kernel
theorem dL_weakest_2 : decode cL_weakest 2 = .ok (.aload_n 0, 1) := by decide +kernel
theorem dL_weakest_3 : decode cL_weakest 3 = .ok (.invokevirtual 54, 3) := by decide +kernel
theorem dL_weakest_6 : decode cL_weakest 6 = .ok (.i2l, 1) := by decide +kernel
theorem dL_weakest_7 : decode cL_weakest 7 = .ok (.lastore, 1) := by decide +kernel
theorem dL_weakest_8 : decode cL_weakest 8 = .ok (.goto 6, 3) := by decide +kernel
theorem dL_weakest_11 : decode cL_weakest 11 = .ok (.astore_n 2, 1) := by decide +kernel
theorem dL_weakest_12 : decode cL_weakest 12 = .ok (.iconst 1, 1) := by decide +kernel
theorem dL_weakest_13 : decode cL_weakest 13 = .ok (.ireturn, 1) := by decide +kernel
theorem dL_weakest_14 : decode cL_weakest 14 = .ok (.iconst 0, 1) := by decide +kernel
theorem dL_weakest_15 : decode cL_weakest 15 = .ok (.ireturn, 1) := by decide +kernel
theorem dL_twins_0 : decode cL_twins 0 = .ok (.aload_n 2, 1) := by decide +kernel
theorem dL_twins_1 : decode cL_twins 1 = .ok (.iconst 0, 1) := by decide +kernel
theorem dL_twins_2 : decode cL_twins 2 = .ok (.aload_n 0, 1) := by decide +kernel
theorem dL_twins_3 : decode cL_twins 3 = .ok (.iload_n 1, 1) := by decide +kernel
theorem dL_twins_4 : decode cL_twins 4 = .ok (.invokevirtual 57, 3) := by decide +kernel
theorem dL_twins_7 : decode cL_twins 7 = .ok (.i2l, 1) := by decide +kernel
theorem dL_twins_8 : decode cL_twins 8 = .ok (.lastore, 1) := by decide +kernel
theorem dL_twins_9 : decode cL_twins 9 = .ok (.goto 9, 3) := by decide +kernel
theorem dL_twins_12 : decode cL_twins 12 = .ok (.astore_n 3, 1) := by decide +kernel
theorem dL_twins_13 : decode cL_twins 13 = .ok (.iconst 1, 1) := by decide +kernel
theorem dL_twins_14 : decode cL_twins 14 = .ok (.ireturn, 1) := by decide +kernel
theorem dL_twins_15 : decode cL_twins 15 = .ok (.astore_n 3, 1) := by decide +kernel
theorem dL_twins_16 : decode cL_twins 16 = .ok (.iconst 2, 1) := by decide +kernel
theorem dL_twins_17 : decode cL_twins 17 = .ok (.ireturn, 1) := by decide +kernel
theorem dL_twins_18 : decode cL_twins 18 = .ok (.iconst 0, 1) := by decide +kernel
theorem dL_twins_19 : decode cL_twins 19 = .ok (.ireturn, 1) := by decide +kernel
theorem dL_sinking_0 : decode cL_sinking 0 = .ok (.aload_n 1, 1) := by decide +kernel
theorem dL_sinking_1 : decode cL_sinking 1 = .ok (.iconst 0, 1) := by decide +kernel
theorem dL_sinking_2 : decode cL_sinking 2 = .ok (.aload_n 0, 1) := by decide +kernel
theorem dL_sinking_3 : decode cL_sinking 3 = .ok (.invokevirtual 60, 3) := by decide +kernel
theorem dL_sinking_6 : decode cL_sinking 6 = .ok (.i2l, 1) := by decide +kernel
theorem dL_sinking_7 : decode cL_sinking 7 = .ok (.lastore, 1) := by decide +kernel
theorem dL_sinking_8 : decode cL_sinking 8 = .ok (.goto 6, 3) := by decide +kernel
theorem dL_sinking_11 : decode cL_sinking 11 = .ok (.astore_n 2, 1) := by decide +kernel
theorem dL_sinking_12 : decode cL_sinking 12 = .ok (.iconst 1, 1) := by decide +kernel
theorem dL_sinking_13 : decode cL_sinking 13 = .ok (.ireturn, 1) := by decide +kernel
theorem dL_sinking_14 : decode cL_sinking 14 = .ok (.iconst 0, 1) := by decide +kernel
theorem dL_sinking_15 : decode cL_sinking 15 = .ok (.ireturn, 1) := by decide +kernel
theorem dL_floorWith_0 : decode cL_floorWith 0 = .ok (.aload_n 2, 1) := by decide +kernel
theorem dL_floorWith_1 : decode cL_floorWith 1 = .ok (.iconst 0, 1) := by decide +kernel
theorem dL_floorWith_2 : decode cL_floorWith 2 = .ok (.aload_n 0, 1) := by decide +kernel
theorem dL_floorWith_3 : decode cL_floorWith 3 = .ok (.iload_n 1, 1) := by decide +kernel
theorem dL_floorWith_4 : decode cL_floorWith 4 = .ok (.invokevirtual 63, 3) := by decide +kernel
theorem dL_floorWith_7 : decode cL_floorWith 7 = .ok (.i2l, 1) := by decide +kernel
theorem dL_floorWith_8 : decode cL_floorWith 8 = .ok (.lastore, 1) := by decide +kernel
theorem dL_floorWith_9 : decode cL_floorWith 9 = .ok (.goto 9, 3) := by decide +kernel
theorem dL_floorWith_12 : decode cL_floorWith 12 = .ok (.astore_n 3, 1) := by decide +kernel
theorem dL_floorWith_13 : decode cL_floorWith 13 = .ok (.iconst 1, 1) := by decide +kernel
theorem dL_floorWith_14 : decode cL_floorWith 14 = .ok (.ireturn, 1) := by decide +kernel
theorem dL_floorWith_15 : decode cL_floorWith 15 = .ok (.astore_n 3, 1) := by decide +kernel
theorem dL_floorWith_16 : decode cL_floorWith 16 = .ok (.iconst 2, 1) := by decide +kernel
theorem dL_floorWith_17 : decode cL_floorWith 17 = .ok (.ireturn, 1) := by decide +kernel
theorem dL_floorWith_18 : decode cL_floorWith 18 = .ok (.iconst 0, 1) := by decide +kernel
theorem dL_floorWith_19 : decode cL_floorWith 19 = .ok (.ireturn, 1) := by decide +kernel
theorem dL_mayHold_0 : decode cL_mayHold 0 = .ok (.aload_n 2, 1) := by decide +kernel
theorem dL_mayHold_1 : decode cL_mayHold 1 = .ok (.iconst 0, 1) := by decide +kernel
theorem dL_mayHold_2 : decode cL_mayHold 2 = .ok (.aload_n 0, 1) := by decide +kernel
theorem dL_mayHold_3 : decode cL_mayHold 3 = .ok (.iload_n 1, 1) := by decide +kernel
theorem dL_mayHold_4 : decode cL_mayHold 4 = .ok (.invokevirtual 66, 3) := by decide +kernel
theorem dL_mayHold_7 : decode cL_mayHold 7 = .ok (.ifCond .eq 7, 3) := by decide +kernel
theorem dL_mayHold_10 : decode cL_mayHold 10 = .ok (.lconst 1, 1) := by decide +kernel
theorem dL_mayHold_11 : decode cL_mayHold 11 = .ok (.goto 4, 3) := by decide +kernel
theorem dL_mayHold_14 : decode cL_mayHold 14 = .ok (.lconst 0, 1) := by decide +kernel
theorem dL_mayHold_15 : decode cL_mayHold 15 = .ok (.lastore, 1) := by decide +kernel
theorem dL_mayHold_16 : decode cL_mayHold 16 = .ok (.goto 9, 3) := by decide +kernel
theorem dL_mayHold_19 : decode cL_mayHold 19 = .ok (.astore_n 3, 1) := by decide +kernel
theorem dL_mayHold_20 : decode cL_mayHold 20 = .ok (.iconst 1, 1) := by decide +kernel
theorem dL_mayHold_21 : decode cL_mayHold 21 = .ok (.ireturn, 1) := by decide +kernel
theorem dL_mayHold_22 : decode cL_mayHold 22 = .ok (.astore_n 3, 1) := by decide +kernel
theorem dL_mayHold_23 : decode cL_mayHold 23 = .ok (.iconst 2, 1) := by decide +kernel
theorem dL_mayHold_24 : decode cL_mayHold 24 = .ok (.ireturn, 1) := by decide +kernel
theorem dL_mayHold_25 : decode cL_mayHold 25 = .ok (.iconst 0, 1) := by decide +kernel
theorem dL_mayHold_26 : decode cL_mayHold 26 = .ok (.ireturn, 1) := by decide +kernel
theorem dL_mostBoots_0 : decode cL_mostBoots 0 = .ok (.aload_n 1, 1) := by decide +kernel
theorem dL_mostBoots_1 : decode cL_mostBoots 1 = .ok (.iconst 0, 1) := by decide +kernel
theorem dL_mostBoots_2 : decode cL_mostBoots 2 = .ok (.aload_n 0, 1) := by decide +kernel
theorem dL_mostBoots_3 : decode cL_mostBoots 3 = .ok (.invokevirtual 70, 3) := by decide +kernel
theorem dL_mostBoots_6 : decode cL_mostBoots 6 = .ok (.i2l, 1) := by decide +kernel
theorem dL_mostBoots_7 : decode cL_mostBoots 7 = .ok (.lastore, 1) := by decide +kernel
theorem dL_mostBoots_8 : decode cL_mostBoots 8 = .ok (.goto 6, 3) := by decide +kernel
theorem dL_mostBoots_11 : decode cL_mostBoots 11 = .ok (.astore_n 2, 1) := by decide +kernel
theorem dL_mostBoots_12 : decode cL_mostBoots 12 = .ok (.iconst 1, 1) := by decide +kernel
theorem dL_mostBoots_13 : decode cL_mostBoots 13 = .ok (.ireturn, 1) := by decide +kernel
theorem dL_mostBoots_14 : decode cL_mostBoots 14 = .ok (.iconst 0, 1) := by decide +kernel
theorem dL_mostBoots_15 : decode cL_mostBoots 15 = .ok (.ireturn, 1) := by decide +kernel
theorem dL_bootsOf_0 : decode cL_bootsOf 0 = .ok (.aload_n 2, 1) := by decide +kernel
theorem dL_bootsOf_1 : decode cL_bootsOf 1 = .ok (.iconst 0, 1) := by decide +kernel
theorem dL_bootsOf_2 : decode cL_bootsOf 2 = .ok (.aload_n 0, 1) := by decide +kernel
theorem dL_bootsOf_3 : decode cL_bootsOf 3 = .ok (.iload_n 1, 1) := by decide +kernel
theorem dL_bootsOf_4 : decode cL_bootsOf 4 = .ok (.invokevirtual 73, 3) := by decide +kernel
theorem dL_bootsOf_7 : decode cL_bootsOf 7 = .ok (.i2l, 1) := by decide +kernel
theorem dL_bootsOf_8 : decode cL_bootsOf 8 = .ok (.lastore, 1) := by decide +kernel
theorem dL_bootsOf_9 : decode cL_bootsOf 9 = .ok (.goto 9, 3) := by decide +kernel
theorem dL_bootsOf_12 : decode cL_bootsOf 12 = .ok (.astore_n 3, 1) := by decide +kernel
theorem dL_bootsOf_13 : decode cL_bootsOf 13 = .ok (.iconst 1, 1) := by decide +kernel
theorem dL_bootsOf_14 : decode cL_bootsOf 14 = .ok (.ireturn, 1) := by decide +kernel
theorem dL_bootsOf_15 : decode cL_bootsOf 15 = .ok (.astore_n 3, 1) := by decide +kernel
theorem dL_bootsOf_16 : decode cL_bootsOf 16 = .ok (.iconst 2, 1) := by decide +kernel
theorem dL_bootsOf_17 : decode cL_bootsOf 17 = .ok (.ireturn, 1) := by decide +kernel
theorem dL_bootsOf_18 : decode cL_bootsOf 18 = .ok (.iconst 0, 1) := by decide +kernel
theorem dL_bootsOf_19 : decode cL_bootsOf 19 = .ok (.ireturn, 1) := by decide +kernel
theorem dL_stateIn_0 : decode cL_stateIn 0 = .ok (.aload_n 2, 1) := by decide +kernel
theorem dL_stateIn_1 : decode cL_stateIn 1 = .ok (.iconst 0, 1) := by decide +kernel
theorem dL_stateIn_2 : decode cL_stateIn 2 = .ok (.aload_n 0, 1) := by decide +kernel
theorem dL_stateIn_3 : decode cL_stateIn 3 = .ok (.iload_n 1, 1) := by decide +kernel
theorem dL_stateIn_4 : decode cL_stateIn 4 = .ok (.invokevirtual 76, 3) := by decide +kernel
theorem dL_stateIn_7 : decode cL_stateIn 7 = .ok (.i2l, 1) := by decide +kernel
theorem dL_stateIn_8 : decode cL_stateIn 8 = .ok (.lastore, 1) := by decide +kernel
theorem dL_stateIn_9 : decode cL_stateIn 9 = .ok (.goto 9, 3) := by decide +kernel
theorem dL_stateIn_12 : decode cL_stateIn 12 = .ok (.astore_n 3, 1) := by decide +kernel
theorem dL_stateIn_13 : decode cL_stateIn 13 = .ok (.iconst 1, 1) := by decide +kernel
theorem dL_stateIn_14 : decode cL_stateIn 14 = .ok (.ireturn, 1) := by decide +kernel
theorem dL_stateIn_15 : decode cL_stateIn 15 = .ok (.astore_n 3, 1) := by decide +kernel
theorem dL_stateIn_16 : decode cL_stateIn 16 = .ok (.iconst 2, 1) := by decide +kernel
theorem dL_stateIn_17 : decode cL_stateIn 17 = .ok (.ireturn, 1) := by decide +kernel
theorem dL_stateIn_18 : decode cL_stateIn 18 = .ok (.iconst 0, 1) := by decide +kernel
theorem dL_stateIn_19 : decode cL_stateIn 19 = .ok (.ireturn, 1) := by decide +kernel
theorem dL_slotIn_0 : decode cL_slotIn 0 = .ok (.aload_n 2, 1) := by decide +kernel
theorem dL_slotIn_1 : decode cL_slotIn 1 = .ok (.iconst 0, 1) := by decide +kernel
theorem dL_slotIn_2 : decode cL_slotIn 2 = .ok (.aload_n 0, 1) := by decide +kernel
theorem dL_slotIn_3 : decode cL_slotIn 3 = .ok (.iload_n 1, 1) := by decide +kernel
theorem dL_slotIn_4 : decode cL_slotIn 4 = .ok (.invokevirtual 79, 3) := by decide +kernel
theorem dL_slotIn_7 : decode cL_slotIn 7 = .ok (.i2l, 1) := by decide +kernel
theorem dL_slotIn_8 : decode cL_slotIn 8 = .ok (.lastore, 1) := by decide +kernel
theorem dL_slotIn_9 : decode cL_slotIn 9 = .ok (.goto 9, 3) := by decide +kernel
theorem dL_slotIn_12 : decode cL_slotIn 12 = .ok (.astore_n 3, 1) := by decide +kernel
theorem dL_slotIn_13 : decode cL_slotIn 13 = .ok (.iconst 1, 1) := by decide +kernel
theorem dL_slotIn_14 : decode cL_slotIn 14 = .ok (.ireturn, 1) := by decide +kernel
theorem dL_slotIn_15 : decode cL_slotIn 15 = .ok (.astore_n 3, 1) := by decide +kernel
theorem dL_slotIn_16 : decode cL_slotIn 16 = .ok (.iconst 2, 1) := by decide +kernel
theorem dL_slotIn_17 : decode cL_slotIn 17 = .ok (.ireturn, 1) := by decide +kernel
theorem dL_slotIn_18 : decode cL_slotIn 18 = .ok (.iconst 0, 1) := by decide +kernel
theorem dL_slotIn_19 : decode cL_slotIn 19 = .ok (.ireturn, 1) := by decide +kernel
theorem dL_floorIn_0 : decode cL_floorIn 0 = .ok (.aload_n 2, 1) := by decide +kernel
theorem dL_floorIn_1 : decode cL_floorIn 1 = .ok (.iconst 0, 1) := by decide +kernel
theorem dL_floorIn_2 : decode cL_floorIn 2 = .ok (.aload_n 0, 1) := by decide +kernel
theorem dL_floorIn_3 : decode cL_floorIn 3 = .ok (.iload_n 1, 1) := by decide +kernel
theorem dL_floorIn_4 : decode cL_floorIn 4 = .ok (.invokevirtual 82, 3) := by decide +kernel
theorem dL_floorIn_7 : decode cL_floorIn 7 = .ok (.i2l, 1) := by decide +kernel
theorem dL_floorIn_8 : decode cL_floorIn 8 = .ok (.lastore, 1) := by decide +kernel
theorem dL_floorIn_9 : decode cL_floorIn 9 = .ok (.goto 9, 3) := by decide +kernel
theorem dL_floorIn_12 : decode cL_floorIn 12 = .ok (.astore_n 3, 1) := by decide +kernel
theorem dL_floorIn_13 : decode cL_floorIn 13 = .ok (.iconst 1, 1) := by decide +kernel
theorem dL_floorIn_14 : decode cL_floorIn 14 = .ok (.ireturn, 1) := by decide +kernel
theorem dL_floorIn_15 : decode cL_floorIn 15 = .ok (.astore_n 3, 1) := by decide +kernel
theorem dL_floorIn_16 : decode cL_floorIn 16 = .ok (.iconst 2, 1) := by decide +kernel
theorem dL_floorIn_17 : decode cL_floorIn 17 = .ok (.ireturn, 1) := by decide +kernel
theorem dL_floorIn_18 : decode cL_floorIn 18 = .ok (.iconst 0, 1) := by decide +kernel
theorem dL_floorIn_19 : decode cL_floorIn 19 = .ok (.ireturn, 1) := by decide +kernel
theorem dL_bootsIn_0 : decode cL_bootsIn 0 = .ok (.aload_n 2, 1) := by decide +kernel
theorem dL_bootsIn_1 : decode cL_bootsIn 1 = .ok (.iconst 0, 1) := by decide +kernel
theorem dL_bootsIn_2 : decode cL_bootsIn 2 = .ok (.aload_n 0, 1) := by decide +kernel
theorem dL_bootsIn_3 : decode cL_bootsIn 3 = .ok (.iload_n 1, 1) := by decide +kernel
theorem dL_bootsIn_4 : decode cL_bootsIn 4 = .ok (.invokevirtual 85, 3) := by decide +kernel
theorem dL_bootsIn_7 : decode cL_bootsIn 7 = .ok (.i2l, 1) := by decide +kernel
theorem dL_bootsIn_8 : decode cL_bootsIn 8 = .ok (.lastore, 1) := by decide +kernel
theorem dL_bootsIn_9 : decode cL_bootsIn 9 = .ok (.goto 9, 3) := by decide +kernel
theorem dL_bootsIn_12 : decode cL_bootsIn 12 = .ok (.astore_n 3, 1) := by decide +kernel
theorem dL_bootsIn_13 : decode cL_bootsIn 13 = .ok (.iconst 1, 1) := by decide +kernel
theorem dL_bootsIn_14 : decode cL_bootsIn 14 = .ok (.ireturn, 1) := by decide +kernel
theorem dL_bootsIn_15 : decode cL_bootsIn 15 = .ok (.astore_n 3, 1) := by decide +kernel
theorem dL_bootsIn_16 : decode cL_bootsIn 16 = .ok (.iconst 2, 1) := by decide +kernel
theorem dL_bootsIn_17 : decode cL_bootsIn 17 = .ok (.ireturn, 1) := by decide +kernel
theorem dL_bootsIn_18 : decode cL_bootsIn 18 = .ok (.iconst 0, 1) := by decide +kernel
theorem dL_bootsIn_19 : decode cL_bootsIn 19 = .ok (.ireturn, 1) := by decide +kernel
theorem dL_runsIn_0 : decode cL_runsIn 0 = .ok (.aload_n 3, 1) := by decide +kernel
theorem dL_runsIn_1 : decode cL_runsIn 1 = .ok (.iconst 0, 1) := by decide +kernel
theorem dL_runsIn_2 : decode cL_runsIn 2 = .ok (.aload_n 0, 1) := by decide +kernel
theorem dL_runsIn_3 : decode cL_runsIn 3 = .ok (.iload_n 1, 1) := by decide +kernel
theorem dL_runsIn_4 : decode cL_runsIn 4 = .ok (.iload_n 2, 1) := by decide +kernel
theorem dL_runsIn_5 : decode cL_runsIn 5 = .ok (.invokevirtual 88, 3) := by decide +kernel
theorem dL_runsIn_8 : decode cL_runsIn 8 = .ok (.i2l, 1) := by decide +kernel
theorem dL_runsIn_9 : decode cL_runsIn 9 = .ok (.lastore, 1) := by decide +kernel
theorem dL_runsIn_10 : decode cL_runsIn 10 = .ok (.goto 15, 3) := by decide +kernel
theorem dL_runsIn_13 : decode cL_runsIn 13 = .ok (.astore 4, 2) := by decide +kernel
theorem dL_runsIn_15 : decode cL_runsIn 15 = .ok (.iconst 1, 1) := by decide +kernel
theorem dL_runsIn_16 : decode cL_runsIn 16 = .ok (.ireturn, 1) := by decide +kernel
theorem dL_runsIn_17 : decode cL_runsIn 17 = .ok (.astore 4, 2) := by decide +kernel
theorem dL_runsIn_19 : decode cL_runsIn 19 = .ok (.iconst 2, 1) := by decide +kernel
theorem dL_runsIn_20 : decode cL_runsIn 20 = .ok (.ireturn, 1) := by decide +kernel
theorem dL_runsIn_21 : decode cL_runsIn 21 = .ok (.astore 4, 2) := by decide +kernel
theorem dL_runsIn_23 : decode cL_runsIn 23 = .ok (.iconst 3, 1) := by decide +kernel
theorem dL_runsIn_24 : decode cL_runsIn 24 = .ok (.ireturn, 1) := by decide +kernel
theorem dL_runsIn_25 : decode cL_runsIn 25 = .ok (.iconst 0, 1) := by decide +kernel
theorem dL_runsIn_26 : decode cL_runsIn 26 = .ok (.ireturn, 1) := by decide +kernel
theorem dL_crashesIn_0 : decode cL_crashesIn 0 = .ok (.aload_n 2, 1) := by decide +kernel
theorem dL_crashesIn_1 : decode cL_crashesIn 1 = .ok (.iconst 0, 1) := by decide +kernel
theorem dL_crashesIn_2 : decode cL_crashesIn 2 = .ok (.aload_n 0, 1) := by decide +kernel
theorem dL_crashesIn_3 : decode cL_crashesIn 3 = .ok (.iload_n 1, 1) := by decide +kernel
theorem dL_crashesIn_4 : decode cL_crashesIn 4 = .ok (.invokevirtual 91, 3) := by decide +kernel
theorem dL_crashesIn_7 : decode cL_crashesIn 7 = .ok (.i2l, 1) := by decide +kernel
theorem dL_crashesIn_8 : decode cL_crashesIn 8 = .ok (.lastore, 1) := by decide +kernel
theorem dL_crashesIn_9 : decode cL_crashesIn 9 = .ok (.goto 9, 3) := by decide +kernel
theorem dL_crashesIn_12 : decode cL_crashesIn 12 = .ok (.astore_n 3, 1) := by decide +kernel
theorem dL_crashesIn_13 : decode cL_crashesIn 13 = .ok (.iconst 1, 1) := by decide +kernel
theorem dL_crashesIn_14 : decode cL_crashesIn 14 = .ok (.ireturn, 1) := by decide +kernel
theorem dL_crashesIn_15 : decode cL_crashesIn 15 = .ok (.astore_n 3, 1) := by decide +kernel
theorem dL_crashesIn_16 : decode cL_crashesIn 16 = .ok (.iconst 2, 1) := by decide +kernel
theorem dL_crashesIn_17 : decode cL_crashesIn 17 = .ok (.ireturn, 1) := by decide +kernel
theorem dL_crashesIn_18 : decode cL_crashesIn 18 = .ok (.iconst 0, 1) := by decide +kernel
theorem dL_crashesIn_19 : decode cL_crashesIn 19 = .ok (.ireturn, 1) := by decide +kernel
theorem dL_newerIn_0 : decode cL_newerIn 0 = .ok (.aload_n 1, 1) := by decide +kernel
theorem dL_newerIn_1 : decode cL_newerIn 1 = .ok (.iconst 0, 1) := by decide +kernel
theorem dL_newerIn_2 : decode cL_newerIn 2 = .ok (.aload_n 0, 1) := by decide +kernel
theorem dL_newerIn_3 : decode cL_newerIn 3 = .ok (.invokevirtual 94, 3) := by decide +kernel
theorem dL_newerIn_6 : decode cL_newerIn 6 = .ok (.i2l, 1) := by decide +kernel
theorem dL_newerIn_7 : decode cL_newerIn 7 = .ok (.lastore, 1) := by decide +kernel
theorem dL_newerIn_8 : decode cL_newerIn 8 = .ok (.goto 6, 3) := by decide +kernel
theorem dL_newerIn_11 : decode cL_newerIn 11 = .ok (.astore_n 2, 1) := by decide +kernel
theorem dL_newerIn_12 : decode cL_newerIn 12 = .ok (.iconst 1, 1) := by decide +kernel
theorem dL_newerIn_13 : decode cL_newerIn 13 = .ok (.ireturn, 1) := by decide +kernel
theorem dL_newerIn_14 : decode cL_newerIn 14 = .ok (.iconst 0, 1) := by decide +kernel
theorem dL_newerIn_15 : decode cL_newerIn 15 = .ok (.ireturn, 1) := by decide +kernel
theorem dL_rescueIn_0 : decode cL_rescueIn 0 = .ok (.aload_n 1, 1) := by decide +kernel
theorem dL_rescueIn_1 : decode cL_rescueIn 1 = .ok (.iconst 0, 1) := by decide +kernel
theorem dL_rescueIn_2 : decode cL_rescueIn 2 = .ok (.aload_n 0, 1) := by decide +kernel
theorem dL_rescueIn_3 : decode cL_rescueIn 3 = .ok (.invokevirtual 97, 3) := by decide +kernel
theorem dL_rescueIn_6 : decode cL_rescueIn 6 = .ok (.i2l, 1) := by decide +kernel
theorem dL_rescueIn_7 : decode cL_rescueIn 7 = .ok (.lastore, 1) := by decide +kernel
theorem dL_rescueIn_8 : decode cL_rescueIn 8 = .ok (.goto 6, 3) := by decide +kernel
theorem dL_rescueIn_11 : decode cL_rescueIn 11 = .ok (.astore_n 2, 1) := by decide +kernel
theorem dL_rescueIn_12 : decode cL_rescueIn 12 = .ok (.iconst 1, 1) := by decide +kernel
theorem dL_rescueIn_13 : decode cL_rescueIn 13 = .ok (.ireturn, 1) := by decide +kernel
theorem dL_rescueIn_14 : decode cL_rescueIn 14 = .ok (.iconst 0, 1) := by decide +kernel
theorem dL_rescueIn_15 : decode cL_rescueIn 15 = .ok (.ireturn, 1) := by decide +kernel
theorem dL_goodIn_0 : decode cL_goodIn 0 = .ok (.aload_n 2, 1) := by decide +kernel
theorem dL_goodIn_1 : decode cL_goodIn 1 = .ok (.iconst 0, 1) := by decide +kernel
theorem dL_goodIn_2 : decode cL_goodIn 2 = .ok (.aload_n 0, 1) := by decide +kernel
theorem dL_goodIn_3 : decode cL_goodIn 3 = .ok (.iload_n 1, 1) := by decide +kernel
theorem dL_goodIn_4 : decode cL_goodIn 4 = .ok (.invokevirtual 100, 3) := by decide +kernel
theorem dL_goodIn_7 : decode cL_goodIn 7 = .ok (.i2l, 1) := by decide +kernel
theorem dL_goodIn_8 : decode cL_goodIn 8 = .ok (.lastore, 1) := by decide +kernel
theorem dL_goodIn_9 : decode cL_goodIn 9 = .ok (.goto 9, 3) := by decide +kernel
theorem dL_goodIn_12 : decode cL_goodIn 12 = .ok (.astore_n 3, 1) := by decide +kernel
theorem dL_goodIn_13 : decode cL_goodIn 13 = .ok (.iconst 1, 1) := by decide +kernel
theorem dL_goodIn_14 : decode cL_goodIn 14 = .ok (.ireturn, 1) := by decide +kernel
theorem dL_goodIn_15 : decode cL_goodIn 15 = .ok (.astore_n 3, 1) := by decide +kernel
theorem dL_goodIn_16 : decode cL_goodIn 16 = .ok (.iconst 2, 1) := by decide +kernel
theorem dL_goodIn_17 : decode cL_goodIn 17 = .ok (.ireturn, 1) := by decide +kernel
theorem dL_goodIn_18 : decode cL_goodIn 18 = .ok (.iconst 0, 1) := by decide +kernel
theorem dL_goodIn_19 : decode cL_goodIn 19 = .ok (.ireturn, 1) := by decide +kernel
theorem dL_calmIn_0 : decode cL_calmIn 0 = .ok (.aload_n 1, 1) := by decide +kernel
theorem dL_calmIn_1 : decode cL_calmIn 1 = .ok (.iconst 0, 1) := by decide +kernel
theorem dL_calmIn_2 : decode cL_calmIn 2 = .ok (.aload_n 0, 1) := by decide +kernel
theorem dL_calmIn_3 : decode cL_calmIn 3 = .ok (.invokevirtual 103, 3) := by decide +kernel
theorem dL_calmIn_6 : decode cL_calmIn 6 = .ok (.i2l, 1) := by decide +kernel
theorem dL_calmIn_7 : decode cL_calmIn 7 = .ok (.lastore, 1) := by decide +kernel
theorem dL_calmIn_8 : decode cL_calmIn 8 = .ok (.goto 6, 3) := by decide +kernel
theorem dL_calmIn_11 : decode cL_calmIn 11 = .ok (.astore_n 2, 1) := by decide +kernel
theorem dL_calmIn_12 : decode cL_calmIn 12 = .ok (.iconst 1, 1) := by decide +kernel
theorem dL_calmIn_13 : decode cL_calmIn 13 = .ok (.ireturn, 1) := by decide +kernel
theorem dL_calmIn_14 : decode cL_calmIn 14 = .ok (.iconst 0, 1) := by decide +kernel
theorem dL_calmIn_15 : decode cL_calmIn 15 = .ok (.ireturn, 1) := by decide +kernel
theorem dL_triesIn_0 : decode cL_triesIn 0 = .ok (.aload_n 3, 1) := by decide +kernel
theorem dL_triesIn_1 : decode cL_triesIn 1 = .ok (.iconst 0, 1) := by decide +kernel
theorem dL_triesIn_2 : decode cL_triesIn 2 = .ok (.aload_n 0, 1) := by decide +kernel
theorem dL_triesIn_3 : decode cL_triesIn 3 = .ok (.iload_n 1, 1) := by decide +kernel
theorem dL_triesIn_4 : decode cL_triesIn 4 = .ok (.iload_n 2, 1) := by decide +kernel
theorem dL_triesIn_5 : decode cL_triesIn 5 = .ok (.invokevirtual 106, 3) := by decide +kernel
theorem dL_triesIn_8 : decode cL_triesIn 8 = .ok (.i2l, 1) := by decide +kernel
theorem dL_triesIn_9 : decode cL_triesIn 9 = .ok (.lastore, 1) := by decide +kernel
theorem dL_triesIn_10 : decode cL_triesIn 10 = .ok (.goto 15, 3) := by decide +kernel
theorem dL_triesIn_13 : decode cL_triesIn 13 = .ok (.astore 4, 2) := by decide +kernel
theorem dL_triesIn_15 : decode cL_triesIn 15 = .ok (.iconst 1, 1) := by decide +kernel
theorem dL_triesIn_16 : decode cL_triesIn 16 = .ok (.ireturn, 1) := by decide +kernel
theorem dL_triesIn_17 : decode cL_triesIn 17 = .ok (.astore 4, 2) := by decide +kernel
theorem dL_triesIn_19 : decode cL_triesIn 19 = .ok (.iconst 2, 1) := by decide +kernel
theorem dL_triesIn_20 : decode cL_triesIn 20 = .ok (.ireturn, 1) := by decide +kernel
theorem dL_triesIn_21 : decode cL_triesIn 21 = .ok (.astore 4, 2) := by decide +kernel
theorem dL_triesIn_23 : decode cL_triesIn 23 = .ok (.iconst 3, 1) := by decide +kernel
theorem dL_triesIn_24 : decode cL_triesIn 24 = .ok (.ireturn, 1) := by decide +kernel
theorem dL_triesIn_25 : decode cL_triesIn 25 = .ok (.iconst 0, 1) := by decide +kernel
theorem dL_triesIn_26 : decode cL_triesIn 26 = .ok (.ireturn, 1) := by decide +kernel
theorem dL_ifBooted_0 : decode cL_ifBooted 0 = .ok (.aload_n 1, 1) := by decide +kernel
theorem dL_ifBooted_1 : decode cL_ifBooted 1 = .ok (.iconst 0, 1) := by decide +kernel
theorem dL_ifBooted_2 : decode cL_ifBooted 2 = .ok (.aload_n 0, 1) := by decide +kernel
theorem dL_ifBooted_3 : decode cL_ifBooted 3 = .ok (.invokevirtual 109, 3) := by decide +kernel
theorem dL_ifBooted_6 : decode cL_ifBooted 6 = .ok (.i2l, 1) := by decide +kernel
theorem dL_ifBooted_7 : decode cL_ifBooted 7 = .ok (.lastore, 1) := by decide +kernel
theorem dL_ifBooted_8 : decode cL_ifBooted 8 = .ok (.goto 6, 3) := by decide +kernel
theorem dL_ifBooted_11 : decode cL_ifBooted 11 = .ok (.astore_n 2, 1) := by decide +kernel
theorem dL_ifBooted_12 : decode cL_ifBooted 12 = .ok (.iconst 1, 1) := by decide +kernel
theorem dL_ifBooted_13 : decode cL_ifBooted 13 = .ok (.ireturn, 1) := by decide +kernel
theorem dL_ifBooted_14 : decode cL_ifBooted 14 = .ok (.iconst 0, 1) := by decide +kernel
theorem dL_ifBooted_15 : decode cL_ifBooted 15 = .ok (.ireturn, 1) := by decide +kernel
theorem dL_givenUpIf_0 : decode cL_givenUpIf 0 = .ok (.aload_n 1, 1) := by decide +kernel
theorem dL_givenUpIf_1 : decode cL_givenUpIf 1 = .ok (.iconst 0, 1) := by decide +kernel
theorem dL_givenUpIf_2 : decode cL_givenUpIf 2 = .ok (.aload_n 0, 1) := by decide +kernel
theorem dL_givenUpIf_3 : decode cL_givenUpIf 3 = .ok (.invokevirtual 112, 3) := by decide +kernel
theorem dL_givenUpIf_6 : decode cL_givenUpIf 6 = .ok (.i2l, 1) := by decide +kernel
theorem dL_givenUpIf_7 : decode cL_givenUpIf 7 = .ok (.lastore, 1) := by decide +kernel
theorem dL_givenUpIf_8 : decode cL_givenUpIf 8 = .ok (.goto 6, 3) := by decide +kernel
theorem dL_givenUpIf_11 : decode cL_givenUpIf 11 = .ok (.astore_n 2, 1) := by decide +kernel
theorem dL_givenUpIf_12 : decode cL_givenUpIf 12 = .ok (.iconst 1, 1) := by decide +kernel
theorem dL_givenUpIf_13 : decode cL_givenUpIf 13 = .ok (.ireturn, 1) := by decide +kernel
theorem dL_givenUpIf_14 : decode cL_givenUpIf 14 = .ok (.iconst 0, 1) := by decide +kernel
theorem dL_givenUpIf_15 : decode cL_givenUpIf 15 = .ok (.ireturn, 1) := by decide +kernel
theorem dL_settlesOn_0 : decode cL_settlesOn 0 = .ok (.aload_n 1, 1) := by decide +kernel
theorem dL_settlesOn_1 : decode cL_settlesOn 1 = .ok (.iconst 0, 1) := by decide +kernel
theorem dL_settlesOn_2 : decode cL_settlesOn 2 = .ok (.aload_n 0, 1) := by decide +kernel
theorem dL_settlesOn_3 : decode cL_settlesOn 3 = .ok (.invokevirtual 115, 3) := by decide +kernel
theorem dL_settlesOn_6 : decode cL_settlesOn 6 = .ok (.i2l, 1) := by decide +kernel
theorem dL_settlesOn_7 : decode cL_settlesOn 7 = .ok (.lastore, 1) := by decide +kernel
theorem dL_settlesOn_8 : decode cL_settlesOn 8 = .ok (.goto 6, 3) := by decide +kernel
theorem dL_settlesOn_11 : decode cL_settlesOn 11 = .ok (.astore_n 2, 1) := by decide +kernel
theorem dL_settlesOn_12 : decode cL_settlesOn 12 = .ok (.iconst 1, 1) := by decide +kernel
theorem dL_settlesOn_13 : decode cL_settlesOn 13 = .ok (.ireturn, 1) := by decide +kernel
theorem dL_settlesOn_14 : decode cL_settlesOn 14 = .ok (.iconst 0, 1) := by decide +kernel
theorem dL_settlesOn_15 : decode cL_settlesOn 15 = .ok (.ireturn, 1) := by decide +kernel
theorem dL_settlesWithout_0 : decode cL_settlesWithout 0 = .ok (.aload_n 2, 1) := by decide +kernel
theorem dL_settlesWithout_1 : decode cL_settlesWithout 1 = .ok (.iconst 0, 1) := by decide +kernel
theorem dL_settlesWithout_2 : decode cL_settlesWithout 2 = .ok (.aload_n 0, 1) := by decide +kernel
theorem dL_settlesWithout_3 : decode cL_settlesWithout 3 = .ok (.iload_n 1, 1) := by decide +kernel
theorem dL_settlesWithout_4 : decode cL_settlesWithout 4 = .ok (.invokevirtual 118, 3) := by decide +kernel
theorem dL_settlesWithout_7 : decode cL_settlesWithout 7 = .ok (.i2l, 1) := by decide +kernel
theorem dL_settlesWithout_8 : decode cL_settlesWithout 8 = .ok (.lastore, 1) := by decide +kernel
theorem dL_settlesWithout_9 : decode cL_settlesWithout 9 = .ok (.goto 9, 3) := by decide +kernel
theorem dL_settlesWithout_12 : decode cL_settlesWithout 12 = .ok (.astore_n 3, 1) := by decide +kernel
theorem dL_settlesWithout_13 : decode cL_settlesWithout 13 = .ok (.iconst 1, 1) := by decide +kernel
theorem dL_settlesWithout_14 : decode cL_settlesWithout 14 = .ok (.ireturn, 1) := by decide +kernel
theorem dL_settlesWithout_15 : decode cL_settlesWithout 15 = .ok (.astore_n 3, 1) := by decide +kernel
theorem dL_settlesWithout_16 : decode cL_settlesWithout 16 = .ok (.iconst 2, 1) := by decide +kernel
theorem dL_settlesWithout_17 : decode cL_settlesWithout 17 = .ok (.ireturn, 1) := by decide +kernel
theorem dL_settlesWithout_18 : decode cL_settlesWithout 18 = .ok (.iconst 0, 1) := by decide +kernel
theorem dL_settlesWithout_19 : decode cL_settlesWithout 19 = .ok (.ireturn, 1) := by decide +kernel
theorem dL_ifInstalled_0 : decode cL_ifInstalled 0 = .ok (.aload 4, 2) := by decide +kernel
theorem dL_ifInstalled_2 : decode cL_ifInstalled 2 = .ok (.iconst 0, 1) := by decide +kernel
theorem dL_ifInstalled_3 : decode cL_ifInstalled 3 = .ok (.aload_n 0, 1) := by decide +kernel
theorem dL_ifInstalled_4 : decode cL_ifInstalled 4 = .ok (.iload_n 1, 1) := by decide +kernel
theorem dL_ifInstalled_5 : decode cL_ifInstalled 5 = .ok (.iload_n 2, 1) := by decide +kernel
theorem dL_ifInstalled_6 : decode cL_ifInstalled 6 = .ok (.iload_n 3, 1) := by decide +kernel
theorem dL_ifInstalled_7 : decode cL_ifInstalled 7 = .ok (.invokevirtual 121, 3) := by decide +kernel
theorem dL_ifInstalled_10 : decode cL_ifInstalled 10 = .ok (.i2l, 1) := by decide +kernel
theorem dL_ifInstalled_11 : decode cL_ifInstalled 11 = .ok (.lastore, 1) := by decide +kernel
theorem dL_ifInstalled_12 : decode cL_ifInstalled 12 = .ok (.goto 15, 3) := by decide +kernel
theorem dL_ifInstalled_15 : decode cL_ifInstalled 15 = .ok (.astore 5, 2) := by decide +kernel
theorem dL_ifInstalled_17 : decode cL_ifInstalled 17 = .ok (.iconst 1, 1) := by decide +kernel
theorem dL_ifInstalled_18 : decode cL_ifInstalled 18 = .ok (.ireturn, 1) := by decide +kernel
theorem dL_ifInstalled_19 : decode cL_ifInstalled 19 = .ok (.astore 5, 2) := by decide +kernel
theorem dL_ifInstalled_21 : decode cL_ifInstalled 21 = .ok (.iconst 2, 1) := by decide +kernel
theorem dL_ifInstalled_22 : decode cL_ifInstalled 22 = .ok (.ireturn, 1) := by decide +kernel
theorem dL_ifInstalled_23 : decode cL_ifInstalled 23 = .ok (.astore 5, 2) := by decide +kernel
theorem dL_ifInstalled_25 : decode cL_ifInstalled 25 = .ok (.iconst 3, 1) := by decide +kernel
theorem dL_ifInstalled_26 : decode cL_ifInstalled 26 = .ok (.ireturn, 1) := by decide +kernel
theorem dL_ifInstalled_27 : decode cL_ifInstalled 27 = .ok (.iconst 0, 1) := by decide +kernel
theorem dL_ifInstalled_28 : decode cL_ifInstalled 28 = .ok (.ireturn, 1) := by decide +kernel
theorem dL_triesFor_0 : decode cL_triesFor 0 = .ok (.aload_n 2, 1) := by decide +kernel
theorem dL_triesFor_1 : decode cL_triesFor 1 = .ok (.iconst 0, 1) := by decide +kernel
theorem dL_triesFor_2 : decode cL_triesFor 2 = .ok (.aload_n 0, 1) := by decide +kernel
theorem dL_triesFor_3 : decode cL_triesFor 3 = .ok (.iload_n 1, 1) := by decide +kernel
theorem dL_triesFor_4 : decode cL_triesFor 4 = .ok (.invokevirtual 125, 3) := by decide +kernel
theorem dL_triesFor_7 : decode cL_triesFor 7 = .ok (.i2l, 1) := by decide +kernel
theorem dL_triesFor_8 : decode cL_triesFor 8 = .ok (.lastore, 1) := by decide +kernel
theorem dL_triesFor_9 : decode cL_triesFor 9 = .ok (.goto 9, 3) := by decide +kernel
theorem dL_triesFor_12 : decode cL_triesFor 12 = .ok (.astore_n 3, 1) := by decide +kernel
theorem dL_triesFor_13 : decode cL_triesFor 13 = .ok (.iconst 1, 1) := by decide +kernel
theorem dL_triesFor_14 : decode cL_triesFor 14 = .ok (.ireturn, 1) := by decide +kernel
theorem dL_triesFor_15 : decode cL_triesFor 15 = .ok (.astore_n 3, 1) := by decide +kernel
theorem dL_triesFor_16 : decode cL_triesFor 16 = .ok (.iconst 2, 1) := by decide +kernel
theorem dL_triesFor_17 : decode cL_triesFor 17 = .ok (.ireturn, 1) := by decide +kernel
theorem dL_triesFor_18 : decode cL_triesFor 18 = .ok (.iconst 0, 1) := by decide +kernel
theorem dL_triesFor_19 : decode cL_triesFor 19 = .ok (.ireturn, 1) := by decide +kernel
theorem dL_bestWatch_0 : decode cL_bestWatch 0 = .ok (.aload_n 2, 1) := by decide +kernel
theorem dL_bestWatch_1 : decode cL_bestWatch 1 = .ok (.iconst 0, 1) := by decide +kernel
theorem dL_bestWatch_2 : decode cL_bestWatch 2 = .ok (.aload_n 0, 1) := by decide +kernel
theorem dL_bestWatch_3 : decode cL_bestWatch 3 = .ok (.iload_n 1, 1) := by decide +kernel
theorem dL_bestWatch_4 : decode cL_bestWatch 4 = .ok (.invokevirtual 128, 3) := by decide +kernel
theorem dL_bestWatch_7 : decode cL_bestWatch 7 = .ok (.i2l, 1) := by decide +kernel
theorem dL_bestWatch_8 : decode cL_bestWatch 8 = .ok (.lastore, 1) := by decide +kernel
theorem dL_bestWatch_9 : decode cL_bestWatch 9 = .ok (.goto 9, 3) := by decide +kernel
theorem dL_bestWatch_12 : decode cL_bestWatch 12 = .ok (.astore_n 3, 1) := by decide +kernel
theorem dL_bestWatch_13 : decode cL_bestWatch 13 = .ok (.iconst 1, 1) := by decide +kernel
theorem dL_bestWatch_14 : decode cL_bestWatch 14 = .ok (.ireturn, 1) := by decide +kernel
theorem dL_bestWatch_15 : decode cL_bestWatch 15 = .ok (.astore_n 3, 1) := by decide +kernel
theorem dL_bestWatch_16 : decode cL_bestWatch 16 = .ok (.iconst 2, 1) := by decide +kernel
theorem dL_bestWatch_17 : decode cL_bestWatch 17 = .ok (.ireturn, 1) := by decide +kernel
theorem dL_bestWatch_18 : decode cL_bestWatch 18 = .ok (.iconst 0, 1) := by decide +kernel
theorem dL_bestWatch_19 : decode cL_bestWatch 19 = .ok (.ireturn, 1) := by decide +kernel
theorem dL_highestFloor_0 : decode cL_highestFloor 0 = .ok (.aload_n 1, 1) := by decide +kernel
theorem dL_highestFloor_1 : decode cL_highestFloor 1 = .ok (.iconst 0, 1) := by decide +kernel
theorem dL_highestFloor_2 : decode cL_highestFloor 2 = .ok (.aload_n 0, 1) := by decide +kernel
theorem dL_highestFloor_3 : decode cL_highestFloor 3 = .ok (.invokevirtual 131, 3) := by decide +kernel
theorem dL_highestFloor_6 : decode cL_highestFloor 6 = .ok (.i2l, 1) := by decide +kernel
theorem dL_highestFloor_7 : decode cL_highestFloor 7 = .ok (.lastore, 1) := by decide +kernel
theorem dL_highestFloor_8 : decode cL_highestFloor 8 = .ok (.goto 6, 3) := by decide +kernel
theorem dL_highestFloor_11 : decode cL_highestFloor 11 = .ok (.astore_n 2, 1) := by decide +kernel
theorem dL_highestFloor_12 : decode cL_highestFloor 12 = .ok (.iconst 1, 1) := by decide +kernel
theorem dL_highestFloor_13 : decode cL_highestFloor 13 = .ok (.ireturn, 1) := by decide +kernel
theorem dL_highestFloor_14 : decode cL_highestFloor 14 = .ok (.iconst 0, 1) := by decide +kernel
theorem dL_highestFloor_15 : decode cL_highestFloor 15 = .ok (.ireturn, 1) := by decide +kernel
theorem dL_keySlot_0 : decode cL_keySlot 0 = .ok (.aload_n 1, 1) := by decide +kernel
theorem dL_keySlot_1 : decode cL_keySlot 1 = .ok (.iconst 0, 1) := by decide +kernel
theorem dL_keySlot_2 : decode cL_keySlot 2 = .ok (.aload_n 0, 1) := by decide +kernel
theorem dL_keySlot_3 : decode cL_keySlot 3 = .ok (.invokevirtual 134, 3) := by decide +kernel
theorem dL_keySlot_6 : decode cL_keySlot 6 = .ok (.i2l, 1) := by decide +kernel
theorem dL_keySlot_7 : decode cL_keySlot 7 = .ok (.lastore, 1) := by decide +kernel
theorem dL_keySlot_8 : decode cL_keySlot 8 = .ok (.goto 6, 3) := by decide +kernel
theorem dL_keySlot_11 : decode cL_keySlot 11 = .ok (.astore_n 2, 1) := by decide +kernel
theorem dL_keySlot_12 : decode cL_keySlot 12 = .ok (.iconst 1, 1) := by decide +kernel
theorem dL_keySlot_13 : decode cL_keySlot 13 = .ok (.ireturn, 1) := by decide +kernel
theorem dL_keySlot_14 : decode cL_keySlot 14 = .ok (.iconst 0, 1) := by decide +kernel
theorem dL_keySlot_15 : decode cL_keySlot 15 = .ok (.ireturn, 1) := by decide +kernel
theorem dL_successShare_0 : decode cL_successShare 0 = .ok (.aload_n 1, 1) := by decide +kernel
theorem dL_successShare_1 : decode cL_successShare 1 = .ok (.iconst 0, 1) := by decide +kernel
theorem dL_successShare_2 : decode cL_successShare 2 = .ok (.aload_n 0, 1) := by decide +kernel
theorem dL_successShare_3 : decode cL_successShare 3 = .ok (.invokevirtual 137, 3) := by decide +kernel
theorem dL_successShare_6 : decode cL_successShare 6 = .ok (.f2d, 1) := by decide +kernel
theorem dL_successShare_7 : decode cL_successShare 7 = .ok (.dastore, 1) := by decide +kernel
theorem dL_successShare_8 : decode cL_successShare 8 = .ok (.goto 6, 3) := by decide +kernel
theorem dL_successShare_11 : decode cL_successShare 11 = .ok (.astore_n 2, 1) := by decide +kernel
theorem dL_successShare_12 : decode cL_successShare 12 = .ok (.iconst 1, 1) := by decide +kernel
theorem dL_successShare_13 : decode cL_successShare 13 = .ok (.ireturn, 1) := by decide +kernel
theorem dL_successShare_14 : decode cL_successShare 14 = .ok (.iconst 0, 1) := by decide +kernel
theorem dL_successShare_15 : decode cL_successShare 15 = .ok (.ireturn, 1) := by decide +kernel
theorem dL_meanBoot_0 : decode cL_meanBoot 0 = .ok (.aload_n 1, 1) := by decide +kernel
theorem dL_meanBoot_1 : decode cL_meanBoot 1 = .ok (.iconst 0, 1) := by decide +kernel
theorem dL_meanBoot_2 : decode cL_meanBoot 2 = .ok (.aload_n 0, 1) := by decide +kernel
theorem dL_meanBoot_3 : decode cL_meanBoot 3 = .ok (.invokevirtual 141, 3) := by decide +kernel
theorem dL_meanBoot_6 : decode cL_meanBoot 6 = .ok (.dastore, 1) := by decide +kernel
theorem dL_meanBoot_7 : decode cL_meanBoot 7 = .ok (.goto 6, 3) := by decide +kernel
theorem dL_meanBoot_10 : decode cL_meanBoot 10 = .ok (.astore_n 2, 1) := by decide +kernel
theorem dL_meanBoot_11 : decode cL_meanBoot 11 = .ok (.iconst 1, 1) := by decide +kernel
theorem dL_meanBoot_12 : decode cL_meanBoot 12 = .ok (.ireturn, 1) := by decide +kernel
theorem dL_meanBoot_13 : decode cL_meanBoot 13 = .ok (.iconst 0, 1) := by decide +kernel
theorem dL_meanBoot_14 : decode cL_meanBoot 14 = .ok (.ireturn, 1) := by decide +kernel
theorem dL_writeSlots_0 : decode cL_writeSlots 0 = .ok (.aload_n 1, 1) := by decide +kernel
theorem dL_writeSlots_1 : decode cL_writeSlots 1 = .ok (.iconst 0, 1) := by decide +kernel
theorem dL_writeSlots_2 : decode cL_writeSlots 2 = .ok (.aload_n 0, 1) := by decide +kernel
theorem dL_writeSlots_3 : decode cL_writeSlots 3 = .ok (.invokevirtual 145, 3) := by decide +kernel
theorem dL_writeSlots_6 : decode cL_writeSlots 6 = .ok (.i2l, 1) := by decide +kernel
theorem dL_writeSlots_7 : decode cL_writeSlots 7 = .ok (.lastore, 1) := by decide +kernel
theorem dL_writeSlots_8 : decode cL_writeSlots 8 = .ok (.goto 6, 3) := by decide +kernel
theorem dL_writeSlots_11 : decode cL_writeSlots 11 = .ok (.astore_n 2, 1) := by decide +kernel
theorem dL_writeSlots_12 : decode cL_writeSlots 12 = .ok (.iconst 1, 1) := by decide +kernel
theorem dL_writeSlots_13 : decode cL_writeSlots 13 = .ok (.ireturn, 1) := by decide +kernel
theorem dL_writeSlots_14 : decode cL_writeSlots 14 = .ok (.iconst 0, 1) := by decide +kernel
theorem dL_writeSlots_15 : decode cL_writeSlots 15 = .ok (.ireturn, 1) := by decide +kernel
theorem dL_writeBoots_0 : decode cL_writeBoots 0 = .ok (.aload_n 1, 1) := by decide +kernel
theorem dL_writeBoots_1 : decode cL_writeBoots 1 = .ok (.iconst 0, 1) := by decide +kernel
theorem dL_writeBoots_2 : decode cL_writeBoots 2 = .ok (.aload_n 0, 1) := by decide +kernel
theorem dL_writeBoots_3 : decode cL_writeBoots 3 = .ok (.invokevirtual 148, 3) := by decide +kernel
theorem dL_writeBoots_6 : decode cL_writeBoots 6 = .ok (.i2l, 1) := by decide +kernel
theorem dL_writeBoots_7 : decode cL_writeBoots 7 = .ok (.lastore, 1) := by decide +kernel
theorem dL_writeBoots_8 : decode cL_writeBoots 8 = .ok (.goto 6, 3) := by decide +kernel
theorem dL_writeBoots_11 : decode cL_writeBoots 11 = .ok (.astore_n 2, 1) := by decide +kernel
theorem dL_writeBoots_12 : decode cL_writeBoots 12 = .ok (.iconst 1, 1) := by decide +kernel
theorem dL_writeBoots_13 : decode cL_writeBoots 13 = .ok (.ireturn, 1) := by decide +kernel
theorem dL_writeBoots_14 : decode cL_writeBoots 14 = .ok (.iconst 0, 1) := by decide +kernel
theorem dL_writeBoots_15 : decode cL_writeBoots 15 = .ok (.ireturn, 1) := by decide +kernel
theorem dL_writeMachine_0 : decode cL_writeMachine 0 = .ok (.aload_n 1, 1) := by decide +kernel
theorem dL_writeMachine_1 : decode cL_writeMachine 1 = .ok (.iconst 0, 1) := by decide +kernel
theorem dL_writeMachine_2 : decode cL_writeMachine 2 = .ok (.aload_n 0, 1) := by decide +kernel
theorem dL_writeMachine_3 : decode cL_writeMachine 3 = .ok (.invokevirtual 151, 3) := by decide +kernel
theorem dL_writeMachine_6 : decode cL_writeMachine 6 = .ok (.i2l, 1) := by decide +kernel
theorem dL_writeMachine_7 : decode cL_writeMachine 7 = .ok (.lastore, 1) := by decide +kernel
theorem dL_writeMachine_8 : decode cL_writeMachine 8 = .ok (.goto 6, 3) := by decide +kernel
theorem dL_writeMachine_11 : decode cL_writeMachine 11 = .ok (.astore_n 2, 1) := by decide +kernel
theorem dL_writeMachine_12 : decode cL_writeMachine 12 = .ok (.iconst 1, 1) := by decide +kernel
theorem dL_writeMachine_13 : decode cL_writeMachine 13 = .ok (.ireturn, 1) := by decide +kernel
theorem dL_writeMachine_14 : decode cL_writeMachine 14 = .ok (.iconst 0, 1) := by decide +kernel
theorem dL_writeMachine_15 : decode cL_writeMachine 15 = .ok (.ireturn, 1) := by decide +kernel
theorem dL_textByte_0 : decode cL_textByte 0 = .ok (.aload_n 2, 1) := by decide +kernel
theorem dL_textByte_1 : decode cL_textByte 1 = .ok (.iconst 0, 1) := by decide +kernel
theorem dL_textByte_2 : decode cL_textByte 2 = .ok (.aload_n 0, 1) := by decide +kernel
theorem dL_textByte_3 : decode cL_textByte 3 = .ok (.iload_n 1, 1) := by decide +kernel
theorem dL_textByte_4 : decode cL_textByte 4 = .ok (.invokevirtual 154, 3) := by decide +kernel
theorem dL_textByte_7 : decode cL_textByte 7 = .ok (.i2l, 1) := by decide +kernel
theorem dL_textByte_8 : decode cL_textByte 8 = .ok (.lastore, 1) := by decide +kernel
theorem dL_textByte_9 : decode cL_textByte 9 = .ok (.goto 6, 3) := by decide +kernel
theorem dL_textByte_12 : decode cL_textByte 12 = .ok (.astore_n 3, 1) := by decide +kernel
theorem dL_textByte_13 : decode cL_textByte 13 = .ok (.iconst 1, 1) := by decide +kernel
theorem dL_textByte_14 : decode cL_textByte 14 = .ok (.ireturn, 1) := by decide +kernel
theorem dL_textByte_15 : decode cL_textByte 15 = .ok (.iconst 0, 1) := by decide +kernel
theorem dL_textByte_16 : decode cL_textByte 16 = .ok (.ireturn, 1) := by decide +kernel
theorem dL_power_0 : decode cL_power 0 = .ok (.aload_n 1, 1) := by decide +kernel
theorem dL_power_1 : decode cL_power 1 = .ok (.iconst 0, 1) := by decide +kernel
theorem dL_power_2 : decode cL_power 2 = .ok (.aload_n 0, 1) := by decide +kernel
theorem dL_power_3 : decode cL_power 3 = .ok (.invokevirtual 157, 3) := by decide +kernel
theorem dL_power_6 : decode cL_power 6 = .ok (.i2l, 1) := by decide +kernel
theorem dL_power_7 : decode cL_power 7 = .ok (.lastore, 1) := by decide +kernel
theorem dL_power_8 : decode cL_power 8 = .ok (.goto 9, 3) := by decide +kernel
theorem dL_power_11 : decode cL_power 11 = .ok (.astore_n 2, 1) := by decide +kernel
theorem dL_power_12 : decode cL_power 12 = .ok (.iconst 1, 1) := by decide +kernel
theorem dL_power_13 : decode cL_power 13 = .ok (.ireturn, 1) := by decide +kernel
theorem dL_power_14 : decode cL_power 14 = .ok (.astore_n 2, 1) := by decide +kernel
theorem dL_power_15 : decode cL_power 15 = .ok (.iconst 2, 1) := by decide +kernel
theorem dL_power_16 : decode cL_power 16 = .ok (.ireturn, 1) := by decide +kernel
theorem dL_power_17 : decode cL_power 17 = .ok (.iconst 0, 1) := by decide +kernel
theorem dL_power_18 : decode cL_power 18 = .ok (.ireturn, 1) := by decide +kernel
theorem dL_cut_0 : decode cL_cut 0 = .ok (.aload_n 1, 1) := by decide +kernel
theorem dL_cut_1 : decode cL_cut 1 = .ok (.iconst 0, 1) := by decide +kernel
theorem dL_cut_2 : decode cL_cut 2 = .ok (.aload_n 0, 1) := by decide +kernel
theorem dL_cut_3 : decode cL_cut 3 = .ok (.invokevirtual 160, 3) := by decide +kernel
theorem dL_cut_6 : decode cL_cut 6 = .ok (.i2l, 1) := by decide +kernel
theorem dL_cut_7 : decode cL_cut 7 = .ok (.lastore, 1) := by decide +kernel
theorem dL_cut_8 : decode cL_cut 8 = .ok (.goto 9, 3) := by decide +kernel
theorem dL_cut_11 : decode cL_cut 11 = .ok (.astore_n 2, 1) := by decide +kernel
theorem dL_cut_12 : decode cL_cut 12 = .ok (.iconst 1, 1) := by decide +kernel
theorem dL_cut_13 : decode cL_cut 13 = .ok (.ireturn, 1) := by decide +kernel
theorem dL_cut_14 : decode cL_cut 14 = .ok (.astore_n 2, 1) := by decide +kernel
theorem dL_cut_15 : decode cL_cut 15 = .ok (.iconst 2, 1) := by decide +kernel
theorem dL_cut_16 : decode cL_cut 16 = .ok (.ireturn, 1) := by decide +kernel
theorem dL_cut_17 : decode cL_cut 17 = .ok (.iconst 0, 1) := by decide +kernel
theorem dL_cut_18 : decode cL_cut 18 = .ok (.ireturn, 1) := by decide +kernel
theorem dL_reboot_0 : decode cL_reboot 0 = .ok (.aload_n 1, 1) := by decide +kernel
theorem dL_reboot_1 : decode cL_reboot 1 = .ok (.iconst 0, 1) := by decide +kernel
theorem dL_reboot_2 : decode cL_reboot 2 = .ok (.aload_n 0, 1) := by decide +kernel
theorem dL_reboot_3 : decode cL_reboot 3 = .ok (.invokevirtual 163, 3) := by decide +kernel
theorem dL_reboot_6 : decode cL_reboot 6 = .ok (.i2l, 1) := by decide +kernel
theorem dL_reboot_7 : decode cL_reboot 7 = .ok (.lastore, 1) := by decide +kernel
theorem dL_reboot_8 : decode cL_reboot 8 = .ok (.goto 9, 3) := by decide +kernel
theorem dL_reboot_11 : decode cL_reboot 11 = .ok (.astore_n 2, 1) := by decide +kernel
theorem dL_reboot_12 : decode cL_reboot 12 = .ok (.iconst 1, 1) := by decide +kernel
theorem dL_reboot_13 : decode cL_reboot 13 = .ok (.ireturn, 1) := by decide +kernel
theorem dL_reboot_14 : decode cL_reboot 14 = .ok (.astore_n 2, 1) := by decide +kernel
theorem dL_reboot_15 : decode cL_reboot 15 = .ok (.iconst 2, 1) := by decide +kernel
theorem dL_reboot_16 : decode cL_reboot 16 = .ok (.ireturn, 1) := by decide +kernel
theorem dL_reboot_17 : decode cL_reboot 17 = .ok (.iconst 0, 1) := by decide +kernel
theorem dL_reboot_18 : decode cL_reboot 18 = .ok (.ireturn, 1) := by decide +kernel
theorem dL_tick_0 : decode cL_tick 0 = .ok (.aload_n 2, 1) := by decide +kernel
theorem dL_tick_1 : decode cL_tick 1 = .ok (.iconst 0, 1) := by decide +kernel
theorem dL_tick_2 : decode cL_tick 2 = .ok (.aload_n 0, 1) := by decide +kernel
theorem dL_tick_3 : decode cL_tick 3 = .ok (.iload_n 1, 1) := by decide +kernel
theorem dL_tick_4 : decode cL_tick 4 = .ok (.invokevirtual 166, 3) := by decide +kernel
theorem dL_tick_7 : decode cL_tick 7 = .ok (.i2l, 1) := by decide +kernel
theorem dL_tick_8 : decode cL_tick 8 = .ok (.lastore, 1) := by decide +kernel
theorem dL_tick_9 : decode cL_tick 9 = .ok (.goto 9, 3) := by decide +kernel
theorem dL_tick_12 : decode cL_tick 12 = .ok (.astore_n 3, 1) := by decide +kernel
theorem dL_tick_13 : decode cL_tick 13 = .ok (.iconst 1, 1) := by decide +kernel
theorem dL_tick_14 : decode cL_tick 14 = .ok (.ireturn, 1) := by decide +kernel
theorem dL_tick_15 : decode cL_tick 15 = .ok (.astore_n 3, 1) := by decide +kernel
theorem dL_tick_16 : decode cL_tick 16 = .ok (.iconst 2, 1) := by decide +kernel
theorem dL_tick_17 : decode cL_tick 17 = .ok (.ireturn, 1) := by decide +kernel
theorem dL_tick_18 : decode cL_tick 18 = .ok (.iconst 0, 1) := by decide +kernel
theorem dL_tick_19 : decode cL_tick 19 = .ok (.ireturn, 1) := by decide +kernel
theorem dL_begin_0 : decode cL_begin 0 = .ok (.aload 6, 2) := by decide +kernel
theorem dL_begin_2 : decode cL_begin 2 = .ok (.iconst 0, 1) := by decide +kernel
theorem dL_begin_3 : decode cL_begin 3 = .ok (.aload_n 0, 1) := by decide +kernel
theorem dL_begin_4 : decode cL_begin 4 = .ok (.iload_n 1, 1) := by decide +kernel
theorem dL_begin_5 : decode cL_begin 5 = .ok (.iload_n 2, 1) := by decide +kernel
theorem dL_begin_6 : decode cL_begin 6 = .ok (.iload_n 3, 1) := by decide +kernel
theorem dL_begin_7 : decode cL_begin 7 = .ok (.iload 4, 2) := by decide +kernel
theorem dL_begin_9 : decode cL_begin 9 = .ok (.iload 5, 2) := by decide +kernel
theorem dL_begin_11 : decode cL_begin 11 = .ok (.invokevirtual 169, 3) := by decide +kernel
theorem dL_begin_14 : decode cL_begin 14 = .ok (.i2l, 1) := by decide +kernel
theorem dL_begin_15 : decode cL_begin 15 = .ok (.lastore, 1) := by decide +kernel
theorem dL_begin_16 : decode cL_begin 16 = .ok (.goto 15, 3) := by decide +kernel
theorem dL_begin_19 : decode cL_begin 19 = .ok (.astore 7, 2) := by decide +kernel
theorem dL_begin_21 : decode cL_begin 21 = .ok (.iconst 1, 1) := by decide +kernel
theorem dL_begin_22 : decode cL_begin 22 = .ok (.ireturn, 1) := by decide +kernel
theorem dL_begin_23 : decode cL_begin 23 = .ok (.astore 7, 2) := by decide +kernel
theorem dL_begin_25 : decode cL_begin 25 = .ok (.iconst 2, 1) := by decide +kernel
theorem dL_begin_26 : decode cL_begin 26 = .ok (.ireturn, 1) := by decide +kernel
theorem dL_begin_27 : decode cL_begin 27 = .ok (.astore 7, 2) := by decide +kernel
theorem dL_begin_29 : decode cL_begin 29 = .ok (.iconst 3, 1) := by decide +kernel
theorem dL_begin_30 : decode cL_begin 30 = .ok (.ireturn, 1) := by decide +kernel
theorem dL_begin_31 : decode cL_begin 31 = .ok (.iconst 0, 1) := by decide +kernel
theorem dL_begin_32 : decode cL_begin 32 = .ok (.ireturn, 1) := by decide +kernel
theorem dL_spoil_0 : decode cL_spoil 0 = .ok (.aload_n 3, 1) := by decide +kernel
theorem dL_spoil_1 : decode cL_spoil 1 = .ok (.iconst 0, 1) := by decide +kernel
theorem dL_spoil_2 : decode cL_spoil 2 = .ok (.aload_n 0, 1) := by decide +kernel
theorem dL_spoil_3 : decode cL_spoil 3 = .ok (.iload_n 1, 1) := by decide +kernel
theorem dL_spoil_4 : decode cL_spoil 4 = .ok (.iload_n 2, 1) := by decide +kernel
theorem dL_spoil_5 : decode cL_spoil 5 = .ok (.invokevirtual 173, 3) := by decide +kernel
theorem dL_spoil_8 : decode cL_spoil 8 = .ok (.i2l, 1) := by decide +kernel
theorem dL_spoil_9 : decode cL_spoil 9 = .ok (.lastore, 1) := by decide +kernel
theorem dL_spoil_10 : decode cL_spoil 10 = .ok (.goto 15, 3) := by decide +kernel
theorem dL_spoil_13 : decode cL_spoil 13 = .ok (.astore 4, 2) := by decide +kernel
theorem dL_spoil_15 : decode cL_spoil 15 = .ok (.iconst 1, 1) := by decide +kernel
theorem dL_spoil_16 : decode cL_spoil 16 = .ok (.ireturn, 1) := by decide +kernel
theorem dL_spoil_17 : decode cL_spoil 17 = .ok (.astore 4, 2) := by decide +kernel
theorem dL_spoil_19 : decode cL_spoil 19 = .ok (.iconst 2, 1) := by decide +kernel
theorem dL_spoil_20 : decode cL_spoil 20 = .ok (.ireturn, 1) := by decide +kernel
theorem dL_spoil_21 : decode cL_spoil 21 = .ok (.astore 4, 2) := by decide +kernel
theorem dL_spoil_23 : decode cL_spoil 23 = .ok (.iconst 3, 1) := by decide +kernel
theorem dL_spoil_24 : decode cL_spoil 24 = .ok (.ireturn, 1) := by decide +kernel
theorem dL_spoil_25 : decode cL_spoil 25 = .ok (.iconst 0, 1) := by decide +kernel
theorem dL_spoil_26 : decode cL_spoil 26 = .ok (.ireturn, 1) := by decide +kernel
theorem dL_mark_0 : decode cL_mark 0 = .ok (.aload 4, 2) := by decide +kernel
theorem dL_mark_2 : decode cL_mark 2 = .ok (.iconst 0, 1) := by decide +kernel
theorem dL_mark_3 : decode cL_mark 3 = .ok (.aload_n 0, 1) := by decide +kernel
theorem dL_mark_4 : decode cL_mark 4 = .ok (.iload_n 1, 1) := by decide +kernel
theorem dL_mark_5 : decode cL_mark 5 = .ok (.iload_n 2, 1) := by decide +kernel
theorem dL_mark_6 : decode cL_mark 6 = .ok (.iload_n 3, 1) := by decide +kernel
theorem dL_mark_7 : decode cL_mark 7 = .ok (.invokevirtual 176, 3) := by decide +kernel
theorem dL_mark_10 : decode cL_mark 10 = .ok (.i2l, 1) := by decide +kernel
theorem dL_mark_11 : decode cL_mark 11 = .ok (.lastore, 1) := by decide +kernel
theorem dL_mark_12 : decode cL_mark 12 = .ok (.goto 15, 3) := by decide +kernel
theorem dL_mark_15 : decode cL_mark 15 = .ok (.astore 5, 2) := by decide +kernel
theorem dL_mark_17 : decode cL_mark 17 = .ok (.iconst 1, 1) := by decide +kernel
theorem dL_mark_18 : decode cL_mark 18 = .ok (.ireturn, 1) := by decide +kernel
theorem dL_mark_19 : decode cL_mark 19 = .ok (.astore 5, 2) := by decide +kernel
theorem dL_mark_21 : decode cL_mark 21 = .ok (.iconst 2, 1) := by decide +kernel
theorem dL_mark_22 : decode cL_mark 22 = .ok (.ireturn, 1) := by decide +kernel
theorem dL_mark_23 : decode cL_mark 23 = .ok (.astore 5, 2) := by decide +kernel
theorem dL_mark_25 : decode cL_mark 25 = .ok (.iconst 3, 1) := by decide +kernel
theorem dL_mark_26 : decode cL_mark 26 = .ok (.ireturn, 1) := by decide +kernel
theorem dL_mark_27 : decode cL_mark 27 = .ok (.iconst 0, 1) := by decide +kernel
theorem dL_mark_28 : decode cL_mark 28 = .ok (.ireturn, 1) := by decide +kernel
theorem dL_setNumber_0 : decode cL_setNumber 0 = .ok (.aload_n 3, 1) := by decide +kernel
theorem dL_setNumber_1 : decode cL_setNumber 1 = .ok (.iconst 0, 1) := by decide +kernel
theorem dL_setNumber_2 : decode cL_setNumber 2 = .ok (.aload_n 0, 1) := by decide +kernel
theorem dL_setNumber_3 : decode cL_setNumber 3 = .ok (.iload_n 1, 1) := by decide +kernel
theorem dL_setNumber_4 : decode cL_setNumber 4 = .ok (.iload_n 2, 1) := by decide +kernel
theorem dL_setNumber_5 : decode cL_setNumber 5 = .ok (.invokevirtual 179, 3) := by decide +kernel
theorem dL_setNumber_8 : decode cL_setNumber 8 = .ok (.i2l, 1) := by decide +kernel
theorem dL_setNumber_9 : decode cL_setNumber 9 = .ok (.lastore, 1) := by decide +kernel
theorem dL_setNumber_10 : decode cL_setNumber 10 = .ok (.goto 11, 3) := by decide +kernel
theorem dL_setNumber_13 : decode cL_setNumber 13 = .ok (.astore 4, 2) := by decide +kernel
theorem dL_setNumber_15 : decode cL_setNumber 15 = .ok (.iconst 1, 1) := by decide +kernel
theorem dL_setNumber_16 : decode cL_setNumber 16 = .ok (.ireturn, 1) := by decide +kernel
theorem dL_setNumber_17 : decode cL_setNumber 17 = .ok (.astore 4, 2) := by decide +kernel
theorem dL_setNumber_19 : decode cL_setNumber 19 = .ok (.iconst 2, 1) := by decide +kernel
theorem dL_setNumber_20 : decode cL_setNumber 20 = .ok (.ireturn, 1) := by decide +kernel
theorem dL_setNumber_21 : decode cL_setNumber 21 = .ok (.iconst 0, 1) := by decide +kernel
theorem dL_setNumber_22 : decode cL_setNumber 22 = .ok (.ireturn, 1) := by decide +kernel
theorem dL_undo_0 : decode cL_undo 0 = .ok (.aload_n 1, 1) := by decide +kernel
theorem dL_undo_1 : decode cL_undo 1 = .ok (.iconst 0, 1) := by decide +kernel
theorem dL_undo_2 : decode cL_undo 2 = .ok (.aload_n 0, 1) := by decide +kernel
theorem dL_undo_3 : decode cL_undo 3 = .ok (.invokevirtual 182, 3) := by decide +kernel
theorem dL_undo_6 : decode cL_undo 6 = .ok (.i2l, 1) := by decide +kernel
theorem dL_undo_7 : decode cL_undo 7 = .ok (.lastore, 1) := by decide +kernel
theorem dL_undo_8 : decode cL_undo 8 = .ok (.goto 6, 3) := by decide +kernel
theorem dL_undo_11 : decode cL_undo 11 = .ok (.astore_n 2, 1) := by decide +kernel
theorem dL_undo_12 : decode cL_undo 12 = .ok (.iconst 1, 1) := by decide +kernel
theorem dL_undo_13 : decode cL_undo 13 = .ok (.ireturn, 1) := by decide +kernel
theorem dL_undo_14 : decode cL_undo 14 = .ok (.iconst 0, 1) := by decide +kernel
theorem dL_undo_15 : decode cL_undo 15 = .ok (.ireturn, 1) := by decide +kernel
theorem dL_save_0 : decode cL_save 0 = .ok (.aload_n 2, 1) := by decide +kernel
theorem dL_save_1 : decode cL_save 1 = .ok (.iconst 0, 1) := by decide +kernel
theorem dL_save_2 : decode cL_save 2 = .ok (.aload_n 0, 1) := by decide +kernel
theorem dL_save_3 : decode cL_save 3 = .ok (.iload_n 1, 1) := by decide +kernel
theorem dL_save_4 : decode cL_save 4 = .ok (.invokevirtual 185, 3) := by decide +kernel
theorem dL_save_7 : decode cL_save 7 = .ok (.i2l, 1) := by decide +kernel
theorem dL_save_8 : decode cL_save 8 = .ok (.lastore, 1) := by decide +kernel
theorem dL_save_9 : decode cL_save 9 = .ok (.goto 9, 3) := by decide +kernel
theorem dL_save_12 : decode cL_save 12 = .ok (.astore_n 3, 1) := by decide +kernel
theorem dL_save_13 : decode cL_save 13 = .ok (.iconst 1, 1) := by decide +kernel
theorem dL_save_14 : decode cL_save 14 = .ok (.ireturn, 1) := by decide +kernel
theorem dL_save_15 : decode cL_save 15 = .ok (.astore_n 3, 1) := by decide +kernel
theorem dL_save_16 : decode cL_save 16 = .ok (.iconst 2, 1) := by decide +kernel
theorem dL_save_17 : decode cL_save 17 = .ok (.ireturn, 1) := by decide +kernel
theorem dL_save_18 : decode cL_save 18 = .ok (.iconst 0, 1) := by decide +kernel
theorem dL_save_19 : decode cL_save 19 = .ok (.ireturn, 1) := by decide +kernel
theorem dL_restore_0 : decode cL_restore 0 = .ok (.aload_n 2, 1) := by decide +kernel
theorem dL_restore_1 : decode cL_restore 1 = .ok (.iconst 0, 1) := by decide +kernel
theorem dL_restore_2 : decode cL_restore 2 = .ok (.aload_n 0, 1) := by decide +kernel
theorem dL_restore_3 : decode cL_restore 3 = .ok (.iload_n 1, 1) := by decide +kernel
theorem dL_restore_4 : decode cL_restore 4 = .ok (.invokevirtual 188, 3) := by decide +kernel
theorem dL_restore_7 : decode cL_restore 7 = .ok (.i2l, 1) := by decide +kernel
theorem dL_restore_8 : decode cL_restore 8 = .ok (.lastore, 1) := by decide +kernel
theorem dL_restore_9 : decode cL_restore 9 = .ok (.goto 9, 3) := by decide +kernel
theorem dL_restore_12 : decode cL_restore 12 = .ok (.astore_n 3, 1) := by decide +kernel
theorem dL_restore_13 : decode cL_restore 13 = .ok (.iconst 1, 1) := by decide +kernel
theorem dL_restore_14 : decode cL_restore 14 = .ok (.ireturn, 1) := by decide +kernel
theorem dL_restore_15 : decode cL_restore 15 = .ok (.astore_n 3, 1) := by decide +kernel
theorem dL_restore_16 : decode cL_restore 16 = .ok (.iconst 2, 1) := by decide +kernel
theorem dL_restore_17 : decode cL_restore 17 = .ok (.ireturn, 1) := by decide +kernel
theorem dL_restore_18 : decode cL_restore 18 = .ok (.iconst 0, 1) := by decide +kernel
theorem dL_restore_19 : decode cL_restore 19 = .ok (.ireturn, 1) := by decide +kernel
