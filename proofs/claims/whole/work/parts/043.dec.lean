theorem dX9_init_0 : decode cX9_init 0 = .ok (.aload_n 0, 1) := by decide +kernel
theorem dX9_init_1 : decode cX9_init 1 = .ok (.invokespecial 1, 3) := by decide +kernel
theorem dX9_init_4 : decode cX9_init 4 = .ok (.aload_n 0, 1) := by decide +kernel
theorem dX9_init_5 : decode cX9_init 5 = .ok (.sipush 160, 3) := by decide +kernel
theorem dX9_init_8 : decode cX9_init 8 = .ok (.newarray .int, 2) := by decide +kernel
theorem dX9_init_10 : decode cX9_init 10 = .ok (.putfield 7, 3) := by decide +kernel
theorem dX9_init_13 : decode cX9_init 13 = .ok (.aload_n 0, 1) := by decide +kernel
theorem dX9_init_14 : decode cX9_init 14 = .ok (.sipush 1760, 3) := by decide +kernel
theorem dX9_init_17 : decode cX9_init 17 = .ok (.newarray .int, 2) := by decide +kernel
theorem dX9_init_19 : decode cX9_init 19 = .ok (.putfield 13, 3) := by decide +kernel
theorem dX9_init_22 : decode cX9_init 22 = .ok (.aload_n 0, 1) := by decide +kernel
theorem dX9_init_23 : decode cX9_init 23 = .ok (.iconst 2, 1) := by decide +kernel
theorem dX9_init_24 : decode cX9_init 24 = .ok (.newarray .boolean, 2) := by decide +kernel
theorem dX9_init_26 : decode cX9_init 26 = .ok (.putfield 16, 3) := by decide +kernel
theorem dX9_init_29 : decode cX9_init 29 = .ok (.aload_n 0, 1) := by decide +kernel
theorem dX9_init_30 : decode cX9_init 30 = .ok (.sipush 600, 3) := by decide +kernel
theorem dX9_init_33 : decode cX9_init 33 = .ok (.newarray .int, 2) := by decide +kernel
theorem dX9_init_35 : decode cX9_init 35 = .ok (.putfield 20, 3) := by decide +kernel
theorem dX9_init_38 : decode cX9_init 38 = .ok (.aload_n 0, 1) := by decide +kernel
theorem dX9_init_39 : decode cX9_init 39 = .ok (.iconst (-1), 1) := by decide +kernel
theorem dX9_init_40 : decode cX9_init 40 = .ok (.putfield 23, 3) := by decide +kernel
theorem dX9_init_43 : decode cX9_init 43 = .ok (.aload_n 0, 1) := by decide +kernel
theorem dX9_init_44 : decode cX9_init 44 = .ok (.sipush 160, 3) := by decide +kernel
theorem dX9_init_47 : decode cX9_init 47 = .ok (.newarray .int, 2) := by decide +kernel
theorem dX9_init_49 : decode cX9_init 49 = .ok (.putfield 27, 3) := by decide +kernel
theorem dX9_init_52 : decode cX9_init 52 = .ok (.aload_n 0, 1) := by decide +kernel
theorem dX9_init_53 : decode cX9_init 53 = .ok (.sipush 400, 3) := by decide +kernel
theorem dX9_init_56 : decode cX9_init 56 = .ok (.newarray .int, 2) := by decide +kernel
theorem dX9_init_58 : decode cX9_init 58 = .ok (.putfield 30, 3) := by decide +kernel
theorem dX9_init_61 : decode cX9_init 61 = .ok (.return_, 1) := by decide +kernel
theorem dX9_thrown_0 : decode cX9_thrown 0 = .ok (.aload_n 0, 1) := by decide +kernel
theorem dX9_thrown_1 : decode cX9_thrown 1 = .ok (.getfield 33, 3) := by decide +kernel
theorem dX9_thrown_4 : decode cX9_thrown 4 = .ok (.ireturn, 1) := by decide +kernel
theorem dX9_in_0 : decode cX9_in 0 = .ok (.lload_n 0, 1) := by decide +kernel
theorem dX9_in_1 : decode cX9_in 1 = .ok (.lload_n 2, 1) := by decide +kernel
theorem dX9_in_2 : decode cX9_in 2 = .ok (.lcmp, 1) := by decide +kernel
theorem dX9_in_3 : decode cX9_in 3 = .ok (.ifCond .lt 14, 3) := by decide +kernel
theorem dX9_in_6 : decode cX9_in 6 = .ok (.lload_n 0, 1) := by decide +kernel
theorem dX9_in_7 : decode cX9_in 7 = .ok (.lload 4, 2) := by decide +kernel
theorem dX9_in_9 : decode cX9_in 9 = .ok (.lcmp, 1) := by decide +kernel
theorem dX9_in_10 : decode cX9_in 10 = .ok (.ifCond .gt 7, 3) := by decide +kernel
theorem dX9_in_13 : decode cX9_in 13 = .ok (.iconst 1, 1) := by decide +kernel
theorem dX9_in_14 : decode cX9_in 14 = .ok (.goto 4, 3) := by decide +kernel
theorem dX9_in_17 : decode cX9_in 17 = .ok (.iconst 0, 1) := by decide +kernel
theorem dX9_in_18 : decode cX9_in 18 = .ok (.ireturn, 1) := by decide +kernel
theorem dX9_flag_0 : decode cX9_flag 0 = .ok (.iload_n 0, 1) := by decide +kernel
theorem dX9_flag_1 : decode cX9_flag 1 = .ok (.ifCond .eq 7, 3) := by decide +kernel
theorem dX9_flag_4 : decode cX9_flag 4 = .ok (.iconst 1, 1) := by decide +kernel
theorem dX9_flag_5 : decode cX9_flag 5 = .ok (.goto 4, 3) := by decide +kernel
theorem dX9_flag_8 : decode cX9_flag 8 = .ok (.iconst 0, 1) := by decide +kernel
theorem dX9_flag_9 : decode cX9_flag 9 = .ok (.ireturn, 1) := by decide +kernel
theorem dX9_refuse_0 : decode cX9_refuse 0 = .ok (.aload_n 0, 1) := by decide +kernel
theorem dX9_refuse_1 : decode cX9_refuse 1 = .ok (.getfield 33, 3) := by decide +kernel
theorem dX9_refuse_4 : decode cX9_refuse 4 = .ok (.ifCond .ne 12, 3) := by decide +kernel
theorem dX9_refuse_7 : decode cX9_refuse 7 = .ok (.iload_n 1, 1) := by decide +kernel
theorem dX9_refuse_8 : decode cX9_refuse 8 = .ok (.ifCond .eq 8, 3) := by decide +kernel
theorem dX9_refuse_11 : decode cX9_refuse 11 = .ok (.aload_n 0, 1) := by decide +kernel
theorem dX9_refuse_12 : decode cX9_refuse 12 = .ok (.iload_n 2, 1) := by decide +kernel
theorem dX9_refuse_13 : decode cX9_refuse 13 = .ok (.putfield 33, 3) := by decide +kernel
theorem dX9_refuse_16 : decode cX9_refuse 16 = .ok (.aload_n 0, 1) := by decide +kernel
theorem dX9_refuse_17 : decode cX9_refuse 17 = .ok (.getfield 33, 3) := by decide +kernel
theorem dX9_refuse_20 : decode cX9_refuse 20 = .ok (.ifCond .eq 7, 3) := by decide +kernel
theorem dX9_refuse_23 : decode cX9_refuse 23 = .ok (.iconst 1, 1) := by decide +kernel
theorem dX9_refuse_24 : decode cX9_refuse 24 = .ok (.goto 4, 3) := by decide +kernel
theorem dX9_refuse_27 : decode cX9_refuse 27 = .ok (.iconst 0, 1) := by decide +kernel
theorem dX9_refuse_28 : decode cX9_refuse 28 = .ok (.ireturn, 1) := by decide +kernel
theorem dX9_notLoaded_0 : decode cX9_notLoaded 0 = .ok (.aload_n 0, 1) := by decide +kernel
theorem dX9_notLoaded_1 : decode cX9_notLoaded 1 = .ok (.iconst 0, 1) := by decide +kernel
theorem dX9_notLoaded_2 : decode cX9_notLoaded 2 = .ok (.putfield 33, 3) := by decide +kernel
theorem dX9_notLoaded_5 : decode cX9_notLoaded 5 = .ok (.aload_n 0, 1) := by decide +kernel
theorem dX9_notLoaded_6 : decode cX9_notLoaded 6 = .ok (.aload_n 0, 1) := by decide +kernel
theorem dX9_notLoaded_7 : decode cX9_notLoaded 7 = .ok (.getfield 36, 3) := by decide +kernel
theorem dX9_notLoaded_10 : decode cX9_notLoaded 10 = .ok (.ifCond .ne 7, 3) := by decide +kernel
theorem dX9_notLoaded_13 : decode cX9_notLoaded 13 = .ok (.iconst 1, 1) := by decide +kernel
theorem dX9_notLoaded_14 : decode cX9_notLoaded 14 = .ok (.goto 4, 3) := by decide +kernel
theorem dX9_notLoaded_17 : decode cX9_notLoaded 17 = .ok (.iconst 0, 1) := by decide +kernel
theorem dX9_notLoaded_18 : decode cX9_notLoaded 18 = .ok (.iconst 1, 1) := by decide +kernel
theorem dX9_notLoaded_19 : decode cX9_notLoaded 19 = .ok (.invokevirtual 40, 3) := by decide +kernel
theorem dX9_notLoaded_22 : decode cX9_notLoaded 22 = .ok (.ireturn, 1) := by decide +kernel
theorem dX9_isSlot_0 : decode cX9_isSlot 0 = .ok (.iload_n 1, 1) := by decide +kernel
theorem dX9_isSlot_1 : decode cX9_isSlot 1 = .ok (.i2l, 1) := by decide +kernel
theorem dX9_isSlot_2 : decode cX9_isSlot 2 = .ok (.lconst 0, 1) := by decide +kernel
theorem dX9_isSlot_3 : decode cX9_isSlot 3 = .ok (.aload_n 0, 1) := by decide +kernel
theorem dX9_isSlot_4 : decode cX9_isSlot 4 = .ok (.getfield 7, 3) := by decide +kernel
theorem dX9_isSlot_7 : decode cX9_isSlot 7 = .ok (.iconst 0, 1) := by decide +kernel
theorem dX9_isSlot_8 : decode cX9_isSlot 8 = .ok (.iaload, 1) := by decide +kernel
theorem dX9_isSlot_9 : decode cX9_isSlot 9 = .ok (.iconst 1, 1) := by decide +kernel
theorem dX9_isSlot_10 : decode cX9_isSlot 10 = .ok (.isub, 1) := by decide +kernel
theorem dX9_isSlot_11 : decode cX9_isSlot 11 = .ok (.i2l, 1) := by decide +kernel
theorem dX9_isSlot_12 : decode cX9_isSlot 12 = .ok (.invokestatic 44, 3) := by decide +kernel
theorem dX9_isSlot_15 : decode cX9_isSlot 15 = .ok (.ireturn, 1) := by decide +kernel
theorem dX9_noSlot_0 : decode cX9_noSlot 0 = .ok (.aload_n 0, 1) := by decide +kernel
theorem dX9_noSlot_1 : decode cX9_noSlot 1 = .ok (.invokevirtual 48, 3) := by decide +kernel
theorem dX9_noSlot_4 : decode cX9_noSlot 4 = .ok (.ifCond .ne 24, 3) := by decide +kernel
theorem dX9_noSlot_7 : decode cX9_noSlot 7 = .ok (.aload_n 0, 1) := by decide +kernel
theorem dX9_noSlot_8 : decode cX9_noSlot 8 = .ok (.aload_n 0, 1) := by decide +kernel
theorem dX9_noSlot_9 : decode cX9_noSlot 9 = .ok (.iload_n 1, 1) := by decide +kernel
theorem dX9_noSlot_10 : decode cX9_noSlot 10 = .ok (.invokevirtual 52, 3) := by decide +kernel
theorem dX9_noSlot_13 : decode cX9_noSlot 13 = .ok (.ifCond .ne 7, 3) := by decide +kernel
theorem dX9_noSlot_16 : decode cX9_noSlot 16 = .ok (.iconst 1, 1) := by decide +kernel
theorem dX9_noSlot_17 : decode cX9_noSlot 17 = .ok (.goto 4, 3) := by decide +kernel
theorem dX9_noSlot_20 : decode cX9_noSlot 20 = .ok (.iconst 0, 1) := by decide +kernel
theorem dX9_noSlot_21 : decode cX9_noSlot 21 = .ok (.iconst 2, 1) := by decide +kernel
theorem dX9_noSlot_22 : decode cX9_noSlot 22 = .ok (.invokevirtual 40, 3) := by decide +kernel
theorem dX9_noSlot_25 : decode cX9_noSlot 25 = .ok (.ifCond .eq 7, 3) := by decide +kernel
theorem dX9_noSlot_28 : decode cX9_noSlot 28 = .ok (.iconst 1, 1) := by decide +kernel
theorem dX9_noSlot_29 : decode cX9_noSlot 29 = .ok (.goto 4, 3) := by decide +kernel
theorem dX9_noSlot_32 : decode cX9_noSlot 32 = .ok (.iconst 0, 1) := by decide +kernel
theorem dX9_noSlot_33 : decode cX9_noSlot 33 = .ok (.ireturn, 1) := by decide +kernel
theorem dX9_copies_0 : decode cX9_copies 0 = .ok (.iconst 0, 1) := by decide +kernel
theorem dX9_copies_1 : decode cX9_copies 1 = .ok (.istore 4, 2) := by decide +kernel
theorem dX9_copies_3 : decode cX9_copies 3 = .ok (.iload 4, 2) := by decide +kernel
theorem dX9_copies_5 : decode cX9_copies 5 = .ok (.sipush 160, 3) := by decide +kernel
theorem dX9_copies_8 : decode cX9_copies 8 = .ok (.if_icmp .ge 21, 3) := by decide +kernel
theorem dX9_copies_11 : decode cX9_copies 11 = .ok (.aload_n 2, 1) := by decide +kernel
theorem dX9_copies_12 : decode cX9_copies 12 = .ok (.iload_n 3, 1) := by decide +kernel
theorem dX9_copies_13 : decode cX9_copies 13 = .ok (.iload 4, 2) := by decide +kernel
theorem dX9_copies_15 : decode cX9_copies 15 = .ok (.iadd, 1) := by decide +kernel
theorem dX9_copies_16 : decode cX9_copies 16 = .ok (.aload_n 0, 1) := by decide +kernel
theorem dX9_copies_17 : decode cX9_copies 17 = .ok (.iload_n 1, 1) := by decide +kernel
theorem dX9_copies_18 : decode cX9_copies 18 = .ok (.iload 4, 2) := by decide +kernel
theorem dX9_copies_20 : decode cX9_copies 20 = .ok (.iadd, 1) := by decide +kernel
theorem dX9_copies_21 : decode cX9_copies 21 = .ok (.iaload, 1) := by decide +kernel
theorem dX9_copies_22 : decode cX9_copies 22 = .ok (.iastore, 1) := by decide +kernel
theorem dX9_copies_23 : decode cX9_copies 23 = .ok (.iinc 4 1, 3) := by decide +kernel
theorem dX9_copies_26 : decode cX9_copies 26 = .ok (.goto (-23), 3) := by decide +kernel
theorem dX9_copies_29 : decode cX9_copies 29 = .ok (.return_, 1) := by decide +kernel
theorem dX9_of_0 : decode cX9_of 0 = .ok (.aload_n 0, 1) := by decide +kernel
theorem dX9_of_1 : decode cX9_of 1 = .ok (.getfield 7, 3) := by decide +kernel
theorem dX9_of_4 : decode cX9_of 4 = .ok (.bipush 80, 2) := by decide +kernel
theorem dX9_of_6 : decode cX9_of 6 = .ok (.bipush 13, 2) := by decide +kernel
theorem dX9_of_8 : decode cX9_of 8 = .ok (.iload_n 1, 1) := by decide +kernel
theorem dX9_of_9 : decode cX9_of 9 = .ok (.imul, 1) := by decide +kernel
theorem dX9_of_10 : decode cX9_of 10 = .ok (.iadd, 1) := by decide +kernel
theorem dX9_of_11 : decode cX9_of 11 = .ok (.iload_n 2, 1) := by decide +kernel
theorem dX9_of_12 : decode cX9_of 12 = .ok (.iadd, 1) := by decide +kernel
theorem dX9_of_13 : decode cX9_of 13 = .ok (.iaload, 1) := by decide +kernel
theorem dX9_of_14 : decode cX9_of 14 = .ok (.ireturn, 1) := by decide +kernel
theorem dX9_puts_0 : decode cX9_puts 0 = .ok (.aload_n 0, 1) := by decide +kernel
theorem dX9_puts_1 : decode cX9_puts 1 = .ok (.getfield 7, 3) := by decide +kernel
theorem dX9_puts_4 : decode cX9_puts 4 = .ok (.bipush 80, 2) := by decide +kernel
theorem dX9_puts_6 : decode cX9_puts 6 = .ok (.bipush 13, 2) := by decide +kernel
theorem dX9_puts_8 : decode cX9_puts 8 = .ok (.iload_n 1, 1) := by decide +kernel
theorem dX9_puts_9 : decode cX9_puts 9 = .ok (.imul, 1) := by decide +kernel
theorem dX9_puts_10 : decode cX9_puts 10 = .ok (.iadd, 1) := by decide +kernel
theorem dX9_puts_11 : decode cX9_puts 11 = .ok (.iload_n 2, 1) := by decide +kernel
theorem dX9_puts_12 : decode cX9_puts 12 = .ok (.iadd, 1) := by decide +kernel
theorem dX9_puts_13 : decode cX9_puts 13 = .ok (.iload_n 3, 1) := by decide +kernel
theorem dX9_puts_14 : decode cX9_puts 14 = .ok (.iastore, 1) := by decide +kernel
theorem dX9_puts_15 : decode cX9_puts 15 = .ok (.return_, 1) := by decide +kernel
theorem dX9_has_0 : decode cX9_has 0 = .ok (.aload_n 0, 1) := by decide +kernel
theorem dX9_has_1 : decode cX9_has 1 = .ok (.iload_n 1, 1) := by decide +kernel
theorem dX9_has_2 : decode cX9_has 2 = .ok (.iconst 0, 1) := by decide +kernel
theorem dX9_has_3 : decode cX9_has 3 = .ok (.invokevirtual 56, 3) := by decide +kernel
theorem dX9_has_6 : decode cX9_has 6 = .ok (.iconst 1, 1) := by decide +kernel
theorem dX9_has_7 : decode cX9_has 7 = .ok (.if_icmp .ne 7, 3) := by decide +kernel
theorem dX9_has_10 : decode cX9_has 10 = .ok (.iconst 1, 1) := by decide +kernel
theorem dX9_has_11 : decode cX9_has 11 = .ok (.goto 4, 3) := by decide +kernel
theorem dX9_has_14 : decode cX9_has 14 = .ok (.iconst 0, 1) := by decide +kernel
theorem dX9_has_15 : decode cX9_has 15 = .ok (.ireturn, 1) := by decide +kernel
theorem dX9_isGood_0 : decode cX9_isGood 0 = .ok (.aload_n 0, 1) := by decide +kernel
theorem dX9_isGood_1 : decode cX9_isGood 1 = .ok (.iload_n 1, 1) := by decide +kernel
theorem dX9_isGood_2 : decode cX9_isGood 2 = .ok (.iconst 3, 1) := by decide +kernel
theorem dX9_isGood_3 : decode cX9_isGood 3 = .ok (.invokevirtual 56, 3) := by decide +kernel
theorem dX9_isGood_6 : decode cX9_isGood 6 = .ok (.iconst 1, 1) := by decide +kernel
theorem dX9_isGood_7 : decode cX9_isGood 7 = .ok (.if_icmp .ne 7, 3) := by decide +kernel
theorem dX9_isGood_10 : decode cX9_isGood 10 = .ok (.iconst 1, 1) := by decide +kernel
theorem dX9_isGood_11 : decode cX9_isGood 11 = .ok (.goto 4, 3) := by decide +kernel
theorem dX9_isGood_14 : decode cX9_isGood 14 = .ok (.iconst 0, 1) := by decide +kernel
theorem dX9_isGood_15 : decode cX9_isGood 15 = .ok (.ireturn, 1) := by decide +kernel
theorem dX9_isOn_0 : decode cX9_isOn 0 = .ok (.aload_n 0, 1) := by decide +kernel
theorem dX9_isOn_1 : decode cX9_isOn 1 = .ok (.getfield 7, 3) := by decide +kernel
theorem dX9_isOn_4 : decode cX9_isOn 4 = .ok (.bipush 6, 2) := by decide +kernel
theorem dX9_isOn_6 : decode cX9_isOn 6 = .ok (.iaload, 1) := by decide +kernel
theorem dX9_isOn_7 : decode cX9_isOn 7 = .ok (.iconst 1, 1) := by decide +kernel
theorem dX9_isOn_8 : decode cX9_isOn 8 = .ok (.if_icmp .ne 18, 3) := by decide +kernel
theorem dX9_isOn_11 : decode cX9_isOn 11 = .ok (.aload_n 0, 1) := by decide +kernel
theorem dX9_isOn_12 : decode cX9_isOn 12 = .ok (.getfield 7, 3) := by decide +kernel
theorem dX9_isOn_15 : decode cX9_isOn 15 = .ok (.bipush 7, 2) := by decide +kernel
theorem dX9_isOn_17 : decode cX9_isOn 17 = .ok (.iaload, 1) := by decide +kernel
theorem dX9_isOn_18 : decode cX9_isOn 18 = .ok (.iload_n 1, 1) := by decide +kernel
theorem dX9_isOn_19 : decode cX9_isOn 19 = .ok (.if_icmp .ne 7, 3) := by decide +kernel
theorem dX9_isOn_22 : decode cX9_isOn 22 = .ok (.iconst 1, 1) := by decide +kernel
theorem dX9_isOn_23 : decode cX9_isOn 23 = .ok (.goto 4, 3) := by decide +kernel
theorem dX9_isOn_26 : decode cX9_isOn 26 = .ok (.iconst 0, 1) := by decide +kernel
theorem dX9_isOn_27 : decode cX9_isOn 27 = .ok (.ireturn, 1) := by decide +kernel
theorem dX9_hasInstall_0 : decode cX9_hasInstall 0 = .ok (.aload_n 0, 1) := by decide +kernel
theorem dX9_hasInstall_1 : decode cX9_hasInstall 1 = .ok (.getfield 7, 3) := by decide +kernel
theorem dX9_hasInstall_4 : decode cX9_hasInstall 4 = .ok (.bipush 20, 2) := by decide +kernel
theorem dX9_hasInstall_6 : decode cX9_hasInstall 6 = .ok (.iaload, 1) := by decide +kernel
theorem dX9_hasInstall_7 : decode cX9_hasInstall 7 = .ok (.iconst (-1), 1) := by decide +kernel
theorem dX9_hasInstall_8 : decode cX9_hasInstall 8 = .ok (.if_icmp .eq 7, 3) := by decide +kernel
theorem dX9_hasInstall_11 : decode cX9_hasInstall 11 = .ok (.iconst 1, 1) := by decide +kernel
theorem dX9_hasInstall_12 : decode cX9_hasInstall 12 = .ok (.goto 4, 3) := by decide +kernel
theorem dX9_hasInstall_15 : decode cX9_hasInstall 15 = .ok (.iconst 0, 1) := by decide +kernel
theorem dX9_hasInstall_16 : decode cX9_hasInstall 16 = .ok (.ireturn, 1) := by decide +kernel
theorem dX9_whyOf_0 : decode cX9_whyOf 0 = .ok (.aload_n 0, 1) := by decide +kernel
theorem dX9_whyOf_1 : decode cX9_whyOf 1 = .ok (.iload_n 1, 1) := by decide +kernel
theorem dX9_whyOf_2 : decode cX9_whyOf 2 = .ok (.invokevirtual 60, 3) := by decide +kernel
theorem dX9_whyOf_5 : decode cX9_whyOf 5 = .ok (.ifCond .ne 5, 3) := by decide +kernel
theorem dX9_whyOf_8 : decode cX9_whyOf 8 = .ok (.iconst 1, 1) := by decide +kernel
theorem dX9_whyOf_9 : decode cX9_whyOf 9 = .ok (.ireturn, 1) := by decide +kernel
theorem dX9_whyOf_10 : decode cX9_whyOf 10 = .ok (.aload_n 0, 1) := by decide +kernel
theorem dX9_whyOf_11 : decode cX9_whyOf 11 = .ok (.iload_n 1, 1) := by decide +kernel
theorem dX9_whyOf_12 : decode cX9_whyOf 12 = .ok (.bipush 11, 2) := by decide +kernel
theorem dX9_whyOf_14 : decode cX9_whyOf 14 = .ok (.invokevirtual 56, 3) := by decide +kernel
theorem dX9_whyOf_17 : decode cX9_whyOf 17 = .ok (.iconst 1, 1) := by decide +kernel
theorem dX9_whyOf_18 : decode cX9_whyOf 18 = .ok (.if_icmp .ne 5, 3) := by decide +kernel
theorem dX9_whyOf_21 : decode cX9_whyOf 21 = .ok (.iconst 2, 1) := by decide +kernel
theorem dX9_whyOf_22 : decode cX9_whyOf 22 = .ok (.ireturn, 1) := by decide +kernel
theorem dX9_whyOf_23 : decode cX9_whyOf 23 = .ok (.aload_n 0, 1) := by decide +kernel
theorem dX9_whyOf_24 : decode cX9_whyOf 24 = .ok (.iload_n 1, 1) := by decide +kernel
theorem dX9_whyOf_25 : decode cX9_whyOf 25 = .ok (.bipush 8, 2) := by decide +kernel
theorem dX9_whyOf_27 : decode cX9_whyOf 27 = .ok (.invokevirtual 56, 3) := by decide +kernel
theorem dX9_whyOf_30 : decode cX9_whyOf 30 = .ok (.aload_n 0, 1) := by decide +kernel
theorem dX9_whyOf_31 : decode cX9_whyOf 31 = .ok (.getfield 7, 3) := by decide +kernel
theorem dX9_whyOf_34 : decode cX9_whyOf 34 = .ok (.iconst 5, 1) := by decide +kernel
theorem dX9_whyOf_35 : decode cX9_whyOf 35 = .ok (.iaload, 1) := by decide +kernel
theorem dX9_whyOf_36 : decode cX9_whyOf 36 = .ok (.if_icmp .ge 5, 3) := by decide +kernel
theorem dX9_whyOf_39 : decode cX9_whyOf 39 = .ok (.iconst 3, 1) := by decide +kernel
theorem dX9_whyOf_40 : decode cX9_whyOf 40 = .ok (.ireturn, 1) := by decide +kernel
theorem dX9_whyOf_41 : decode cX9_whyOf 41 = .ok (.aload_n 0, 1) := by decide +kernel
theorem dX9_whyOf_42 : decode cX9_whyOf 42 = .ok (.iload_n 1, 1) := by decide +kernel
theorem dX9_whyOf_43 : decode cX9_whyOf 43 = .ok (.iconst 1, 1) := by decide +kernel
theorem dX9_whyOf_44 : decode cX9_whyOf 44 = .ok (.invokevirtual 56, 3) := by decide +kernel
theorem dX9_whyOf_47 : decode cX9_whyOf 47 = .ok (.ifCond .ne 5, 3) := by decide +kernel
theorem dX9_whyOf_50 : decode cX9_whyOf 50 = .ok (.iconst 4, 1) := by decide +kernel
theorem dX9_whyOf_51 : decode cX9_whyOf 51 = .ok (.ireturn, 1) := by decide +kernel
theorem dX9_whyOf_52 : decode cX9_whyOf 52 = .ok (.aload_n 0, 1) := by decide +kernel
theorem dX9_whyOf_53 : decode cX9_whyOf 53 = .ok (.iload_n 1, 1) := by decide +kernel
theorem dX9_whyOf_54 : decode cX9_whyOf 54 = .ok (.invokevirtual 63, 3) := by decide +kernel
theorem dX9_whyOf_57 : decode cX9_whyOf 57 = .ok (.ifCond .ne 12, 3) := by decide +kernel
theorem dX9_whyOf_60 : decode cX9_whyOf 60 = .ok (.aload_n 0, 1) := by decide +kernel
theorem dX9_whyOf_61 : decode cX9_whyOf 61 = .ok (.iload_n 1, 1) := by decide +kernel
theorem dX9_whyOf_62 : decode cX9_whyOf 62 = .ok (.iconst 2, 1) := by decide +kernel
theorem dX9_whyOf_63 : decode cX9_whyOf 63 = .ok (.invokevirtual 56, 3) := by decide +kernel
theorem dX9_whyOf_66 : decode cX9_whyOf 66 = .ok (.ifCond .le 7, 3) := by decide +kernel
theorem dX9_whyOf_69 : decode cX9_whyOf 69 = .ok (.iconst 0, 1) := by decide +kernel
theorem dX9_whyOf_70 : decode cX9_whyOf 70 = .ok (.goto 4, 3) := by decide +kernel
theorem dX9_whyOf_73 : decode cX9_whyOf 73 = .ok (.iconst 5, 1) := by decide +kernel
theorem dX9_whyOf_74 : decode cX9_whyOf 74 = .ok (.ireturn, 1) := by decide +kernel
theorem dX9_canBoot_0 : decode cX9_canBoot 0 = .ok (.aload_n 0, 1) := by decide +kernel
theorem dX9_canBoot_1 : decode cX9_canBoot 1 = .ok (.iload_n 1, 1) := by decide +kernel
theorem dX9_canBoot_2 : decode cX9_canBoot 2 = .ok (.invokevirtual 66, 3) := by decide +kernel
theorem dX9_canBoot_5 : decode cX9_canBoot 5 = .ok (.ifCond .ne 7, 3) := by decide +kernel
theorem dX9_canBoot_8 : decode cX9_canBoot 8 = .ok (.iconst 1, 1) := by decide +kernel
theorem dX9_canBoot_9 : decode cX9_canBoot 9 = .ok (.goto 4, 3) := by decide +kernel
theorem dX9_canBoot_12 : decode cX9_canBoot 12 = .ok (.iconst 0, 1) := by decide +kernel
theorem dX9_canBoot_13 : decode cX9_canBoot 13 = .ok (.ireturn, 1) := by decide +kernel
theorem dX9_isAhead_0 : decode cX9_isAhead 0 = .ok (.aload_n 0, 1) := by decide +kernel
theorem dX9_isAhead_1 : decode cX9_isAhead 1 = .ok (.iload_n 1, 1) := by decide +kernel
theorem dX9_isAhead_2 : decode cX9_isAhead 2 = .ok (.iconst 1, 1) := by decide +kernel
theorem dX9_isAhead_3 : decode cX9_isAhead 3 = .ok (.invokevirtual 56, 3) := by decide +kernel
theorem dX9_isAhead_6 : decode cX9_isAhead 6 = .ok (.aload_n 0, 1) := by decide +kernel
theorem dX9_isAhead_7 : decode cX9_isAhead 7 = .ok (.iload_n 2, 1) := by decide +kernel
theorem dX9_isAhead_8 : decode cX9_isAhead 8 = .ok (.iconst 1, 1) := by decide +kernel
theorem dX9_isAhead_9 : decode cX9_isAhead 9 = .ok (.invokevirtual 56, 3) := by decide +kernel
theorem dX9_isAhead_12 : decode cX9_isAhead 12 = .ok (.if_icmp .eq 24, 3) := by decide +kernel
theorem dX9_isAhead_15 : decode cX9_isAhead 15 = .ok (.aload_n 0, 1) := by decide +kernel
theorem dX9_isAhead_16 : decode cX9_isAhead 16 = .ok (.iload_n 1, 1) := by decide +kernel
theorem dX9_isAhead_17 : decode cX9_isAhead 17 = .ok (.iconst 1, 1) := by decide +kernel
theorem dX9_isAhead_18 : decode cX9_isAhead 18 = .ok (.invokevirtual 56, 3) := by decide +kernel
theorem dX9_isAhead_21 : decode cX9_isAhead 21 = .ok (.aload_n 0, 1) := by decide +kernel
theorem dX9_isAhead_22 : decode cX9_isAhead 22 = .ok (.iload_n 2, 1) := by decide +kernel
theorem dX9_isAhead_23 : decode cX9_isAhead 23 = .ok (.iconst 1, 1) := by decide +kernel
theorem dX9_isAhead_24 : decode cX9_isAhead 24 = .ok (.invokevirtual 56, 3) := by decide +kernel
theorem dX9_isAhead_27 : decode cX9_isAhead 27 = .ok (.if_icmp .le 7, 3) := by decide +kernel
theorem dX9_isAhead_30 : decode cX9_isAhead 30 = .ok (.iconst 1, 1) := by decide +kernel
theorem dX9_isAhead_31 : decode cX9_isAhead 31 = .ok (.goto 4, 3) := by decide +kernel
theorem dX9_isAhead_34 : decode cX9_isAhead 34 = .ok (.iconst 0, 1) := by decide +kernel
theorem dX9_isAhead_35 : decode cX9_isAhead 35 = .ok (.ireturn, 1) := by decide +kernel
theorem dX9_isAhead_36 : decode cX9_isAhead 36 = .ok (.aload_n 0, 1) := by decide +kernel
theorem dX9_isAhead_37 : decode cX9_isAhead 37 = .ok (.iload_n 1, 1) := by decide +kernel
theorem dX9_isAhead_38 : decode cX9_isAhead 38 = .ok (.iconst 3, 1) := by decide +kernel
theorem dX9_isAhead_39 : decode cX9_isAhead 39 = .ok (.invokevirtual 56, 3) := by decide +kernel
theorem dX9_isAhead_42 : decode cX9_isAhead 42 = .ok (.aload_n 0, 1) := by decide +kernel
theorem dX9_isAhead_43 : decode cX9_isAhead 43 = .ok (.iload_n 2, 1) := by decide +kernel
theorem dX9_isAhead_44 : decode cX9_isAhead 44 = .ok (.iconst 3, 1) := by decide +kernel
theorem dX9_isAhead_45 : decode cX9_isAhead 45 = .ok (.invokevirtual 56, 3) := by decide +kernel
theorem dX9_isAhead_48 : decode cX9_isAhead 48 = .ok (.if_icmp .eq 9, 3) := by decide +kernel
theorem dX9_isAhead_51 : decode cX9_isAhead 51 = .ok (.aload_n 0, 1) := by decide +kernel
theorem dX9_isAhead_52 : decode cX9_isAhead 52 = .ok (.iload_n 1, 1) := by decide +kernel
theorem dX9_isAhead_53 : decode cX9_isAhead 53 = .ok (.invokevirtual 63, 3) := by decide +kernel
theorem dX9_isAhead_56 : decode cX9_isAhead 56 = .ok (.ireturn, 1) := by decide +kernel
theorem dX9_isAhead_57 : decode cX9_isAhead 57 = .ok (.aload_n 0, 1) := by decide +kernel
theorem dX9_isAhead_58 : decode cX9_isAhead 58 = .ok (.iload_n 1, 1) := by decide +kernel
theorem dX9_isAhead_59 : decode cX9_isAhead 59 = .ok (.bipush 8, 2) := by decide +kernel
theorem dX9_isAhead_61 : decode cX9_isAhead 61 = .ok (.invokevirtual 56, 3) := by decide +kernel
theorem dX9_isAhead_64 : decode cX9_isAhead 64 = .ok (.aload_n 0, 1) := by decide +kernel
theorem dX9_isAhead_65 : decode cX9_isAhead 65 = .ok (.iload_n 2, 1) := by decide +kernel
theorem dX9_isAhead_66 : decode cX9_isAhead 66 = .ok (.bipush 8, 2) := by decide +kernel
theorem dX9_isAhead_68 : decode cX9_isAhead 68 = .ok (.invokevirtual 56, 3) := by decide +kernel
theorem dX9_isAhead_71 : decode cX9_isAhead 71 = .ok (.if_icmp .eq 26, 3) := by decide +kernel
theorem dX9_isAhead_74 : decode cX9_isAhead 74 = .ok (.aload_n 0, 1) := by decide +kernel
theorem dX9_isAhead_75 : decode cX9_isAhead 75 = .ok (.iload_n 1, 1) := by decide +kernel
theorem dX9_isAhead_76 : decode cX9_isAhead 76 = .ok (.bipush 8, 2) := by decide +kernel
theorem dX9_isAhead_78 : decode cX9_isAhead 78 = .ok (.invokevirtual 56, 3) := by decide +kernel
theorem dX9_isAhead_81 : decode cX9_isAhead 81 = .ok (.aload_n 0, 1) := by decide +kernel
theorem dX9_isAhead_82 : decode cX9_isAhead 82 = .ok (.iload_n 2, 1) := by decide +kernel
theorem dX9_isAhead_83 : decode cX9_isAhead 83 = .ok (.bipush 8, 2) := by decide +kernel
theorem dX9_isAhead_85 : decode cX9_isAhead 85 = .ok (.invokevirtual 56, 3) := by decide +kernel
theorem dX9_isAhead_88 : decode cX9_isAhead 88 = .ok (.if_icmp .le 7, 3) := by decide +kernel
theorem dX9_isAhead_91 : decode cX9_isAhead 91 = .ok (.iconst 1, 1) := by decide +kernel
theorem dX9_isAhead_92 : decode cX9_isAhead 92 = .ok (.goto 4, 3) := by decide +kernel
theorem dX9_isAhead_95 : decode cX9_isAhead 95 = .ok (.iconst 0, 1) := by decide +kernel
theorem dX9_isAhead_96 : decode cX9_isAhead 96 = .ok (.ireturn, 1) := by decide +kernel
theorem dX9_isAhead_97 : decode cX9_isAhead 97 = .ok (.iload_n 1, 1) := by decide +kernel
theorem dX9_isAhead_98 : decode cX9_isAhead 98 = .ok (.iload_n 2, 1) := by decide +kernel
theorem dX9_isAhead_99 : decode cX9_isAhead 99 = .ok (.if_icmp .ge 7, 3) := by decide +kernel
theorem dX9_isAhead_102 : decode cX9_isAhead 102 = .ok (.iconst 1, 1) := by decide +kernel
theorem dX9_isAhead_103 : decode cX9_isAhead 103 = .ok (.goto 4, 3) := by decide +kernel
theorem dX9_isAhead_106 : decode cX9_isAhead 106 = .ok (.iconst 0, 1) := by decide +kernel
theorem dX9_isAhead_107 : decode cX9_isAhead 107 = .ok (.ireturn, 1) := by decide +kernel
theorem dX9_first_0 : decode cX9_first 0 = .ok (.iconst (-1), 1) := by decide +kernel
theorem dX9_first_1 : decode cX9_first 1 = .ok (.istore_n 1, 1) := by decide +kernel
theorem dX9_first_2 : decode cX9_first 2 = .ok (.iconst 0, 1) := by decide +kernel
theorem dX9_first_3 : decode cX9_first 3 = .ok (.istore_n 2, 1) := by decide +kernel
theorem dX9_first_4 : decode cX9_first 4 = .ok (.iload_n 2, 1) := by decide +kernel
theorem dX9_first_5 : decode cX9_first 5 = .ok (.aload_n 0, 1) := by decide +kernel
theorem dX9_first_6 : decode cX9_first 6 = .ok (.getfield 7, 3) := by decide +kernel
theorem dX9_first_9 : decode cX9_first 9 = .ok (.iconst 0, 1) := by decide +kernel
theorem dX9_first_10 : decode cX9_first 10 = .ok (.iaload, 1) := by decide +kernel
theorem dX9_first_11 : decode cX9_first 11 = .ok (.if_icmp .ge 33, 3) := by decide +kernel
theorem dX9_first_14 : decode cX9_first 14 = .ok (.aload_n 0, 1) := by decide +kernel
theorem dX9_first_15 : decode cX9_first 15 = .ok (.iload_n 2, 1) := by decide +kernel
theorem dX9_first_16 : decode cX9_first 16 = .ok (.invokevirtual 70, 3) := by decide +kernel
theorem dX9_first_19 : decode cX9_first 19 = .ok (.ifCond .eq 19, 3) := by decide +kernel
theorem dX9_first_22 : decode cX9_first 22 = .ok (.iload_n 1, 1) := by decide +kernel
theorem dX9_first_23 : decode cX9_first 23 = .ok (.iconst (-1), 1) := by decide +kernel
theorem dX9_first_24 : decode cX9_first 24 = .ok (.if_icmp .eq 12, 3) := by decide +kernel
theorem dX9_first_27 : decode cX9_first 27 = .ok (.aload_n 0, 1) := by decide +kernel
theorem dX9_first_28 : decode cX9_first 28 = .ok (.iload_n 2, 1) := by decide +kernel
theorem dX9_first_29 : decode cX9_first 29 = .ok (.iload_n 1, 1) := by decide +kernel
theorem dX9_first_30 : decode cX9_first 30 = .ok (.invokevirtual 73, 3) := by decide +kernel
theorem dX9_first_33 : decode cX9_first 33 = .ok (.ifCond .eq 5, 3) := by decide +kernel
theorem dX9_first_36 : decode cX9_first 36 = .ok (.iload_n 2, 1) := by decide +kernel
theorem dX9_first_37 : decode cX9_first 37 = .ok (.istore_n 1, 1) := by decide +kernel
theorem dX9_first_38 : decode cX9_first 38 = .ok (.iinc 2 1, 3) := by decide +kernel
theorem dX9_first_41 : decode cX9_first 41 = .ok (.goto (-37), 3) := by decide +kernel
theorem dX9_first_44 : decode cX9_first 44 = .ok (.iload_n 1, 1) := by decide +kernel
theorem dX9_first_45 : decode cX9_first 45 = .ok (.ireturn, 1) := by decide +kernel
theorem dX9_tells_0 : decode cX9_tells 0 = .ok (.aload_n 0, 1) := by decide +kernel
theorem dX9_tells_1 : decode cX9_tells 1 = .ok (.getfield 7, 3) := by decide +kernel
theorem dX9_tells_4 : decode cX9_tells 4 = .ok (.bipush 28, 2) := by decide +kernel
theorem dX9_tells_6 : decode cX9_tells 6 = .ok (.iaload, 1) := by decide +kernel
theorem dX9_tells_7 : decode cX9_tells 7 = .ok (.bipush 12, 2) := by decide +kernel
theorem dX9_tells_9 : decode cX9_tells 9 = .ok (.if_icmp .ne 43, 3) := by decide +kernel
theorem dX9_tells_12 : decode cX9_tells 12 = .ok (.bipush 29, 2) := by decide +kernel
theorem dX9_tells_14 : decode cX9_tells 14 = .ok (.istore_n 3, 1) := by decide +kernel
theorem dX9_tells_15 : decode cX9_tells 15 = .ok (.iload_n 3, 1) := by decide +kernel
theorem dX9_tells_16 : decode cX9_tells 16 = .ok (.bipush 73, 2) := by decide +kernel
theorem dX9_tells_18 : decode cX9_tells 18 = .ok (.if_icmp .ge 23, 3) := by decide +kernel
theorem dX9_tells_21 : decode cX9_tells 21 = .ok (.aload_n 0, 1) := by decide +kernel
theorem dX9_tells_22 : decode cX9_tells 22 = .ok (.getfield 7, 3) := by decide +kernel
theorem dX9_tells_25 : decode cX9_tells 25 = .ok (.iload_n 3, 1) := by decide +kernel
theorem dX9_tells_26 : decode cX9_tells 26 = .ok (.aload_n 0, 1) := by decide +kernel
theorem dX9_tells_27 : decode cX9_tells 27 = .ok (.getfield 7, 3) := by decide +kernel
theorem dX9_tells_30 : decode cX9_tells 30 = .ok (.iload_n 3, 1) := by decide +kernel
theorem dX9_tells_31 : decode cX9_tells 31 = .ok (.iconst 4, 1) := by decide +kernel
theorem dX9_tells_32 : decode cX9_tells 32 = .ok (.iadd, 1) := by decide +kernel
theorem dX9_tells_33 : decode cX9_tells 33 = .ok (.iaload, 1) := by decide +kernel
theorem dX9_tells_34 : decode cX9_tells 34 = .ok (.iastore, 1) := by decide +kernel
theorem dX9_tells_35 : decode cX9_tells 35 = .ok (.iinc 3 1, 3) := by decide +kernel
theorem dX9_tells_38 : decode cX9_tells 38 = .ok (.goto (-23), 3) := by decide +kernel
theorem dX9_tells_41 : decode cX9_tells 41 = .ok (.aload_n 0, 1) := by decide +kernel
theorem dX9_tells_42 : decode cX9_tells 42 = .ok (.getfield 7, 3) := by decide +kernel
theorem dX9_tells_45 : decode cX9_tells 45 = .ok (.bipush 28, 2) := by decide +kernel
theorem dX9_tells_47 : decode cX9_tells 47 = .ok (.dup2, 1) := by decide +kernel
theorem dX9_tells_48 : decode cX9_tells 48 = .ok (.iaload, 1) := by decide +kernel
theorem dX9_tells_49 : decode cX9_tells 49 = .ok (.iconst 1, 1) := by decide +kernel
theorem dX9_tells_50 : decode cX9_tells 50 = .ok (.isub, 1) := by decide +kernel
theorem dX9_tells_51 : decode cX9_tells 51 = .ok (.iastore, 1) := by decide +kernel
theorem dX9_tells_52 : decode cX9_tells 52 = .ok (.bipush 29, 2) := by decide +kernel
theorem dX9_tells_54 : decode cX9_tells 54 = .ok (.iconst 4, 1) := by decide +kernel
theorem dX9_tells_55 : decode cX9_tells 55 = .ok (.aload_n 0, 1) := by decide +kernel
theorem dX9_tells_56 : decode cX9_tells 56 = .ok (.getfield 7, 3) := by decide +kernel
theorem dX9_tells_59 : decode cX9_tells 59 = .ok (.bipush 28, 2) := by decide +kernel
theorem dX9_tells_61 : decode cX9_tells 61 = .ok (.iaload, 1) := by decide +kernel
theorem dX9_tells_62 : decode cX9_tells 62 = .ok (.imul, 1) := by decide +kernel
theorem dX9_tells_63 : decode cX9_tells 63 = .ok (.iadd, 1) := by decide +kernel
theorem dX9_tells_64 : decode cX9_tells 64 = .ok (.istore_n 3, 1) := by decide +kernel
theorem dX9_tells_65 : decode cX9_tells 65 = .ok (.aload_n 0, 1) := by decide +kernel
theorem dX9_tells_66 : decode cX9_tells 66 = .ok (.getfield 7, 3) := by decide +kernel
theorem dX9_tells_69 : decode cX9_tells 69 = .ok (.iload_n 3, 1) := by decide +kernel
theorem dX9_tells_70 : decode cX9_tells 70 = .ok (.aload_n 0, 1) := by decide +kernel
theorem dX9_tells_71 : decode cX9_tells 71 = .ok (.getfield 7, 3) := by decide +kernel
theorem dX9_tells_74 : decode cX9_tells 74 = .ok (.iconst 1, 1) := by decide +kernel
theorem dX9_tells_75 : decode cX9_tells 75 = .ok (.iaload, 1) := by decide +kernel
theorem dX9_tells_76 : decode cX9_tells 76 = .ok (.iastore, 1) := by decide +kernel
theorem dX9_tells_77 : decode cX9_tells 77 = .ok (.aload_n 0, 1) := by decide +kernel
theorem dX9_tells_78 : decode cX9_tells 78 = .ok (.getfield 7, 3) := by decide +kernel
theorem dX9_tells_81 : decode cX9_tells 81 = .ok (.iload_n 3, 1) := by decide +kernel
theorem dX9_tells_82 : decode cX9_tells 82 = .ok (.iconst 1, 1) := by decide +kernel
theorem dX9_tells_83 : decode cX9_tells 83 = .ok (.iadd, 1) := by decide +kernel
theorem dX9_tells_84 : decode cX9_tells 84 = .ok (.iload_n 1, 1) := by decide +kernel
theorem dX9_tells_85 : decode cX9_tells 85 = .ok (.iastore, 1) := by decide +kernel
theorem dX9_tells_86 : decode cX9_tells 86 = .ok (.aload_n 0, 1) := by decide +kernel
theorem dX9_tells_87 : decode cX9_tells 87 = .ok (.getfield 7, 3) := by decide +kernel
theorem dX9_tells_90 : decode cX9_tells 90 = .ok (.iload_n 3, 1) := by decide +kernel
theorem dX9_tells_91 : decode cX9_tells 91 = .ok (.iconst 2, 1) := by decide +kernel
theorem dX9_tells_92 : decode cX9_tells 92 = .ok (.iadd, 1) := by decide +kernel
theorem dX9_tells_93 : decode cX9_tells 93 = .ok (.iload_n 2, 1) := by decide +kernel
theorem dX9_tells_94 : decode cX9_tells 94 = .ok (.iastore, 1) := by decide +kernel
theorem dX9_tells_95 : decode cX9_tells 95 = .ok (.aload_n 0, 1) := by decide +kernel
theorem dX9_tells_96 : decode cX9_tells 96 = .ok (.getfield 7, 3) := by decide +kernel
theorem dX9_tells_99 : decode cX9_tells 99 = .ok (.iload_n 3, 1) := by decide +kernel
theorem dX9_tells_100 : decode cX9_tells 100 = .ok (.iconst 3, 1) := by decide +kernel
theorem dX9_tells_101 : decode cX9_tells 101 = .ok (.iadd, 1) := by decide +kernel
theorem dX9_tells_102 : decode cX9_tells 102 = .ok (.aload_n 0, 1) := by decide +kernel
theorem dX9_tells_103 : decode cX9_tells 103 = .ok (.getfield 7, 3) := by decide +kernel
theorem dX9_tells_106 : decode cX9_tells 106 = .ok (.bipush 7, 2) := by decide +kernel
theorem dX9_tells_108 : decode cX9_tells 108 = .ok (.iaload, 1) := by decide +kernel
theorem dX9_tells_109 : decode cX9_tells 109 = .ok (.iastore, 1) := by decide +kernel
theorem dX9_tells_110 : decode cX9_tells 110 = .ok (.aload_n 0, 1) := by decide +kernel
theorem dX9_tells_111 : decode cX9_tells 111 = .ok (.getfield 7, 3) := by decide +kernel
theorem dX9_tells_114 : decode cX9_tells 114 = .ok (.bipush 28, 2) := by decide +kernel
theorem dX9_tells_116 : decode cX9_tells 116 = .ok (.dup2, 1) := by decide +kernel
theorem dX9_tells_117 : decode cX9_tells 117 = .ok (.iaload, 1) := by decide +kernel
theorem dX9_tells_118 : decode cX9_tells 118 = .ok (.iconst 1, 1) := by decide +kernel
theorem dX9_tells_119 : decode cX9_tells 119 = .ok (.iadd, 1) := by decide +kernel
theorem dX9_tells_120 : decode cX9_tells 120 = .ok (.iastore, 1) := by decide +kernel
theorem dX9_tells_121 : decode cX9_tells 121 = .ok (.aload_n 0, 1) := by decide +kernel
theorem dX9_tells_122 : decode cX9_tells 122 = .ok (.getfield 7, 3) := by decide +kernel
theorem dX9_tells_125 : decode cX9_tells 125 = .ok (.bipush 12, 2) := by decide +kernel
theorem dX9_tells_127 : decode cX9_tells 127 = .ok (.dup2, 1) := by decide +kernel
theorem dX9_tells_128 : decode cX9_tells 128 = .ok (.iaload, 1) := by decide +kernel
theorem dX9_tells_129 : decode cX9_tells 129 = .ok (.iconst 1, 1) := by decide +kernel
theorem dX9_tells_130 : decode cX9_tells 130 = .ok (.iadd, 1) := by decide +kernel
theorem dX9_tells_131 : decode cX9_tells 131 = .ok (.iastore, 1) := by decide +kernel
theorem dX9_tells_132 : decode cX9_tells 132 = .ok (.return_, 1) := by decide +kernel
theorem dX9_tries_0 : decode cX9_tries 0 = .ok (.aload_n 0, 1) := by decide +kernel
theorem dX9_tries_1 : decode cX9_tries 1 = .ok (.iload_n 1, 1) := by decide +kernel
theorem dX9_tries_2 : decode cX9_tries 2 = .ok (.invokevirtual 63, 3) := by decide +kernel
theorem dX9_tries_5 : decode cX9_tries 5 = .ok (.ifCond .ne 44, 3) := by decide +kernel
theorem dX9_tries_8 : decode cX9_tries 8 = .ok (.aload_n 0, 1) := by decide +kernel
theorem dX9_tries_9 : decode cX9_tries 9 = .ok (.iload_n 1, 1) := by decide +kernel
theorem dX9_tries_10 : decode cX9_tries 10 = .ok (.iconst 2, 1) := by decide +kernel
theorem dX9_tries_11 : decode cX9_tries 11 = .ok (.aload_n 0, 1) := by decide +kernel
theorem dX9_tries_12 : decode cX9_tries 12 = .ok (.iload_n 1, 1) := by decide +kernel
theorem dX9_tries_13 : decode cX9_tries 13 = .ok (.iconst 2, 1) := by decide +kernel
theorem dX9_tries_14 : decode cX9_tries 14 = .ok (.invokevirtual 56, 3) := by decide +kernel
theorem dX9_tries_17 : decode cX9_tries 17 = .ok (.iconst 1, 1) := by decide +kernel
theorem dX9_tries_18 : decode cX9_tries 18 = .ok (.isub, 1) := by decide +kernel
theorem dX9_tries_19 : decode cX9_tries 19 = .ok (.invokevirtual 77, 3) := by decide +kernel
theorem dX9_tries_22 : decode cX9_tries 22 = .ok (.aload_n 0, 1) := by decide +kernel
theorem dX9_tries_23 : decode cX9_tries 23 = .ok (.iload_n 1, 1) := by decide +kernel
theorem dX9_tries_24 : decode cX9_tries 24 = .ok (.bipush 6, 2) := by decide +kernel
theorem dX9_tries_26 : decode cX9_tries 26 = .ok (.aload_n 0, 1) := by decide +kernel
theorem dX9_tries_27 : decode cX9_tries 27 = .ok (.iload_n 1, 1) := by decide +kernel
theorem dX9_tries_28 : decode cX9_tries 28 = .ok (.bipush 6, 2) := by decide +kernel
theorem dX9_tries_30 : decode cX9_tries 30 = .ok (.invokevirtual 56, 3) := by decide +kernel
theorem dX9_tries_33 : decode cX9_tries 33 = .ok (.iconst 1, 1) := by decide +kernel
theorem dX9_tries_34 : decode cX9_tries 34 = .ok (.iadd, 1) := by decide +kernel
theorem dX9_tries_35 : decode cX9_tries 35 = .ok (.invokevirtual 77, 3) := by decide +kernel
theorem dX9_tries_38 : decode cX9_tries 38 = .ok (.aload_n 0, 1) := by decide +kernel
theorem dX9_tries_39 : decode cX9_tries 39 = .ok (.getfield 7, 3) := by decide +kernel
theorem dX9_tries_42 : decode cX9_tries 42 = .ok (.bipush 13, 2) := by decide +kernel
theorem dX9_tries_44 : decode cX9_tries 44 = .ok (.dup2, 1) := by decide +kernel
theorem dX9_tries_45 : decode cX9_tries 45 = .ok (.iaload, 1) := by decide +kernel
theorem dX9_tries_46 : decode cX9_tries 46 = .ok (.iconst 1, 1) := by decide +kernel
theorem dX9_tries_47 : decode cX9_tries 47 = .ok (.iadd, 1) := by decide +kernel
theorem dX9_tries_48 : decode cX9_tries 48 = .ok (.iastore, 1) := by decide +kernel
theorem dX9_tries_49 : decode cX9_tries 49 = .ok (.aload_n 0, 1) := by decide +kernel
theorem dX9_tries_50 : decode cX9_tries 50 = .ok (.iload_n 1, 1) := by decide +kernel
theorem dX9_tries_51 : decode cX9_tries 51 = .ok (.bipush 12, 2) := by decide +kernel
theorem dX9_tries_53 : decode cX9_tries 53 = .ok (.invokevirtual 56, 3) := by decide +kernel
theorem dX9_tries_56 : decode cX9_tries 56 = .ok (.ifCond .ne 5, 3) := by decide +kernel
theorem dX9_tries_59 : decode cX9_tries 59 = .ok (.iconst 1, 1) := by decide +kernel
theorem dX9_tries_60 : decode cX9_tries 60 = .ok (.ireturn, 1) := by decide +kernel
theorem dX9_tries_61 : decode cX9_tries 61 = .ok (.aload_n 0, 1) := by decide +kernel
theorem dX9_tries_62 : decode cX9_tries 62 = .ok (.iload_n 1, 1) := by decide +kernel
theorem dX9_tries_63 : decode cX9_tries 63 = .ok (.iconst 1, 1) := by decide +kernel
theorem dX9_tries_64 : decode cX9_tries 64 = .ok (.iconst 0, 1) := by decide +kernel
theorem dX9_tries_65 : decode cX9_tries 65 = .ok (.invokevirtual 77, 3) := by decide +kernel
theorem dX9_tries_68 : decode cX9_tries 68 = .ok (.aload_n 0, 1) := by decide +kernel
theorem dX9_tries_69 : decode cX9_tries 69 = .ok (.iload_n 1, 1) := by decide +kernel
theorem dX9_tries_70 : decode cX9_tries 70 = .ok (.iconst 3, 1) := by decide +kernel
theorem dX9_tries_71 : decode cX9_tries 71 = .ok (.iconst 0, 1) := by decide +kernel
theorem dX9_tries_72 : decode cX9_tries 72 = .ok (.invokevirtual 77, 3) := by decide +kernel
theorem dX9_tries_75 : decode cX9_tries 75 = .ok (.aload_n 0, 1) := by decide +kernel
theorem dX9_tries_76 : decode cX9_tries 76 = .ok (.getfield 7, 3) := by decide +kernel
theorem dX9_tries_79 : decode cX9_tries 79 = .ok (.bipush 14, 2) := by decide +kernel
theorem dX9_tries_81 : decode cX9_tries 81 = .ok (.dup2, 1) := by decide +kernel
theorem dX9_tries_82 : decode cX9_tries 82 = .ok (.iaload, 1) := by decide +kernel
theorem dX9_tries_83 : decode cX9_tries 83 = .ok (.iconst 1, 1) := by decide +kernel
theorem dX9_tries_84 : decode cX9_tries 84 = .ok (.iadd, 1) := by decide +kernel
theorem dX9_tries_85 : decode cX9_tries 85 = .ok (.iastore, 1) := by decide +kernel
theorem dX9_tries_86 : decode cX9_tries 86 = .ok (.iconst 0, 1) := by decide +kernel
theorem dX9_tries_87 : decode cX9_tries 87 = .ok (.ireturn, 1) := by decide +kernel
theorem dX9_boots_0 : decode cX9_boots 0 = .ok (.iconst 0, 1) := by decide +kernel
theorem dX9_boots_1 : decode cX9_boots 1 = .ok (.istore_n 2, 1) := by decide +kernel
theorem dX9_boots_2 : decode cX9_boots 2 = .ok (.aload_n 0, 1) := by decide +kernel
theorem dX9_boots_3 : decode cX9_boots 3 = .ok (.invokevirtual 81, 3) := by decide +kernel
theorem dX9_boots_6 : decode cX9_boots 6 = .ok (.istore_n 3, 1) := by decide +kernel
theorem dX9_boots_7 : decode cX9_boots 7 = .ok (.iload_n 3, 1) := by decide +kernel
theorem dX9_boots_8 : decode cX9_boots 8 = .ok (.iconst (-1), 1) := by decide +kernel
theorem dX9_boots_9 : decode cX9_boots 9 = .ok (.if_icmp .eq 25, 3) := by decide +kernel
theorem dX9_boots_12 : decode cX9_boots 12 = .ok (.aload_n 0, 1) := by decide +kernel
theorem dX9_boots_13 : decode cX9_boots 13 = .ok (.iload_n 3, 1) := by decide +kernel
theorem dX9_boots_14 : decode cX9_boots 14 = .ok (.invokevirtual 85, 3) := by decide +kernel
theorem dX9_boots_17 : decode cX9_boots 17 = .ok (.ifCond .ne 17, 3) := by decide +kernel
theorem dX9_boots_20 : decode cX9_boots 20 = .ok (.iload_n 2, 1) := by decide +kernel
theorem dX9_boots_21 : decode cX9_boots 21 = .ok (.iconst 1, 1) := by decide +kernel
theorem dX9_boots_22 : decode cX9_boots 22 = .ok (.iload_n 3, 1) := by decide +kernel
theorem dX9_boots_23 : decode cX9_boots 23 = .ok (.ishl, 1) := by decide +kernel
theorem dX9_boots_24 : decode cX9_boots 24 = .ok (.ior, 1) := by decide +kernel
theorem dX9_boots_25 : decode cX9_boots 25 = .ok (.istore_n 2, 1) := by decide +kernel
theorem dX9_boots_26 : decode cX9_boots 26 = .ok (.aload_n 0, 1) := by decide +kernel
theorem dX9_boots_27 : decode cX9_boots 27 = .ok (.invokevirtual 81, 3) := by decide +kernel
theorem dX9_boots_30 : decode cX9_boots 30 = .ok (.istore_n 3, 1) := by decide +kernel
theorem dX9_boots_31 : decode cX9_boots 31 = .ok (.goto (-24), 3) := by decide +kernel
theorem dX9_boots_34 : decode cX9_boots 34 = .ok (.aload_n 0, 1) := by decide +kernel
theorem dX9_boots_35 : decode cX9_boots 35 = .ok (.getfield 7, 3) := by decide +kernel
theorem dX9_boots_38 : decode cX9_boots 38 = .ok (.bipush 8, 2) := by decide +kernel
theorem dX9_boots_40 : decode cX9_boots 40 = .ok (.iconst 0, 1) := by decide +kernel
theorem dX9_boots_41 : decode cX9_boots 41 = .ok (.iastore, 1) := by decide +kernel
theorem dX9_boots_42 : decode cX9_boots 42 = .ok (.aload_n 0, 1) := by decide +kernel
theorem dX9_boots_43 : decode cX9_boots 43 = .ok (.getfield 7, 3) := by decide +kernel
theorem dX9_boots_46 : decode cX9_boots 46 = .ok (.bipush 7, 2) := by decide +kernel
theorem dX9_boots_48 : decode cX9_boots 48 = .ok (.iload_n 3, 1) := by decide +kernel
theorem dX9_boots_49 : decode cX9_boots 49 = .ok (.iastore, 1) := by decide +kernel
theorem dX9_boots_50 : decode cX9_boots 50 = .ok (.aload_n 0, 1) := by decide +kernel
theorem dX9_boots_51 : decode cX9_boots 51 = .ok (.getfield 7, 3) := by decide +kernel
theorem dX9_boots_54 : decode cX9_boots 54 = .ok (.bipush 6, 2) := by decide +kernel
theorem dX9_boots_56 : decode cX9_boots 56 = .ok (.iload_n 3, 1) := by decide +kernel
theorem dX9_boots_57 : decode cX9_boots 57 = .ok (.iconst (-1), 1) := by decide +kernel
theorem dX9_boots_58 : decode cX9_boots 58 = .ok (.if_icmp .ne 7, 3) := by decide +kernel
theorem dX9_boots_61 : decode cX9_boots 61 = .ok (.iconst 2, 1) := by decide +kernel
theorem dX9_boots_62 : decode cX9_boots 62 = .ok (.goto 4, 3) := by decide +kernel
theorem dX9_boots_65 : decode cX9_boots 65 = .ok (.iconst 1, 1) := by decide +kernel
theorem dX9_boots_66 : decode cX9_boots 66 = .ok (.iastore, 1) := by decide +kernel
theorem dX9_boots_67 : decode cX9_boots 67 = .ok (.iload_n 3, 1) := by decide +kernel
theorem dX9_boots_68 : decode cX9_boots 68 = .ok (.iconst (-1), 1) := by decide +kernel
theorem dX9_boots_69 : decode cX9_boots 69 = .ok (.if_icmp .eq 17, 3) := by decide +kernel
theorem dX9_boots_72 : decode cX9_boots 72 = .ok (.aload_n 0, 1) := by decide +kernel
theorem dX9_boots_73 : decode cX9_boots 73 = .ok (.iload_n 3, 1) := by decide +kernel
theorem dX9_boots_74 : decode cX9_boots 74 = .ok (.iconst 5, 1) := by decide +kernel
theorem dX9_boots_75 : decode cX9_boots 75 = .ok (.aload_n 0, 1) := by decide +kernel
theorem dX9_boots_76 : decode cX9_boots 76 = .ok (.iload_n 3, 1) := by decide +kernel
theorem dX9_boots_77 : decode cX9_boots 77 = .ok (.iconst 5, 1) := by decide +kernel
theorem dX9_boots_78 : decode cX9_boots 78 = .ok (.invokevirtual 56, 3) := by decide +kernel
theorem dX9_boots_81 : decode cX9_boots 81 = .ok (.iconst 1, 1) := by decide +kernel
theorem dX9_boots_82 : decode cX9_boots 82 = .ok (.iadd, 1) := by decide +kernel
theorem dX9_boots_83 : decode cX9_boots 83 = .ok (.invokevirtual 77, 3) := by decide +kernel
theorem dX9_boots_86 : decode cX9_boots 86 = .ok (.aload_n 0, 1) := by decide +kernel
theorem dX9_boots_87 : decode cX9_boots 87 = .ok (.iload_n 1, 1) := by decide +kernel
theorem dX9_boots_88 : decode cX9_boots 88 = .ok (.iload_n 2, 1) := by decide +kernel
theorem dX9_boots_89 : decode cX9_boots 89 = .ok (.invokevirtual 88, 3) := by decide +kernel
theorem dX9_boots_92 : decode cX9_boots 92 = .ok (.iload_n 2, 1) := by decide +kernel
theorem dX9_boots_93 : decode cX9_boots 93 = .ok (.ireturn, 1) := by decide +kernel
theorem dX9_leastGood_0 : decode cX9_leastGood 0 = .ok (.iconst (-1), 1) := by decide +kernel
theorem dX9_leastGood_1 : decode cX9_leastGood 1 = .ok (.istore_n 2, 1) := by decide +kernel
theorem dX9_leastGood_2 : decode cX9_leastGood 2 = .ok (.iconst 0, 1) := by decide +kernel
theorem dX9_leastGood_3 : decode cX9_leastGood 3 = .ok (.istore_n 3, 1) := by decide +kernel
theorem dX9_leastGood_4 : decode cX9_leastGood 4 = .ok (.iload_n 3, 1) := by decide +kernel
theorem dX9_leastGood_5 : decode cX9_leastGood 5 = .ok (.aload_n 0, 1) := by decide +kernel
theorem dX9_leastGood_6 : decode cX9_leastGood 6 = .ok (.getfield 7, 3) := by decide +kernel
theorem dX9_leastGood_9 : decode cX9_leastGood 9 = .ok (.iconst 0, 1) := by decide +kernel
theorem dX9_leastGood_10 : decode cX9_leastGood 10 = .ok (.iaload, 1) := by decide +kernel
theorem dX9_leastGood_11 : decode cX9_leastGood 11 = .ok (.if_icmp .ge 46, 3) := by decide +kernel
theorem dX9_leastGood_14 : decode cX9_leastGood 14 = .ok (.aload_n 0, 1) := by decide +kernel
theorem dX9_leastGood_15 : decode cX9_leastGood 15 = .ok (.iload_n 3, 1) := by decide +kernel
theorem dX9_leastGood_16 : decode cX9_leastGood 16 = .ok (.invokevirtual 63, 3) := by decide +kernel
theorem dX9_leastGood_19 : decode cX9_leastGood 19 = .ok (.ifCond .ne 8, 3) := by decide +kernel
theorem dX9_leastGood_22 : decode cX9_leastGood 22 = .ok (.iload_n 3, 1) := by decide +kernel
theorem dX9_leastGood_23 : decode cX9_leastGood 23 = .ok (.iload_n 1, 1) := by decide +kernel
theorem dX9_leastGood_24 : decode cX9_leastGood 24 = .ok (.if_icmp .ne 27, 3) := by decide +kernel
theorem dX9_leastGood_27 : decode cX9_leastGood 27 = .ok (.iload_n 2, 1) := by decide +kernel
theorem dX9_leastGood_28 : decode cX9_leastGood 28 = .ok (.iconst (-1), 1) := by decide +kernel
theorem dX9_leastGood_29 : decode cX9_leastGood 29 = .ok (.if_icmp .eq 14, 3) := by decide +kernel
theorem dX9_leastGood_32 : decode cX9_leastGood 32 = .ok (.aload_n 0, 1) := by decide +kernel
theorem dX9_leastGood_33 : decode cX9_leastGood 33 = .ok (.iload_n 3, 1) := by decide +kernel
theorem dX9_leastGood_34 : decode cX9_leastGood 34 = .ok (.bipush 8, 2) := by decide +kernel
theorem dX9_leastGood_36 : decode cX9_leastGood 36 = .ok (.invokevirtual 56, 3) := by decide +kernel
theorem dX9_leastGood_39 : decode cX9_leastGood 39 = .ok (.iload_n 2, 1) := by decide +kernel
theorem dX9_leastGood_40 : decode cX9_leastGood 40 = .ok (.if_icmp .ge 11, 3) := by decide +kernel
theorem dX9_leastGood_43 : decode cX9_leastGood 43 = .ok (.aload_n 0, 1) := by decide +kernel
theorem dX9_leastGood_44 : decode cX9_leastGood 44 = .ok (.iload_n 3, 1) := by decide +kernel
theorem dX9_leastGood_45 : decode cX9_leastGood 45 = .ok (.bipush 8, 2) := by decide +kernel
theorem dX9_leastGood_47 : decode cX9_leastGood 47 = .ok (.invokevirtual 56, 3) := by decide +kernel
theorem dX9_leastGood_50 : decode cX9_leastGood 50 = .ok (.istore_n 2, 1) := by decide +kernel
theorem dX9_leastGood_51 : decode cX9_leastGood 51 = .ok (.iinc 3 1, 3) := by decide +kernel
theorem dX9_leastGood_54 : decode cX9_leastGood 54 = .ok (.goto (-50), 3) := by decide +kernel
theorem dX9_leastGood_57 : decode cX9_leastGood 57 = .ok (.iload_n 2, 1) := by decide +kernel
theorem dX9_leastGood_58 : decode cX9_leastGood 58 = .ok (.ireturn, 1) := by decide +kernel
theorem dX9_crashes_0 : decode cX9_crashes 0 = .ok (.aload_n 0, 1) := by decide +kernel
theorem dX9_crashes_1 : decode cX9_crashes 1 = .ok (.getfield 7, 3) := by decide +kernel
theorem dX9_crashes_4 : decode cX9_crashes 4 = .ok (.bipush 15, 2) := by decide +kernel
theorem dX9_crashes_6 : decode cX9_crashes 6 = .ok (.dup2, 1) := by decide +kernel
theorem dX9_crashes_7 : decode cX9_crashes 7 = .ok (.iaload, 1) := by decide +kernel
theorem dX9_crashes_8 : decode cX9_crashes 8 = .ok (.iconst 1, 1) := by decide +kernel
theorem dX9_crashes_9 : decode cX9_crashes 9 = .ok (.iadd, 1) := by decide +kernel
theorem dX9_crashes_10 : decode cX9_crashes 10 = .ok (.iastore, 1) := by decide +kernel
theorem dX9_crashes_11 : decode cX9_crashes 11 = .ok (.aload_n 0, 1) := by decide +kernel
theorem dX9_crashes_12 : decode cX9_crashes 12 = .ok (.iload_n 1, 1) := by decide +kernel
theorem dX9_crashes_13 : decode cX9_crashes 13 = .ok (.iconst 4, 1) := by decide +kernel
theorem dX9_crashes_14 : decode cX9_crashes 14 = .ok (.aload_n 0, 1) := by decide +kernel
theorem dX9_crashes_15 : decode cX9_crashes 15 = .ok (.iload_n 1, 1) := by decide +kernel
theorem dX9_crashes_16 : decode cX9_crashes 16 = .ok (.iconst 4, 1) := by decide +kernel
theorem dX9_crashes_17 : decode cX9_crashes 17 = .ok (.invokevirtual 56, 3) := by decide +kernel
theorem dX9_crashes_20 : decode cX9_crashes 20 = .ok (.iconst 1, 1) := by decide +kernel
theorem dX9_crashes_21 : decode cX9_crashes 21 = .ok (.iadd, 1) := by decide +kernel
theorem dX9_crashes_22 : decode cX9_crashes 22 = .ok (.invokevirtual 77, 3) := by decide +kernel
theorem dX9_crashes_25 : decode cX9_crashes 25 = .ok (.aload_n 0, 1) := by decide +kernel
theorem dX9_crashes_26 : decode cX9_crashes 26 = .ok (.iload_n 1, 1) := by decide +kernel
theorem dX9_crashes_27 : decode cX9_crashes 27 = .ok (.invokevirtual 63, 3) := by decide +kernel
theorem dX9_crashes_30 : decode cX9_crashes 30 = .ok (.ifCond .eq 44, 3) := by decide +kernel
theorem dX9_crashes_33 : decode cX9_crashes 33 = .ok (.aload_n 0, 1) := by decide +kernel
theorem dX9_crashes_34 : decode cX9_crashes 34 = .ok (.iload_n 1, 1) := by decide +kernel
theorem dX9_crashes_35 : decode cX9_crashes 35 = .ok (.iconst 4, 1) := by decide +kernel
theorem dX9_crashes_36 : decode cX9_crashes 36 = .ok (.invokevirtual 56, 3) := by decide +kernel
theorem dX9_crashes_39 : decode cX9_crashes 39 = .ok (.aload_n 0, 1) := by decide +kernel
theorem dX9_crashes_40 : decode cX9_crashes 40 = .ok (.getfield 7, 3) := by decide +kernel
theorem dX9_crashes_43 : decode cX9_crashes 43 = .ok (.iconst 3, 1) := by decide +kernel
theorem dX9_crashes_44 : decode cX9_crashes 44 = .ok (.iaload, 1) := by decide +kernel
theorem dX9_crashes_45 : decode cX9_crashes 45 = .ok (.if_icmp .lt 29, 3) := by decide +kernel
theorem dX9_crashes_48 : decode cX9_crashes 48 = .ok (.aload_n 0, 1) := by decide +kernel
theorem dX9_crashes_49 : decode cX9_crashes 49 = .ok (.iload_n 1, 1) := by decide +kernel
theorem dX9_crashes_50 : decode cX9_crashes 50 = .ok (.iconst 3, 1) := by decide +kernel
theorem dX9_crashes_51 : decode cX9_crashes 51 = .ok (.iconst 0, 1) := by decide +kernel
theorem dX9_crashes_52 : decode cX9_crashes 52 = .ok (.invokevirtual 77, 3) := by decide +kernel
theorem dX9_crashes_55 : decode cX9_crashes 55 = .ok (.aload_n 0, 1) := by decide +kernel
theorem dX9_crashes_56 : decode cX9_crashes 56 = .ok (.iload_n 1, 1) := by decide +kernel
theorem dX9_crashes_57 : decode cX9_crashes 57 = .ok (.iconst 2, 1) := by decide +kernel
theorem dX9_crashes_58 : decode cX9_crashes 58 = .ok (.aload_n 0, 1) := by decide +kernel
theorem dX9_crashes_59 : decode cX9_crashes 59 = .ok (.getfield 7, 3) := by decide +kernel
theorem dX9_crashes_62 : decode cX9_crashes 62 = .ok (.iconst 4, 1) := by decide +kernel
theorem dX9_crashes_63 : decode cX9_crashes 63 = .ok (.iaload, 1) := by decide +kernel
theorem dX9_crashes_64 : decode cX9_crashes 64 = .ok (.invokevirtual 77, 3) := by decide +kernel
theorem dX9_crashes_67 : decode cX9_crashes 67 = .ok (.aload_n 0, 1) := by decide +kernel
theorem dX9_crashes_68 : decode cX9_crashes 68 = .ok (.iload_n 1, 1) := by decide +kernel
theorem dX9_crashes_69 : decode cX9_crashes 69 = .ok (.iconst 4, 1) := by decide +kernel
theorem dX9_crashes_70 : decode cX9_crashes 70 = .ok (.iconst 0, 1) := by decide +kernel
theorem dX9_crashes_71 : decode cX9_crashes 71 = .ok (.invokevirtual 77, 3) := by decide +kernel
theorem dX9_crashes_74 : decode cX9_crashes 74 = .ok (.aload_n 0, 1) := by decide +kernel
theorem dX9_crashes_75 : decode cX9_crashes 75 = .ok (.iconst 2, 1) := by decide +kernel
theorem dX9_crashes_76 : decode cX9_crashes 76 = .ok (.invokevirtual 92, 3) := by decide +kernel
theorem dX9_crashes_79 : decode cX9_crashes 79 = .ok (.istore_n 2, 1) := by decide +kernel
theorem dX9_crashes_80 : decode cX9_crashes 80 = .ok (.return_, 1) := by decide +kernel
theorem dX9_succeeds_0 : decode cX9_succeeds 0 = .ok (.aload_n 0, 1) := by decide +kernel
theorem dX9_succeeds_1 : decode cX9_succeeds 1 = .ok (.iload_n 1, 1) := by decide +kernel
theorem dX9_succeeds_2 : decode cX9_succeeds 2 = .ok (.invokevirtual 63, 3) := by decide +kernel
theorem dX9_succeeds_5 : decode cX9_succeeds 5 = .ok (.ifCond .ne 44, 3) := by decide +kernel
theorem dX9_succeeds_8 : decode cX9_succeeds 8 = .ok (.aload_n 0, 1) := by decide +kernel
theorem dX9_succeeds_9 : decode cX9_succeeds 9 = .ok (.iload_n 1, 1) := by decide +kernel
theorem dX9_succeeds_10 : decode cX9_succeeds 10 = .ok (.iconst 3, 1) := by decide +kernel
theorem dX9_succeeds_11 : decode cX9_succeeds 11 = .ok (.iconst 1, 1) := by decide +kernel
theorem dX9_succeeds_12 : decode cX9_succeeds 12 = .ok (.invokevirtual 77, 3) := by decide +kernel
theorem dX9_succeeds_15 : decode cX9_succeeds 15 = .ok (.aload_n 0, 1) := by decide +kernel
theorem dX9_succeeds_16 : decode cX9_succeeds 16 = .ok (.iload_n 1, 1) := by decide +kernel
theorem dX9_succeeds_17 : decode cX9_succeeds 17 = .ok (.iconst 2, 1) := by decide +kernel
theorem dX9_succeeds_18 : decode cX9_succeeds 18 = .ok (.iconst 0, 1) := by decide +kernel
theorem dX9_succeeds_19 : decode cX9_succeeds 19 = .ok (.invokevirtual 77, 3) := by decide +kernel
theorem dX9_succeeds_22 : decode cX9_succeeds 22 = .ok (.aload_n 0, 1) := by decide +kernel
theorem dX9_succeeds_23 : decode cX9_succeeds 23 = .ok (.iload_n 1, 1) := by decide +kernel
theorem dX9_succeeds_24 : decode cX9_succeeds 24 = .ok (.bipush 7, 2) := by decide +kernel
theorem dX9_succeeds_26 : decode cX9_succeeds 26 = .ok (.aload_n 0, 1) := by decide +kernel
theorem dX9_succeeds_27 : decode cX9_succeeds 27 = .ok (.iload_n 1, 1) := by decide +kernel
theorem dX9_succeeds_28 : decode cX9_succeeds 28 = .ok (.bipush 7, 2) := by decide +kernel
theorem dX9_succeeds_30 : decode cX9_succeeds 30 = .ok (.invokevirtual 56, 3) := by decide +kernel
theorem dX9_succeeds_33 : decode cX9_succeeds 33 = .ok (.iconst 1, 1) := by decide +kernel
theorem dX9_succeeds_34 : decode cX9_succeeds 34 = .ok (.iadd, 1) := by decide +kernel
theorem dX9_succeeds_35 : decode cX9_succeeds 35 = .ok (.invokevirtual 77, 3) := by decide +kernel
theorem dX9_succeeds_38 : decode cX9_succeeds 38 = .ok (.aload_n 0, 1) := by decide +kernel
theorem dX9_succeeds_39 : decode cX9_succeeds 39 = .ok (.getfield 7, 3) := by decide +kernel
theorem dX9_succeeds_42 : decode cX9_succeeds 42 = .ok (.bipush 17, 2) := by decide +kernel
theorem dX9_succeeds_44 : decode cX9_succeeds 44 = .ok (.dup2, 1) := by decide +kernel
theorem dX9_succeeds_45 : decode cX9_succeeds 45 = .ok (.iaload, 1) := by decide +kernel
theorem dX9_succeeds_46 : decode cX9_succeeds 46 = .ok (.iconst 1, 1) := by decide +kernel
theorem dX9_succeeds_47 : decode cX9_succeeds 47 = .ok (.iadd, 1) := by decide +kernel
theorem dX9_succeeds_48 : decode cX9_succeeds 48 = .ok (.iastore, 1) := by decide +kernel
theorem dX9_succeeds_49 : decode cX9_succeeds 49 = .ok (.aload_n 0, 1) := by decide +kernel
theorem dX9_succeeds_50 : decode cX9_succeeds 50 = .ok (.iload_n 1, 1) := by decide +kernel
theorem dX9_succeeds_51 : decode cX9_succeeds 51 = .ok (.iconst 4, 1) := by decide +kernel
theorem dX9_succeeds_52 : decode cX9_succeeds 52 = .ok (.iconst 0, 1) := by decide +kernel
theorem dX9_succeeds_53 : decode cX9_succeeds 53 = .ok (.invokevirtual 77, 3) := by decide +kernel
theorem dX9_succeeds_56 : decode cX9_succeeds 56 = .ok (.aload_n 0, 1) := by decide +kernel
theorem dX9_succeeds_57 : decode cX9_succeeds 57 = .ok (.getfield 7, 3) := by decide +kernel
theorem dX9_succeeds_60 : decode cX9_succeeds 60 = .ok (.iconst 5, 1) := by decide +kernel
theorem dX9_succeeds_61 : decode cX9_succeeds 61 = .ok (.aload_n 0, 1) := by decide +kernel
theorem dX9_succeeds_62 : decode cX9_succeeds 62 = .ok (.getfield 7, 3) := by decide +kernel
theorem dX9_succeeds_65 : decode cX9_succeeds 65 = .ok (.iconst 5, 1) := by decide +kernel
theorem dX9_succeeds_66 : decode cX9_succeeds 66 = .ok (.iaload, 1) := by decide +kernel
theorem dX9_succeeds_67 : decode cX9_succeeds 67 = .ok (.aload_n 0, 1) := by decide +kernel
theorem dX9_succeeds_68 : decode cX9_succeeds 68 = .ok (.iload_n 1, 1) := by decide +kernel
theorem dX9_succeeds_69 : decode cX9_succeeds 69 = .ok (.invokevirtual 95, 3) := by decide +kernel
theorem dX9_succeeds_72 : decode cX9_succeeds 72 = .ok (.invokestatic 98, 3) := by decide +kernel
theorem dX9_succeeds_75 : decode cX9_succeeds 75 = .ok (.iastore, 1) := by decide +kernel
theorem dX9_succeeds_76 : decode cX9_succeeds 76 = .ok (.return_, 1) := by decide +kernel
theorem dX9_runsOn_0 : decode cX9_runsOn 0 = .ok (.aload_n 0, 1) := by decide +kernel
theorem dX9_runsOn_1 : decode cX9_runsOn 1 = .ok (.getfield 7, 3) := by decide +kernel
theorem dX9_runsOn_4 : decode cX9_runsOn 4 = .ok (.bipush 7, 2) := by decide +kernel
theorem dX9_runsOn_6 : decode cX9_runsOn 6 = .ok (.iaload, 1) := by decide +kernel
theorem dX9_runsOn_7 : decode cX9_runsOn 7 = .ok (.istore_n 1, 1) := by decide +kernel
theorem dX9_runsOn_8 : decode cX9_runsOn 8 = .ok (.aload_n 0, 1) := by decide +kernel
theorem dX9_runsOn_9 : decode cX9_runsOn 9 = .ok (.getfield 7, 3) := by decide +kernel
theorem dX9_runsOn_12 : decode cX9_runsOn 12 = .ok (.bipush 8, 2) := by decide +kernel
theorem dX9_runsOn_14 : decode cX9_runsOn 14 = .ok (.dup2, 1) := by decide +kernel
theorem dX9_runsOn_15 : decode cX9_runsOn 15 = .ok (.iaload, 1) := by decide +kernel
theorem dX9_runsOn_16 : decode cX9_runsOn 16 = .ok (.iconst 1, 1) := by decide +kernel
theorem dX9_runsOn_17 : decode cX9_runsOn 17 = .ok (.iadd, 1) := by decide +kernel
theorem dX9_runsOn_18 : decode cX9_runsOn 18 = .ok (.iastore, 1) := by decide +kernel
theorem dX9_runsOn_19 : decode cX9_runsOn 19 = .ok (.aload_n 0, 1) := by decide +kernel
theorem dX9_runsOn_20 : decode cX9_runsOn 20 = .ok (.getfield 7, 3) := by decide +kernel
theorem dX9_runsOn_23 : decode cX9_runsOn 23 = .ok (.bipush 8, 2) := by decide +kernel
theorem dX9_runsOn_25 : decode cX9_runsOn 25 = .ok (.iaload, 1) := by decide +kernel
theorem dX9_runsOn_26 : decode cX9_runsOn 26 = .ok (.aload_n 0, 1) := by decide +kernel
theorem dX9_runsOn_27 : decode cX9_runsOn 27 = .ok (.iload_n 1, 1) := by decide +kernel
theorem dX9_runsOn_28 : decode cX9_runsOn 28 = .ok (.bipush 10, 2) := by decide +kernel
theorem dX9_runsOn_30 : decode cX9_runsOn 30 = .ok (.invokevirtual 56, 3) := by decide +kernel
theorem dX9_runsOn_33 : decode cX9_runsOn 33 = .ok (.if_icmp .ne 11, 3) := by decide +kernel
theorem dX9_runsOn_36 : decode cX9_runsOn 36 = .ok (.aload_n 0, 1) := by decide +kernel
theorem dX9_runsOn_37 : decode cX9_runsOn 37 = .ok (.iload_n 1, 1) := by decide +kernel
theorem dX9_runsOn_38 : decode cX9_runsOn 38 = .ok (.invokevirtual 103, 3) := by decide +kernel
theorem dX9_runsOn_41 : decode cX9_runsOn 41 = .ok (.goto 69, 3) := by decide +kernel
theorem dX9_runsOn_44 : decode cX9_runsOn 44 = .ok (.aload_n 0, 1) := by decide +kernel
theorem dX9_runsOn_45 : decode cX9_runsOn 45 = .ok (.getfield 7, 3) := by decide +kernel
theorem dX9_runsOn_48 : decode cX9_runsOn 48 = .ok (.bipush 8, 2) := by decide +kernel
theorem dX9_runsOn_50 : decode cX9_runsOn 50 = .ok (.iaload, 1) := by decide +kernel
theorem dX9_runsOn_51 : decode cX9_runsOn 51 = .ok (.aload_n 0, 1) := by decide +kernel
theorem dX9_runsOn_52 : decode cX9_runsOn 52 = .ok (.iload_n 1, 1) := by decide +kernel
theorem dX9_runsOn_53 : decode cX9_runsOn 53 = .ok (.bipush 9, 2) := by decide +kernel
theorem dX9_runsOn_55 : decode cX9_runsOn 55 = .ok (.invokevirtual 56, 3) := by decide +kernel
theorem dX9_runsOn_58 : decode cX9_runsOn 58 = .ok (.if_icmp .ne 11, 3) := by decide +kernel
theorem dX9_runsOn_61 : decode cX9_runsOn 61 = .ok (.aload_n 0, 1) := by decide +kernel
theorem dX9_runsOn_62 : decode cX9_runsOn 62 = .ok (.iload_n 1, 1) := by decide +kernel
theorem dX9_runsOn_63 : decode cX9_runsOn 63 = .ok (.invokevirtual 107, 3) := by decide +kernel
theorem dX9_runsOn_66 : decode cX9_runsOn 66 = .ok (.goto 44, 3) := by decide +kernel
theorem dX9_runsOn_69 : decode cX9_runsOn 69 = .ok (.aload_n 0, 1) := by decide +kernel
theorem dX9_runsOn_70 : decode cX9_runsOn 70 = .ok (.getfield 7, 3) := by decide +kernel
theorem dX9_runsOn_73 : decode cX9_runsOn 73 = .ok (.bipush 8, 2) := by decide +kernel
theorem dX9_runsOn_75 : decode cX9_runsOn 75 = .ok (.iaload, 1) := by decide +kernel
theorem dX9_runsOn_76 : decode cX9_runsOn 76 = .ok (.aload_n 0, 1) := by decide +kernel
theorem dX9_runsOn_77 : decode cX9_runsOn 77 = .ok (.getfield 7, 3) := by decide +kernel
theorem dX9_runsOn_80 : decode cX9_runsOn 80 = .ok (.iconst 2, 1) := by decide +kernel
theorem dX9_runsOn_81 : decode cX9_runsOn 81 = .ok (.iaload, 1) := by decide +kernel
theorem dX9_runsOn_82 : decode cX9_runsOn 82 = .ok (.if_icmp .ne 28, 3) := by decide +kernel
theorem dX9_runsOn_85 : decode cX9_runsOn 85 = .ok (.aload_n 0, 1) := by decide +kernel
theorem dX9_runsOn_86 : decode cX9_runsOn 86 = .ok (.iload_n 1, 1) := by decide +kernel
theorem dX9_runsOn_87 : decode cX9_runsOn 87 = .ok (.invokevirtual 63, 3) := by decide +kernel
theorem dX9_runsOn_90 : decode cX9_runsOn 90 = .ok (.ifCond .ne 20, 3) := by decide +kernel
theorem dX9_runsOn_93 : decode cX9_runsOn 93 = .ok (.aload_n 0, 1) := by decide +kernel
theorem dX9_runsOn_94 : decode cX9_runsOn 94 = .ok (.getfield 7, 3) := by decide +kernel
theorem dX9_runsOn_97 : decode cX9_runsOn 97 = .ok (.bipush 16, 2) := by decide +kernel
theorem dX9_runsOn_99 : decode cX9_runsOn 99 = .ok (.dup2, 1) := by decide +kernel
theorem dX9_runsOn_100 : decode cX9_runsOn 100 = .ok (.iaload, 1) := by decide +kernel
theorem dX9_runsOn_101 : decode cX9_runsOn 101 = .ok (.iconst 1, 1) := by decide +kernel
theorem dX9_runsOn_102 : decode cX9_runsOn 102 = .ok (.iadd, 1) := by decide +kernel
theorem dX9_runsOn_103 : decode cX9_runsOn 103 = .ok (.iastore, 1) := by decide +kernel
theorem dX9_runsOn_104 : decode cX9_runsOn 104 = .ok (.aload_n 0, 1) := by decide +kernel
theorem dX9_runsOn_105 : decode cX9_runsOn 105 = .ok (.iconst 3, 1) := by decide +kernel
theorem dX9_runsOn_106 : decode cX9_runsOn 106 = .ok (.invokevirtual 92, 3) := by decide +kernel
theorem dX9_runsOn_109 : decode cX9_runsOn 109 = .ok (.istore_n 2, 1) := by decide +kernel
theorem dX9_runsOn_110 : decode cX9_runsOn 110 = .ok (.return_, 1) := by decide +kernel
theorem dX9_greatestBut_0 : decode cX9_greatestBut 0 = .ok (.iconst 0, 1) := by decide +kernel
theorem dX9_greatestBut_1 : decode cX9_greatestBut 1 = .ok (.istore_n 2, 1) := by decide +kernel
theorem dX9_greatestBut_2 : decode cX9_greatestBut 2 = .ok (.iconst 0, 1) := by decide +kernel
theorem dX9_greatestBut_3 : decode cX9_greatestBut 3 = .ok (.istore_n 3, 1) := by decide +kernel
theorem dX9_greatestBut_4 : decode cX9_greatestBut 4 = .ok (.iload_n 3, 1) := by decide +kernel
theorem dX9_greatestBut_5 : decode cX9_greatestBut 5 = .ok (.aload_n 0, 1) := by decide +kernel
theorem dX9_greatestBut_6 : decode cX9_greatestBut 6 = .ok (.getfield 7, 3) := by decide +kernel
theorem dX9_greatestBut_9 : decode cX9_greatestBut 9 = .ok (.iconst 0, 1) := by decide +kernel
theorem dX9_greatestBut_10 : decode cX9_greatestBut 10 = .ok (.iaload, 1) := by decide +kernel
theorem dX9_greatestBut_11 : decode cX9_greatestBut 11 = .ok (.if_icmp .ge 35, 3) := by decide +kernel
theorem dX9_greatestBut_14 : decode cX9_greatestBut 14 = .ok (.iload_n 3, 1) := by decide +kernel
theorem dX9_greatestBut_15 : decode cX9_greatestBut 15 = .ok (.iload_n 1, 1) := by decide +kernel
theorem dX9_greatestBut_16 : decode cX9_greatestBut 16 = .ok (.if_icmp .eq 22, 3) := by decide +kernel
theorem dX9_greatestBut_19 : decode cX9_greatestBut 19 = .ok (.aload_n 0, 1) := by decide +kernel
theorem dX9_greatestBut_20 : decode cX9_greatestBut 20 = .ok (.iload_n 3, 1) := by decide +kernel
theorem dX9_greatestBut_21 : decode cX9_greatestBut 21 = .ok (.iconst 1, 1) := by decide +kernel
theorem dX9_greatestBut_22 : decode cX9_greatestBut 22 = .ok (.invokevirtual 56, 3) := by decide +kernel
theorem dX9_greatestBut_25 : decode cX9_greatestBut 25 = .ok (.iload_n 2, 1) := by decide +kernel
theorem dX9_greatestBut_26 : decode cX9_greatestBut 26 = .ok (.if_icmp .le 12, 3) := by decide +kernel
theorem dX9_greatestBut_29 : decode cX9_greatestBut 29 = .ok (.aload_n 0, 1) := by decide +kernel
theorem dX9_greatestBut_30 : decode cX9_greatestBut 30 = .ok (.iload_n 3, 1) := by decide +kernel
theorem dX9_greatestBut_31 : decode cX9_greatestBut 31 = .ok (.iconst 1, 1) := by decide +kernel
theorem dX9_greatestBut_32 : decode cX9_greatestBut 32 = .ok (.invokevirtual 56, 3) := by decide +kernel
theorem dX9_greatestBut_35 : decode cX9_greatestBut 35 = .ok (.goto 4, 3) := by decide +kernel
theorem dX9_greatestBut_38 : decode cX9_greatestBut 38 = .ok (.iload_n 2, 1) := by decide +kernel
theorem dX9_greatestBut_39 : decode cX9_greatestBut 39 = .ok (.istore_n 2, 1) := by decide +kernel
theorem dX9_greatestBut_40 : decode cX9_greatestBut 40 = .ok (.iinc 3 1, 3) := by decide +kernel
theorem dX9_greatestBut_43 : decode cX9_greatestBut 43 = .ok (.goto (-39), 3) := by decide +kernel
theorem dX9_greatestBut_46 : decode cX9_greatestBut 46 = .ok (.iload_n 2, 1) := by decide +kernel
theorem dX9_greatestBut_47 : decode cX9_greatestBut 47 = .ok (.ireturn, 1) := by decide +kernel
theorem dX9_empties_0 : decode cX9_empties 0 = .ok (.iconst 0, 1) := by decide +kernel
theorem dX9_empties_1 : decode cX9_empties 1 = .ok (.istore_n 2, 1) := by decide +kernel
theorem dX9_empties_2 : decode cX9_empties 2 = .ok (.iload_n 2, 1) := by decide +kernel
theorem dX9_empties_3 : decode cX9_empties 3 = .ok (.iconst 4, 1) := by decide +kernel
theorem dX9_empties_4 : decode cX9_empties 4 = .ok (.if_icmp .gt 16, 3) := by decide +kernel
theorem dX9_empties_7 : decode cX9_empties 7 = .ok (.aload_n 0, 1) := by decide +kernel
theorem dX9_empties_8 : decode cX9_empties 8 = .ok (.iload_n 1, 1) := by decide +kernel
theorem dX9_empties_9 : decode cX9_empties 9 = .ok (.iload_n 2, 1) := by decide +kernel
theorem dX9_empties_10 : decode cX9_empties 10 = .ok (.iconst 0, 1) := by decide +kernel
theorem dX9_empties_11 : decode cX9_empties 11 = .ok (.invokevirtual 77, 3) := by decide +kernel
theorem dX9_empties_14 : decode cX9_empties 14 = .ok (.iinc 2 1, 3) := by decide +kernel
theorem dX9_empties_17 : decode cX9_empties 17 = .ok (.goto (-15), 3) := by decide +kernel
theorem dX9_empties_20 : decode cX9_empties 20 = .ok (.bipush 8, 2) := by decide +kernel
theorem dX9_empties_22 : decode cX9_empties 22 = .ok (.istore_n 2, 1) := by decide +kernel
theorem dX9_empties_23 : decode cX9_empties 23 = .ok (.iload_n 2, 1) := by decide +kernel
theorem dX9_empties_24 : decode cX9_empties 24 = .ok (.bipush 12, 2) := by decide +kernel
theorem dX9_empties_26 : decode cX9_empties 26 = .ok (.if_icmp .gt 16, 3) := by decide +kernel
theorem dX9_empties_29 : decode cX9_empties 29 = .ok (.aload_n 0, 1) := by decide +kernel
theorem dX9_empties_30 : decode cX9_empties 30 = .ok (.iload_n 1, 1) := by decide +kernel
theorem dX9_empties_31 : decode cX9_empties 31 = .ok (.iload_n 2, 1) := by decide +kernel
theorem dX9_empties_32 : decode cX9_empties 32 = .ok (.iconst 0, 1) := by decide +kernel
theorem dX9_empties_33 : decode cX9_empties 33 = .ok (.invokevirtual 77, 3) := by decide +kernel
theorem dX9_empties_36 : decode cX9_empties 36 = .ok (.iinc 2 1, 3) := by decide +kernel
theorem dX9_empties_39 : decode cX9_empties 39 = .ok (.goto (-16), 3) := by decide +kernel
theorem dX9_empties_42 : decode cX9_empties 42 = .ok (.return_, 1) := by decide +kernel
theorem dX9_noInstall_0 : decode cX9_noInstall 0 = .ok (.iconst 0, 1) := by decide +kernel
theorem dX9_noInstall_1 : decode cX9_noInstall 1 = .ok (.istore_n 1, 1) := by decide +kernel
theorem dX9_noInstall_2 : decode cX9_noInstall 2 = .ok (.iload_n 1, 1) := by decide +kernel
theorem dX9_noInstall_3 : decode cX9_noInstall 3 = .ok (.bipush 7, 2) := by decide +kernel
theorem dX9_noInstall_5 : decode cX9_noInstall 5 = .ok (.if_icmp .gt 19, 3) := by decide +kernel
theorem dX9_noInstall_8 : decode cX9_noInstall 8 = .ok (.aload_n 0, 1) := by decide +kernel
theorem dX9_noInstall_9 : decode cX9_noInstall 9 = .ok (.getfield 7, 3) := by decide +kernel
theorem dX9_noInstall_12 : decode cX9_noInstall 12 = .ok (.bipush 20, 2) := by decide +kernel
theorem dX9_noInstall_14 : decode cX9_noInstall 14 = .ok (.iload_n 1, 1) := by decide +kernel
theorem dX9_noInstall_15 : decode cX9_noInstall 15 = .ok (.iadd, 1) := by decide +kernel
theorem dX9_noInstall_16 : decode cX9_noInstall 16 = .ok (.iconst (-1), 1) := by decide +kernel
theorem dX9_noInstall_17 : decode cX9_noInstall 17 = .ok (.iastore, 1) := by decide +kernel
theorem dX9_noInstall_18 : decode cX9_noInstall 18 = .ok (.iinc 1 1, 3) := by decide +kernel
theorem dX9_noInstall_21 : decode cX9_noInstall 21 = .ok (.goto (-19), 3) := by decide +kernel
theorem dX9_noInstall_24 : decode cX9_noInstall 24 = .ok (.return_, 1) := by decide +kernel
theorem dX9_comes_0 : decode cX9_comes 0 = .ok (.aload_n 0, 1) := by decide +kernel
theorem dX9_comes_1 : decode cX9_comes 1 = .ok (.iload_n 1, 1) := by decide +kernel
theorem dX9_comes_2 : decode cX9_comes 2 = .ok (.invokevirtual 110, 3) := by decide +kernel
theorem dX9_comes_5 : decode cX9_comes 5 = .ok (.bipush 15, 2) := by decide +kernel
theorem dX9_comes_7 : decode cX9_comes 7 = .ok (.if_icmp .ne 63, 3) := by decide +kernel
theorem dX9_comes_10 : decode cX9_comes 10 = .ok (.iconst 0, 1) := by decide +kernel
theorem dX9_comes_11 : decode cX9_comes 11 = .ok (.istore 5, 2) := by decide +kernel
theorem dX9_comes_13 : decode cX9_comes 13 = .ok (.iload 5, 2) := by decide +kernel
theorem dX9_comes_15 : decode cX9_comes 15 = .ok (.aload_n 0, 1) := by decide +kernel
theorem dX9_comes_16 : decode cX9_comes 16 = .ok (.getfield 7, 3) := by decide +kernel
theorem dX9_comes_19 : decode cX9_comes 19 = .ok (.iconst 0, 1) := by decide +kernel
theorem dX9_comes_20 : decode cX9_comes 20 = .ok (.iaload, 1) := by decide +kernel
theorem dX9_comes_21 : decode cX9_comes 21 = .ok (.if_icmp .ge 49, 3) := by decide +kernel
theorem dX9_comes_24 : decode cX9_comes 24 = .ok (.aload_n 0, 1) := by decide +kernel
theorem dX9_comes_25 : decode cX9_comes 25 = .ok (.iload 5, 2) := by decide +kernel
theorem dX9_comes_27 : decode cX9_comes 27 = .ok (.iconst 1, 1) := by decide +kernel
theorem dX9_comes_28 : decode cX9_comes 28 = .ok (.aload_n 0, 1) := by decide +kernel
theorem dX9_comes_29 : decode cX9_comes 29 = .ok (.iload 5, 2) := by decide +kernel
theorem dX9_comes_31 : decode cX9_comes 31 = .ok (.iconst 1, 1) := by decide +kernel
theorem dX9_comes_32 : decode cX9_comes 32 = .ok (.invokevirtual 56, 3) := by decide +kernel
theorem dX9_comes_35 : decode cX9_comes 35 = .ok (.iload 5, 2) := by decide +kernel
theorem dX9_comes_37 : decode cX9_comes 37 = .ok (.iload_n 1, 1) := by decide +kernel
theorem dX9_comes_38 : decode cX9_comes 38 = .ok (.if_icmp .eq 18, 3) := by decide +kernel
theorem dX9_comes_41 : decode cX9_comes 41 = .ok (.aload_n 0, 1) := by decide +kernel
theorem dX9_comes_42 : decode cX9_comes 42 = .ok (.iload 5, 2) := by decide +kernel
theorem dX9_comes_44 : decode cX9_comes 44 = .ok (.iconst 1, 1) := by decide +kernel
theorem dX9_comes_45 : decode cX9_comes 45 = .ok (.invokevirtual 56, 3) := by decide +kernel
theorem dX9_comes_48 : decode cX9_comes 48 = .ok (.iconst 1, 1) := by decide +kernel
theorem dX9_comes_49 : decode cX9_comes 49 = .ok (.if_icmp .le 7, 3) := by decide +kernel
theorem dX9_comes_52 : decode cX9_comes 52 = .ok (.iconst 1, 1) := by decide +kernel
theorem dX9_comes_53 : decode cX9_comes 53 = .ok (.goto 4, 3) := by decide +kernel
theorem dX9_comes_56 : decode cX9_comes 56 = .ok (.iconst 0, 1) := by decide +kernel
theorem dX9_comes_57 : decode cX9_comes 57 = .ok (.invokestatic 113, 3) := by decide +kernel
theorem dX9_comes_60 : decode cX9_comes 60 = .ok (.isub, 1) := by decide +kernel
theorem dX9_comes_61 : decode cX9_comes 61 = .ok (.invokevirtual 77, 3) := by decide +kernel
theorem dX9_comes_64 : decode cX9_comes 64 = .ok (.iinc 5 1, 3) := by decide +kernel
theorem dX9_comes_67 : decode cX9_comes 67 = .ok (.goto (-54), 3) := by decide +kernel
theorem dX9_comes_70 : decode cX9_comes 70 = .ok (.aload_n 0, 1) := by decide +kernel
theorem dX9_comes_71 : decode cX9_comes 71 = .ok (.iload_n 1, 1) := by decide +kernel
theorem dX9_comes_72 : decode cX9_comes 72 = .ok (.iconst 0, 1) := by decide +kernel
theorem dX9_comes_73 : decode cX9_comes 73 = .ok (.iconst 1, 1) := by decide +kernel
theorem dX9_comes_74 : decode cX9_comes 74 = .ok (.invokevirtual 77, 3) := by decide +kernel
theorem dX9_comes_77 : decode cX9_comes 77 = .ok (.aload_n 0, 1) := by decide +kernel
theorem dX9_comes_78 : decode cX9_comes 78 = .ok (.iload_n 1, 1) := by decide +kernel
theorem dX9_comes_79 : decode cX9_comes 79 = .ok (.iconst 1, 1) := by decide +kernel
theorem dX9_comes_80 : decode cX9_comes 80 = .ok (.aload_n 0, 1) := by decide +kernel
theorem dX9_comes_81 : decode cX9_comes 81 = .ok (.iload_n 1, 1) := by decide +kernel
theorem dX9_comes_82 : decode cX9_comes 82 = .ok (.invokevirtual 110, 3) := by decide +kernel
theorem dX9_comes_85 : decode cX9_comes 85 = .ok (.iconst 1, 1) := by decide +kernel
theorem dX9_comes_86 : decode cX9_comes 86 = .ok (.iadd, 1) := by decide +kernel
theorem dX9_comes_87 : decode cX9_comes 87 = .ok (.invokevirtual 77, 3) := by decide +kernel
theorem dX9_comes_90 : decode cX9_comes 90 = .ok (.aload_n 0, 1) := by decide +kernel
theorem dX9_comes_91 : decode cX9_comes 91 = .ok (.iload_n 1, 1) := by decide +kernel
theorem dX9_comes_92 : decode cX9_comes 92 = .ok (.iconst 2, 1) := by decide +kernel
theorem dX9_comes_93 : decode cX9_comes 93 = .ok (.iconst 3, 1) := by decide +kernel
theorem dX9_comes_94 : decode cX9_comes 94 = .ok (.invokevirtual 77, 3) := by decide +kernel
theorem dX9_comes_97 : decode cX9_comes 97 = .ok (.aload_n 0, 1) := by decide +kernel
theorem dX9_comes_98 : decode cX9_comes 98 = .ok (.iload_n 1, 1) := by decide +kernel
theorem dX9_comes_99 : decode cX9_comes 99 = .ok (.bipush 8, 2) := by decide +kernel
theorem dX9_comes_101 : decode cX9_comes 101 = .ok (.iload_n 2, 1) := by decide +kernel
theorem dX9_comes_102 : decode cX9_comes 102 = .ok (.invokevirtual 77, 3) := by decide +kernel
theorem dX9_comes_105 : decode cX9_comes 105 = .ok (.aload_n 0, 1) := by decide +kernel
theorem dX9_comes_106 : decode cX9_comes 106 = .ok (.iload_n 1, 1) := by decide +kernel
theorem dX9_comes_107 : decode cX9_comes 107 = .ok (.bipush 9, 2) := by decide +kernel
theorem dX9_comes_109 : decode cX9_comes 109 = .ok (.iload_n 3, 1) := by decide +kernel
theorem dX9_comes_110 : decode cX9_comes 110 = .ok (.invokevirtual 77, 3) := by decide +kernel
theorem dX9_comes_113 : decode cX9_comes 113 = .ok (.aload_n 0, 1) := by decide +kernel
theorem dX9_comes_114 : decode cX9_comes 114 = .ok (.iload_n 1, 1) := by decide +kernel
theorem dX9_comes_115 : decode cX9_comes 115 = .ok (.bipush 10, 2) := by decide +kernel
theorem dX9_comes_117 : decode cX9_comes 117 = .ok (.iload 4, 2) := by decide +kernel
theorem dX9_comes_119 : decode cX9_comes 119 = .ok (.invokevirtual 77, 3) := by decide +kernel
theorem dX9_comes_122 : decode cX9_comes 122 = .ok (.return_, 1) := by decide +kernel
theorem dX9_installs_0 : decode cX9_installs 0 = .ok (.aload_n 0, 1) := by decide +kernel
theorem dX9_installs_1 : decode cX9_installs 1 = .ok (.getfield 7, 3) := by decide +kernel
theorem dX9_installs_4 : decode cX9_installs 4 = .ok (.bipush 20, 2) := by decide +kernel
theorem dX9_installs_6 : decode cX9_installs 6 = .ok (.iaload, 1) := by decide +kernel
theorem dX9_installs_7 : decode cX9_installs 7 = .ok (.istore_n 1, 1) := by decide +kernel
theorem dX9_installs_8 : decode cX9_installs 8 = .ok (.aload_n 0, 1) := by decide +kernel
theorem dX9_installs_9 : decode cX9_installs 9 = .ok (.iload_n 1, 1) := by decide +kernel
theorem dX9_installs_10 : decode cX9_installs 10 = .ok (.aload_n 0, 1) := by decide +kernel
theorem dX9_installs_11 : decode cX9_installs 11 = .ok (.getfield 7, 3) := by decide +kernel
theorem dX9_installs_14 : decode cX9_installs 14 = .ok (.bipush 22, 2) := by decide +kernel
theorem dX9_installs_16 : decode cX9_installs 16 = .ok (.iaload, 1) := by decide +kernel
theorem dX9_installs_17 : decode cX9_installs 17 = .ok (.aload_n 0, 1) := by decide +kernel
theorem dX9_installs_18 : decode cX9_installs 18 = .ok (.getfield 7, 3) := by decide +kernel
theorem dX9_installs_21 : decode cX9_installs 21 = .ok (.bipush 23, 2) := by decide +kernel
theorem dX9_installs_23 : decode cX9_installs 23 = .ok (.iaload, 1) := by decide +kernel
theorem dX9_installs_24 : decode cX9_installs 24 = .ok (.aload_n 0, 1) := by decide +kernel
theorem dX9_installs_25 : decode cX9_installs 25 = .ok (.getfield 7, 3) := by decide +kernel
theorem dX9_installs_28 : decode cX9_installs 28 = .ok (.bipush 24, 2) := by decide +kernel
theorem dX9_installs_30 : decode cX9_installs 30 = .ok (.iaload, 1) := by decide +kernel
theorem dX9_installs_31 : decode cX9_installs 31 = .ok (.invokevirtual 117, 3) := by decide +kernel
theorem dX9_installs_34 : decode cX9_installs 34 = .ok (.aload_n 0, 1) := by decide +kernel
theorem dX9_installs_35 : decode cX9_installs 35 = .ok (.iload_n 1, 1) := by decide +kernel
theorem dX9_installs_36 : decode cX9_installs 36 = .ok (.iconst 2, 1) := by decide +kernel
theorem dX9_installs_37 : decode cX9_installs 37 = .ok (.aload_n 0, 1) := by decide +kernel
theorem dX9_installs_38 : decode cX9_installs 38 = .ok (.getfield 7, 3) := by decide +kernel
theorem dX9_installs_41 : decode cX9_installs 41 = .ok (.bipush 27, 2) := by decide +kernel
theorem dX9_installs_43 : decode cX9_installs 43 = .ok (.iaload, 1) := by decide +kernel
theorem dX9_installs_44 : decode cX9_installs 44 = .ok (.invokevirtual 77, 3) := by decide +kernel
theorem dX9_installs_47 : decode cX9_installs 47 = .ok (.aload_n 0, 1) := by decide +kernel
theorem dX9_installs_48 : decode cX9_installs 48 = .ok (.iload_n 1, 1) := by decide +kernel
theorem dX9_installs_49 : decode cX9_installs 49 = .ok (.bipush 11, 2) := by decide +kernel
theorem dX9_installs_51 : decode cX9_installs 51 = .ok (.aload_n 0, 1) := by decide +kernel
theorem dX9_installs_52 : decode cX9_installs 52 = .ok (.getfield 7, 3) := by decide +kernel
theorem dX9_installs_55 : decode cX9_installs 55 = .ok (.bipush 25, 2) := by decide +kernel
theorem dX9_installs_57 : decode cX9_installs 57 = .ok (.iaload, 1) := by decide +kernel
theorem dX9_installs_58 : decode cX9_installs 58 = .ok (.invokevirtual 77, 3) := by decide +kernel
theorem dX9_installs_61 : decode cX9_installs 61 = .ok (.aload_n 0, 1) := by decide +kernel
theorem dX9_installs_62 : decode cX9_installs 62 = .ok (.iload_n 1, 1) := by decide +kernel
theorem dX9_installs_63 : decode cX9_installs 63 = .ok (.bipush 12, 2) := by decide +kernel
theorem dX9_installs_65 : decode cX9_installs 65 = .ok (.aload_n 0, 1) := by decide +kernel
theorem dX9_installs_66 : decode cX9_installs 66 = .ok (.getfield 7, 3) := by decide +kernel
theorem dX9_installs_69 : decode cX9_installs 69 = .ok (.bipush 26, 2) := by decide +kernel
theorem dX9_installs_71 : decode cX9_installs 71 = .ok (.iaload, 1) := by decide +kernel
theorem dX9_installs_72 : decode cX9_installs 72 = .ok (.invokevirtual 77, 3) := by decide +kernel
theorem dX9_installs_75 : decode cX9_installs 75 = .ok (.aload_n 0, 1) := by decide +kernel
theorem dX9_installs_76 : decode cX9_installs 76 = .ok (.invokevirtual 121, 3) := by decide +kernel
theorem dX9_installs_79 : decode cX9_installs 79 = .ok (.aload_n 0, 1) := by decide +kernel
theorem dX9_installs_80 : decode cX9_installs 80 = .ok (.getfield 7, 3) := by decide +kernel
theorem dX9_installs_83 : decode cX9_installs 83 = .ok (.bipush 19, 2) := by decide +kernel
theorem dX9_installs_85 : decode cX9_installs 85 = .ok (.dup2, 1) := by decide +kernel
theorem dX9_installs_86 : decode cX9_installs 86 = .ok (.iaload, 1) := by decide +kernel
theorem dX9_installs_87 : decode cX9_installs 87 = .ok (.iconst 1, 1) := by decide +kernel
theorem dX9_installs_88 : decode cX9_installs 88 = .ok (.iadd, 1) := by decide +kernel
theorem dX9_installs_89 : decode cX9_installs 89 = .ok (.iastore, 1) := by decide +kernel
theorem dX9_installs_90 : decode cX9_installs 90 = .ok (.aload_n 0, 1) := by decide +kernel
theorem dX9_installs_91 : decode cX9_installs 91 = .ok (.getfield 7, 3) := by decide +kernel
theorem dX9_installs_94 : decode cX9_installs 94 = .ok (.bipush 6, 2) := by decide +kernel
theorem dX9_installs_96 : decode cX9_installs 96 = .ok (.iaload, 1) := by decide +kernel
theorem dX9_installs_97 : decode cX9_installs 97 = .ok (.iconst 2, 1) := by decide +kernel
theorem dX9_installs_98 : decode cX9_installs 98 = .ok (.if_icmp .ne 9, 3) := by decide +kernel
theorem dX9_installs_101 : decode cX9_installs 101 = .ok (.aload_n 0, 1) := by decide +kernel
theorem dX9_installs_102 : decode cX9_installs 102 = .ok (.iconst 4, 1) := by decide +kernel
theorem dX9_installs_103 : decode cX9_installs 103 = .ok (.invokevirtual 92, 3) := by decide +kernel
theorem dX9_installs_106 : decode cX9_installs 106 = .ok (.istore_n 2, 1) := by decide +kernel
theorem dX9_installs_107 : decode cX9_installs 107 = .ok (.return_, 1) := by decide +kernel
theorem dX9_ticks_0 : decode cX9_ticks 0 = .ok (.aload_n 0, 1) := by decide +kernel
theorem dX9_ticks_1 : decode cX9_ticks 1 = .ok (.getfield 7, 3) := by decide +kernel
theorem dX9_ticks_4 : decode cX9_ticks 4 = .ok (.iconst 1, 1) := by decide +kernel
theorem dX9_ticks_5 : decode cX9_ticks 5 = .ok (.dup2, 1) := by decide +kernel
theorem dX9_ticks_6 : decode cX9_ticks 6 = .ok (.iaload, 1) := by decide +kernel
theorem dX9_ticks_7 : decode cX9_ticks 7 = .ok (.iconst 1, 1) := by decide +kernel
theorem dX9_ticks_8 : decode cX9_ticks 8 = .ok (.iadd, 1) := by decide +kernel
theorem dX9_ticks_9 : decode cX9_ticks 9 = .ok (.iastore, 1) := by decide +kernel
theorem dX9_ticks_10 : decode cX9_ticks 10 = .ok (.aload_n 0, 1) := by decide +kernel
theorem dX9_ticks_11 : decode cX9_ticks 11 = .ok (.getfield 7, 3) := by decide +kernel
theorem dX9_ticks_14 : decode cX9_ticks 14 = .ok (.bipush 18, 2) := by decide +kernel
theorem dX9_ticks_16 : decode cX9_ticks 16 = .ok (.dup2, 1) := by decide +kernel
theorem dX9_ticks_17 : decode cX9_ticks 17 = .ok (.iaload, 1) := by decide +kernel
theorem dX9_ticks_18 : decode cX9_ticks 18 = .ok (.aload_n 0, 1) := by decide +kernel
theorem dX9_ticks_19 : decode cX9_ticks 19 = .ok (.getfield 7, 3) := by decide +kernel
theorem dX9_ticks_22 : decode cX9_ticks 22 = .ok (.bipush 6, 2) := by decide +kernel
theorem dX9_ticks_24 : decode cX9_ticks 24 = .ok (.iaload, 1) := by decide +kernel
theorem dX9_ticks_25 : decode cX9_ticks 25 = .ok (.iconst 2, 1) := by decide +kernel
theorem dX9_ticks_26 : decode cX9_ticks 26 = .ok (.if_icmp .ne 7, 3) := by decide +kernel
theorem dX9_ticks_29 : decode cX9_ticks 29 = .ok (.iconst 1, 1) := by decide +kernel
theorem dX9_ticks_30 : decode cX9_ticks 30 = .ok (.goto 4, 3) := by decide +kernel
theorem dX9_ticks_33 : decode cX9_ticks 33 = .ok (.iconst 0, 1) := by decide +kernel
theorem dX9_ticks_34 : decode cX9_ticks 34 = .ok (.invokestatic 113, 3) := by decide +kernel
theorem dX9_ticks_37 : decode cX9_ticks 37 = .ok (.iadd, 1) := by decide +kernel
theorem dX9_ticks_38 : decode cX9_ticks 38 = .ok (.iastore, 1) := by decide +kernel
theorem dX9_ticks_39 : decode cX9_ticks 39 = .ok (.aload_n 0, 1) := by decide +kernel
theorem dX9_ticks_40 : decode cX9_ticks 40 = .ok (.getfield 7, 3) := by decide +kernel
theorem dX9_ticks_43 : decode cX9_ticks 43 = .ok (.bipush 6, 2) := by decide +kernel
theorem dX9_ticks_45 : decode cX9_ticks 45 = .ok (.iaload, 1) := by decide +kernel
theorem dX9_ticks_46 : decode cX9_ticks 46 = .ok (.iconst 1, 1) := by decide +kernel
theorem dX9_ticks_47 : decode cX9_ticks 47 = .ok (.if_icmp .ne 7, 3) := by decide +kernel
theorem dX9_ticks_50 : decode cX9_ticks 50 = .ok (.aload_n 0, 1) := by decide +kernel
theorem dX9_ticks_51 : decode cX9_ticks 51 = .ok (.invokevirtual 124, 3) := by decide +kernel
theorem dX9_ticks_54 : decode cX9_ticks 54 = .ok (.aload_n 0, 1) := by decide +kernel
theorem dX9_ticks_55 : decode cX9_ticks 55 = .ok (.getfield 7, 3) := by decide +kernel
theorem dX9_ticks_58 : decode cX9_ticks 58 = .ok (.bipush 6, 2) := by decide +kernel
theorem dX9_ticks_60 : decode cX9_ticks 60 = .ok (.iaload, 1) := by decide +kernel
theorem dX9_ticks_61 : decode cX9_ticks 61 = .ok (.ifCond .eq 10, 3) := by decide +kernel
theorem dX9_ticks_64 : decode cX9_ticks 64 = .ok (.aload_n 0, 1) := by decide +kernel
theorem dX9_ticks_65 : decode cX9_ticks 65 = .ok (.invokevirtual 127, 3) := by decide +kernel
theorem dX9_ticks_68 : decode cX9_ticks 68 = .ok (.ifCond .ne 4, 3) := by decide +kernel
theorem dX9_ticks_71 : decode cX9_ticks 71 = .ok (.return_, 1) := by decide +kernel
theorem dX9_ticks_72 : decode cX9_ticks 72 = .ok (.aload_n 0, 1) := by decide +kernel
theorem dX9_ticks_73 : decode cX9_ticks 73 = .ok (.getfield 7, 3) := by decide +kernel
theorem dX9_ticks_76 : decode cX9_ticks 76 = .ok (.bipush 21, 2) := by decide +kernel
theorem dX9_ticks_78 : decode cX9_ticks 78 = .ok (.dup2, 1) := by decide +kernel
theorem dX9_ticks_79 : decode cX9_ticks 79 = .ok (.iaload, 1) := by decide +kernel
theorem dX9_ticks_80 : decode cX9_ticks 80 = .ok (.iconst 1, 1) := by decide +kernel
theorem dX9_ticks_81 : decode cX9_ticks 81 = .ok (.isub, 1) := by decide +kernel
theorem dX9_ticks_82 : decode cX9_ticks 82 = .ok (.iastore, 1) := by decide +kernel
theorem dX9_ticks_83 : decode cX9_ticks 83 = .ok (.aload_n 0, 1) := by decide +kernel
theorem dX9_ticks_84 : decode cX9_ticks 84 = .ok (.getfield 7, 3) := by decide +kernel
theorem dX9_ticks_87 : decode cX9_ticks 87 = .ok (.bipush 21, 2) := by decide +kernel
theorem dX9_ticks_89 : decode cX9_ticks 89 = .ok (.iaload, 1) := by decide +kernel
theorem dX9_ticks_90 : decode cX9_ticks 90 = .ok (.ifCond .ne 7, 3) := by decide +kernel
theorem dX9_ticks_93 : decode cX9_ticks 93 = .ok (.aload_n 0, 1) := by decide +kernel
theorem dX9_ticks_94 : decode cX9_ticks 94 = .ok (.invokevirtual 130, 3) := by decide +kernel
theorem dX9_ticks_97 : decode cX9_ticks 97 = .ok (.return_, 1) := by decide +kernel
theorem dX9_ticksAll_0 : decode cX9_ticksAll 0 = .ok (.iconst 0, 1) := by decide +kernel
theorem dX9_ticksAll_1 : decode cX9_ticksAll 1 = .ok (.istore_n 2, 1) := by decide +kernel
theorem dX9_ticksAll_2 : decode cX9_ticksAll 2 = .ok (.iload_n 2, 1) := by decide +kernel
theorem dX9_ticksAll_3 : decode cX9_ticksAll 3 = .ok (.iload_n 1, 1) := by decide +kernel
theorem dX9_ticksAll_4 : decode cX9_ticksAll 4 = .ok (.if_icmp .ge 13, 3) := by decide +kernel
theorem dX9_ticksAll_7 : decode cX9_ticksAll 7 = .ok (.aload_n 0, 1) := by decide +kernel
theorem dX9_ticksAll_8 : decode cX9_ticksAll 8 = .ok (.invokevirtual 133, 3) := by decide +kernel
theorem dX9_ticksAll_11 : decode cX9_ticksAll 11 = .ok (.iinc 2 1, 3) := by decide +kernel
theorem dX9_ticksAll_14 : decode cX9_ticksAll 14 = .ok (.goto (-12), 3) := by decide +kernel
theorem dX9_ticksAll_17 : decode cX9_ticksAll 17 = .ok (.return_, 1) := by decide +kernel
theorem dX9_append_0 : decode cX9_append 0 = .ok (.aload_n 0, 1) := by decide +kernel
theorem dX9_append_1 : decode cX9_append 1 = .ok (.iconst 0, 1) := by decide +kernel
theorem dX9_append_2 : decode cX9_append 2 = .ok (.putfield 33, 3) := by decide +kernel
theorem dX9_append_5 : decode cX9_append 5 = .ok (.aload_n 0, 1) := by decide +kernel
theorem dX9_append_6 : decode cX9_append 6 = .ok (.getfield 136, 3) := by decide +kernel
theorem dX9_append_9 : decode cX9_append 9 = .ok (.bipush 20, 2) := by decide +kernel
theorem dX9_append_11 : decode cX9_append 11 = .ok (.iadd, 1) := by decide +kernel
theorem dX9_append_12 : decode cX9_append 12 = .ok (.sipush 600, 3) := by decide +kernel
theorem dX9_append_15 : decode cX9_append 15 = .ok (.if_icmp .le 5, 3) := by decide +kernel
theorem dX9_append_18 : decode cX9_append 18 = .ok (.iconst (-1), 1) := by decide +kernel
theorem dX9_append_19 : decode cX9_append 19 = .ok (.ireturn, 1) := by decide +kernel
theorem dX9_append_20 : decode cX9_append 20 = .ok (.iconst 0, 1) := by decide +kernel
theorem dX9_append_21 : decode cX9_append 21 = .ok (.istore 6, 2) := by decide +kernel
theorem dX9_append_23 : decode cX9_append 23 = .ok (.iload 6, 2) := by decide +kernel
theorem dX9_append_25 : decode cX9_append 25 = .ok (.bipush 20, 2) := by decide +kernel
theorem dX9_append_27 : decode cX9_append 27 = .ok (.if_icmp .ge 86, 3) := by decide +kernel
theorem dX9_append_30 : decode cX9_append 30 = .ok (.iload 6, 2) := by decide +kernel
theorem dX9_append_32 : decode cX9_append 32 = .ok (.iconst 4, 1) := by decide +kernel
theorem dX9_append_33 : decode cX9_append 33 = .ok (.if_icmp .ge 7, 3) := by decide +kernel
theorem dX9_append_36 : decode cX9_append 36 = .ok (.iload_n 1, 1) := by decide +kernel
theorem dX9_append_37 : decode cX9_append 37 = .ok (.goto 39, 3) := by decide +kernel
theorem dX9_append_40 : decode cX9_append 40 = .ok (.iload 6, 2) := by decide +kernel
theorem dX9_append_42 : decode cX9_append 42 = .ok (.bipush 8, 2) := by decide +kernel
theorem dX9_append_44 : decode cX9_append 44 = .ok (.if_icmp .ge 7, 3) := by decide +kernel
theorem dX9_append_47 : decode cX9_append 47 = .ok (.iload_n 2, 1) := by decide +kernel
theorem dX9_append_48 : decode cX9_append 48 = .ok (.goto 28, 3) := by decide +kernel
theorem dX9_append_51 : decode cX9_append 51 = .ok (.iload 6, 2) := by decide +kernel
theorem dX9_append_53 : decode cX9_append 53 = .ok (.bipush 12, 2) := by decide +kernel
theorem dX9_append_55 : decode cX9_append 55 = .ok (.if_icmp .ge 7, 3) := by decide +kernel
theorem dX9_append_58 : decode cX9_append 58 = .ok (.iload_n 3, 1) := by decide +kernel
theorem dX9_append_59 : decode cX9_append 59 = .ok (.goto 17, 3) := by decide +kernel
theorem dX9_append_62 : decode cX9_append 62 = .ok (.iload 6, 2) := by decide +kernel
theorem dX9_append_64 : decode cX9_append 64 = .ok (.bipush 16, 2) := by decide +kernel
theorem dX9_append_66 : decode cX9_append 66 = .ok (.if_icmp .ge 8, 3) := by decide +kernel
theorem dX9_append_69 : decode cX9_append 69 = .ok (.iload 4, 2) := by decide +kernel
theorem dX9_append_71 : decode cX9_append 71 = .ok (.goto 5, 3) := by decide +kernel
theorem dX9_append_74 : decode cX9_append 74 = .ok (.iload 5, 2) := by decide +kernel
theorem dX9_append_76 : decode cX9_append 76 = .ok (.istore 7, 2) := by decide +kernel
theorem dX9_append_78 : decode cX9_append 78 = .ok (.aload_n 0, 1) := by decide +kernel
theorem dX9_append_79 : decode cX9_append 79 = .ok (.getfield 20, 3) := by decide +kernel
theorem dX9_append_82 : decode cX9_append 82 = .ok (.aload_n 0, 1) := by decide +kernel
theorem dX9_append_83 : decode cX9_append 83 = .ok (.getfield 136, 3) := by decide +kernel
theorem dX9_append_86 : decode cX9_append 86 = .ok (.iload 6, 2) := by decide +kernel
theorem dX9_append_88 : decode cX9_append 88 = .ok (.iadd, 1) := by decide +kernel
theorem dX9_append_89 : decode cX9_append 89 = .ok (.iload 7, 2) := by decide +kernel
theorem dX9_append_91 : decode cX9_append 91 = .ok (.bipush 24, 2) := by decide +kernel
theorem dX9_append_93 : decode cX9_append 93 = .ok (.bipush 8, 2) := by decide +kernel
theorem dX9_append_95 : decode cX9_append 95 = .ok (.iload 6, 2) := by decide +kernel
theorem dX9_append_97 : decode cX9_append 97 = .ok (.iconst 4, 1) := by decide +kernel
theorem dX9_append_98 : decode cX9_append 98 = .ok (.irem, 1) := by decide +kernel
theorem dX9_append_99 : decode cX9_append 99 = .ok (.imul, 1) := by decide +kernel
theorem dX9_append_100 : decode cX9_append 100 = .ok (.isub, 1) := by decide +kernel
theorem dX9_append_101 : decode cX9_append 101 = .ok (.ishr, 1) := by decide +kernel
theorem dX9_append_102 : decode cX9_append 102 = .ok (.sipush 255, 3) := by decide +kernel
theorem dX9_append_105 : decode cX9_append 105 = .ok (.iand, 1) := by decide +kernel
theorem dX9_append_106 : decode cX9_append 106 = .ok (.iastore, 1) := by decide +kernel
theorem dX9_append_107 : decode cX9_append 107 = .ok (.iinc 6 1, 3) := by decide +kernel
theorem dX9_append_110 : decode cX9_append 110 = .ok (.goto (-87), 3) := by decide +kernel
theorem dX9_append_113 : decode cX9_append 113 = .ok (.aload_n 0, 1) := by decide +kernel
theorem dX9_append_114 : decode cX9_append 114 = .ok (.dup, 1) := by decide +kernel
theorem dX9_append_115 : decode cX9_append 115 = .ok (.getfield 136, 3) := by decide +kernel
theorem dX9_append_118 : decode cX9_append 118 = .ok (.bipush 20, 2) := by decide +kernel
theorem dX9_append_120 : decode cX9_append 120 = .ok (.iadd, 1) := by decide +kernel
theorem dX9_append_121 : decode cX9_append 121 = .ok (.putfield 136, 3) := by decide +kernel
theorem dX9_append_124 : decode cX9_append 124 = .ok (.aload_n 0, 1) := by decide +kernel
theorem dX9_append_125 : decode cX9_append 125 = .ok (.getfield 136, 3) := by decide +kernel
theorem dX9_append_128 : decode cX9_append 128 = .ok (.ireturn, 1) := by decide +kernel
theorem dX9_buffered_0 : decode cX9_buffered 0 = .ok (.aload_n 0, 1) := by decide +kernel
theorem dX9_buffered_1 : decode cX9_buffered 1 = .ok (.iconst 0, 1) := by decide +kernel
theorem dX9_buffered_2 : decode cX9_buffered 2 = .ok (.putfield 33, 3) := by decide +kernel
theorem dX9_buffered_5 : decode cX9_buffered 5 = .ok (.aload_n 0, 1) := by decide +kernel
theorem dX9_buffered_6 : decode cX9_buffered 6 = .ok (.getfield 136, 3) := by decide +kernel
theorem dX9_buffered_9 : decode cX9_buffered 9 = .ok (.ireturn, 1) := by decide +kernel
theorem dX9_parseError_0 : decode cX9_parseError 0 = .ok (.aload_n 0, 1) := by decide +kernel
theorem dX9_parseError_1 : decode cX9_parseError 1 = .ok (.iconst 0, 1) := by decide +kernel
theorem dX9_parseError_2 : decode cX9_parseError 2 = .ok (.putfield 33, 3) := by decide +kernel
theorem dX9_parseError_5 : decode cX9_parseError 5 = .ok (.aload_n 0, 1) := by decide +kernel
theorem dX9_parseError_6 : decode cX9_parseError 6 = .ok (.getfield 139, 3) := by decide +kernel
theorem dX9_parseError_9 : decode cX9_parseError 9 = .ok (.ireturn, 1) := by decide +kernel
theorem dX9_errorPosition_0 : decode cX9_errorPosition 0 = .ok (.aload_n 0, 1) := by decide +kernel
theorem dX9_errorPosition_1 : decode cX9_errorPosition 1 = .ok (.iconst 0, 1) := by decide +kernel
theorem dX9_errorPosition_2 : decode cX9_errorPosition 2 = .ok (.putfield 33, 3) := by decide +kernel
theorem dX9_errorPosition_5 : decode cX9_errorPosition 5 = .ok (.aload_n 0, 1) := by decide +kernel
theorem dX9_errorPosition_6 : decode cX9_errorPosition 6 = .ok (.getfield 23, 3) := by decide +kernel
theorem dX9_errorPosition_9 : decode cX9_errorPosition 9 = .ok (.ireturn, 1) := by decide +kernel
theorem dX9_seen_0 : decode cX9_seen 0 = .ok (.iload_n 1, 1) := by decide +kernel
theorem dX9_seen_1 : decode cX9_seen 1 = .ok (.aload_n 0, 1) := by decide +kernel
theorem dX9_seen_2 : decode cX9_seen 2 = .ok (.getfield 142, 3) := by decide +kernel
theorem dX9_seen_5 : decode cX9_seen 5 = .ok (.if_icmp .ge 12, 3) := by decide +kernel
theorem dX9_seen_8 : decode cX9_seen 8 = .ok (.aload_n 0, 1) := by decide +kernel
theorem dX9_seen_9 : decode cX9_seen 9 = .ok (.getfield 20, 3) := by decide +kernel
theorem dX9_seen_12 : decode cX9_seen 12 = .ok (.iload_n 1, 1) := by decide +kernel
theorem dX9_seen_13 : decode cX9_seen 13 = .ok (.iaload, 1) := by decide +kernel
theorem dX9_seen_14 : decode cX9_seen 14 = .ok (.goto 4, 3) := by decide +kernel
theorem dX9_seen_17 : decode cX9_seen 17 = .ok (.iconst (-1), 1) := by decide +kernel
theorem dX9_seen_18 : decode cX9_seen 18 = .ok (.ireturn, 1) := by decide +kernel
theorem dX9_isSmall_0 : decode cX9_isSmall 0 = .ok (.iload_n 0, 1) := by decide +kernel
theorem dX9_isSmall_1 : decode cX9_isSmall 1 = .ok (.bipush 97, 2) := by decide +kernel
theorem dX9_isSmall_3 : decode cX9_isSmall 3 = .ok (.if_icmp .lt 13, 3) := by decide +kernel
theorem dX9_isSmall_6 : decode cX9_isSmall 6 = .ok (.iload_n 0, 1) := by decide +kernel
theorem dX9_isSmall_7 : decode cX9_isSmall 7 = .ok (.bipush 122, 2) := by decide +kernel
theorem dX9_isSmall_9 : decode cX9_isSmall 9 = .ok (.if_icmp .gt 7, 3) := by decide +kernel
theorem dX9_isSmall_12 : decode cX9_isSmall 12 = .ok (.iconst 1, 1) := by decide +kernel
theorem dX9_isSmall_13 : decode cX9_isSmall 13 = .ok (.goto 4, 3) := by decide +kernel
theorem dX9_isSmall_16 : decode cX9_isSmall 16 = .ok (.iconst 0, 1) := by decide +kernel
theorem dX9_isSmall_17 : decode cX9_isSmall 17 = .ok (.ireturn, 1) := by decide +kernel
theorem dX9_isDigit_0 : decode cX9_isDigit 0 = .ok (.iload_n 0, 1) := by decide +kernel
theorem dX9_isDigit_1 : decode cX9_isDigit 1 = .ok (.bipush 48, 2) := by decide +kernel
theorem dX9_isDigit_3 : decode cX9_isDigit 3 = .ok (.if_icmp .lt 13, 3) := by decide +kernel
theorem dX9_isDigit_6 : decode cX9_isDigit 6 = .ok (.iload_n 0, 1) := by decide +kernel
theorem dX9_isDigit_7 : decode cX9_isDigit 7 = .ok (.bipush 57, 2) := by decide +kernel
theorem dX9_isDigit_9 : decode cX9_isDigit 9 = .ok (.if_icmp .gt 7, 3) := by decide +kernel
theorem dX9_isDigit_12 : decode cX9_isDigit 12 = .ok (.iconst 1, 1) := by decide +kernel
theorem dX9_isDigit_13 : decode cX9_isDigit 13 = .ok (.goto 4, 3) := by decide +kernel
theorem dX9_isDigit_16 : decode cX9_isDigit 16 = .ok (.iconst 0, 1) := by decide +kernel
theorem dX9_isDigit_17 : decode cX9_isDigit 17 = .ok (.ireturn, 1) := by decide +kernel
theorem dX9_token_0 : decode cX9_token 0 = .ok (.aload_n 0, 1) := by decide +kernel
theorem dX9_token_1 : decode cX9_token 1 = .ok (.aload_n 0, 1) := by decide +kernel
theorem dX9_token_2 : decode cX9_token 2 = .ok (.getfield 145, 3) := by decide +kernel
theorem dX9_token_5 : decode cX9_token 5 = .ok (.invokevirtual 148, 3) := by decide +kernel
theorem dX9_token_8 : decode cX9_token 8 = .ok (.bipush 32, 2) := by decide +kernel
theorem dX9_token_10 : decode cX9_token 10 = .ok (.if_icmp .ne 16, 3) := by decide +kernel
theorem dX9_token_13 : decode cX9_token 13 = .ok (.aload_n 0, 1) := by decide +kernel
theorem dX9_token_14 : decode cX9_token 14 = .ok (.dup, 1) := by decide +kernel
theorem dX9_token_15 : decode cX9_token 15 = .ok (.getfield 145, 3) := by decide +kernel
theorem dX9_token_18 : decode cX9_token 18 = .ok (.iconst 1, 1) := by decide +kernel
theorem dX9_token_19 : decode cX9_token 19 = .ok (.iadd, 1) := by decide +kernel
theorem dX9_token_20 : decode cX9_token 20 = .ok (.putfield 145, 3) := by decide +kernel
theorem dX9_token_23 : decode cX9_token 23 = .ok (.goto (-23), 3) := by decide +kernel
theorem dX9_token_26 : decode cX9_token 26 = .ok (.aload_n 0, 1) := by decide +kernel
theorem dX9_token_27 : decode cX9_token 27 = .ok (.aload_n 0, 1) := by decide +kernel
theorem dX9_token_28 : decode cX9_token 28 = .ok (.getfield 145, 3) := by decide +kernel
theorem dX9_token_31 : decode cX9_token 31 = .ok (.putfield 151, 3) := by decide +kernel
theorem dX9_token_34 : decode cX9_token 34 = .ok (.aload_n 0, 1) := by decide +kernel
theorem dX9_token_35 : decode cX9_token 35 = .ok (.aload_n 0, 1) := by decide +kernel
theorem dX9_token_36 : decode cX9_token 36 = .ok (.getfield 145, 3) := by decide +kernel
theorem dX9_token_39 : decode cX9_token 39 = .ok (.invokevirtual 148, 3) := by decide +kernel
theorem dX9_token_42 : decode cX9_token 42 = .ok (.istore_n 1, 1) := by decide +kernel
theorem dX9_token_43 : decode cX9_token 43 = .ok (.iload_n 1, 1) := by decide +kernel
theorem dX9_token_44 : decode cX9_token 44 = .ok (.iconst (-1), 1) := by decide +kernel
theorem dX9_token_45 : decode cX9_token 45 = .ok (.if_icmp .ne 11, 3) := by decide +kernel
theorem dX9_token_48 : decode cX9_token 48 = .ok (.aload_n 0, 1) := by decide +kernel
theorem dX9_token_49 : decode cX9_token 49 = .ok (.iconst 0, 1) := by decide +kernel
theorem dX9_token_50 : decode cX9_token 50 = .ok (.putfield 154, 3) := by decide +kernel
theorem dX9_token_53 : decode cX9_token 53 = .ok (.goto 192, 3) := by decide +kernel
theorem dX9_token_56 : decode cX9_token 56 = .ok (.iload_n 1, 1) := by decide +kernel
theorem dX9_token_57 : decode cX9_token 57 = .ok (.invokestatic 157, 3) := by decide +kernel
theorem dX9_token_60 : decode cX9_token 60 = .ok (.ifCond .eq 56, 3) := by decide +kernel
theorem dX9_token_63 : decode cX9_token 63 = .ok (.aload_n 0, 1) := by decide +kernel
theorem dX9_token_64 : decode cX9_token 64 = .ok (.aload_n 0, 1) := by decide +kernel
theorem dX9_token_65 : decode cX9_token 65 = .ok (.getfield 145, 3) := by decide +kernel
theorem dX9_token_68 : decode cX9_token 68 = .ok (.invokevirtual 148, 3) := by decide +kernel
theorem dX9_token_71 : decode cX9_token 71 = .ok (.invokestatic 157, 3) := by decide +kernel
theorem dX9_token_74 : decode cX9_token 74 = .ok (.ifCond .eq 16, 3) := by decide +kernel
theorem dX9_token_77 : decode cX9_token 77 = .ok (.aload_n 0, 1) := by decide +kernel
theorem dX9_token_78 : decode cX9_token 78 = .ok (.dup, 1) := by decide +kernel
theorem dX9_token_79 : decode cX9_token 79 = .ok (.getfield 145, 3) := by decide +kernel
theorem dX9_token_82 : decode cX9_token 82 = .ok (.iconst 1, 1) := by decide +kernel
theorem dX9_token_83 : decode cX9_token 83 = .ok (.iadd, 1) := by decide +kernel
theorem dX9_token_84 : decode cX9_token 84 = .ok (.putfield 145, 3) := by decide +kernel
theorem dX9_token_87 : decode cX9_token 87 = .ok (.goto (-24), 3) := by decide +kernel
theorem dX9_token_90 : decode cX9_token 90 = .ok (.aload_n 0, 1) := by decide +kernel
theorem dX9_token_91 : decode cX9_token 91 = .ok (.aload_n 0, 1) := by decide +kernel
theorem dX9_token_92 : decode cX9_token 92 = .ok (.getfield 145, 3) := by decide +kernel
theorem dX9_token_95 : decode cX9_token 95 = .ok (.aload_n 0, 1) := by decide +kernel
theorem dX9_token_96 : decode cX9_token 96 = .ok (.getfield 151, 3) := by decide +kernel
theorem dX9_token_99 : decode cX9_token 99 = .ok (.isub, 1) := by decide +kernel
theorem dX9_token_100 : decode cX9_token 100 = .ok (.bipush 8, 2) := by decide +kernel
theorem dX9_token_102 : decode cX9_token 102 = .ok (.if_icmp .le 7, 3) := by decide +kernel
theorem dX9_token_105 : decode cX9_token 105 = .ok (.iconst 4, 1) := by decide +kernel
theorem dX9_token_106 : decode cX9_token 106 = .ok (.goto 4, 3) := by decide +kernel
theorem dX9_token_109 : decode cX9_token 109 = .ok (.iconst 1, 1) := by decide +kernel
theorem dX9_token_110 : decode cX9_token 110 = .ok (.putfield 154, 3) := by decide +kernel
theorem dX9_token_113 : decode cX9_token 113 = .ok (.goto 132, 3) := by decide +kernel
theorem dX9_token_116 : decode cX9_token 116 = .ok (.iload_n 1, 1) := by decide +kernel
theorem dX9_token_117 : decode cX9_token 117 = .ok (.invokestatic 160, 3) := by decide +kernel
theorem dX9_token_120 : decode cX9_token 120 = .ok (.ifCond .eq 100, 3) := by decide +kernel
theorem dX9_token_123 : decode cX9_token 123 = .ok (.aload_n 0, 1) := by decide +kernel
theorem dX9_token_124 : decode cX9_token 124 = .ok (.iconst 0, 1) := by decide +kernel
theorem dX9_token_125 : decode cX9_token 125 = .ok (.putfield 163, 3) := by decide +kernel
theorem dX9_token_128 : decode cX9_token 128 = .ok (.aload_n 0, 1) := by decide +kernel
theorem dX9_token_129 : decode cX9_token 129 = .ok (.aload_n 0, 1) := by decide +kernel
theorem dX9_token_130 : decode cX9_token 130 = .ok (.getfield 145, 3) := by decide +kernel
theorem dX9_token_133 : decode cX9_token 133 = .ok (.invokevirtual 148, 3) := by decide +kernel
theorem dX9_token_136 : decode cX9_token 136 = .ok (.invokestatic 160, 3) := by decide +kernel
theorem dX9_token_139 : decode cX9_token 139 = .ok (.ifCond .eq 56, 3) := by decide +kernel
theorem dX9_token_142 : decode cX9_token 142 = .ok (.aload_n 0, 1) := by decide +kernel
theorem dX9_token_143 : decode cX9_token 143 = .ok (.aload_n 0, 1) := by decide +kernel
theorem dX9_token_144 : decode cX9_token 144 = .ok (.getfield 145, 3) := by decide +kernel
theorem dX9_token_147 : decode cX9_token 147 = .ok (.aload_n 0, 1) := by decide +kernel
theorem dX9_token_148 : decode cX9_token 148 = .ok (.getfield 151, 3) := by decide +kernel
theorem dX9_token_151 : decode cX9_token 151 = .ok (.isub, 1) := by decide +kernel
theorem dX9_token_152 : decode cX9_token 152 = .ok (.iconst 2, 1) := by decide +kernel
theorem dX9_token_153 : decode cX9_token 153 = .ok (.if_icmp .ge 25, 3) := by decide +kernel
theorem dX9_token_156 : decode cX9_token 156 = .ok (.bipush 10, 2) := by decide +kernel
theorem dX9_token_158 : decode cX9_token 158 = .ok (.aload_n 0, 1) := by decide +kernel
theorem dX9_token_159 : decode cX9_token 159 = .ok (.getfield 163, 3) := by decide +kernel
theorem dX9_token_162 : decode cX9_token 162 = .ok (.imul, 1) := by decide +kernel
theorem dX9_token_163 : decode cX9_token 163 = .ok (.aload_n 0, 1) := by decide +kernel
theorem dX9_token_164 : decode cX9_token 164 = .ok (.aload_n 0, 1) := by decide +kernel
theorem dX9_token_165 : decode cX9_token 165 = .ok (.getfield 145, 3) := by decide +kernel
theorem dX9_token_168 : decode cX9_token 168 = .ok (.invokevirtual 148, 3) := by decide +kernel
theorem dX9_token_171 : decode cX9_token 171 = .ok (.iadd, 1) := by decide +kernel
theorem dX9_token_172 : decode cX9_token 172 = .ok (.bipush 48, 2) := by decide +kernel
theorem dX9_token_174 : decode cX9_token 174 = .ok (.isub, 1) := by decide +kernel
theorem dX9_token_175 : decode cX9_token 175 = .ok (.goto 4, 3) := by decide +kernel
theorem dX9_token_178 : decode cX9_token 178 = .ok (.iconst 0, 1) := by decide +kernel
theorem dX9_token_179 : decode cX9_token 179 = .ok (.putfield 163, 3) := by decide +kernel
theorem dX9_token_182 : decode cX9_token 182 = .ok (.aload_n 0, 1) := by decide +kernel
theorem dX9_token_183 : decode cX9_token 183 = .ok (.dup, 1) := by decide +kernel
theorem dX9_token_184 : decode cX9_token 184 = .ok (.getfield 145, 3) := by decide +kernel
theorem dX9_token_187 : decode cX9_token 187 = .ok (.iconst 1, 1) := by decide +kernel
theorem dX9_token_188 : decode cX9_token 188 = .ok (.iadd, 1) := by decide +kernel
theorem dX9_token_189 : decode cX9_token 189 = .ok (.putfield 145, 3) := by decide +kernel
theorem dX9_token_192 : decode cX9_token 192 = .ok (.goto (-64), 3) := by decide +kernel
theorem dX9_token_195 : decode cX9_token 195 = .ok (.aload_n 0, 1) := by decide +kernel
theorem dX9_token_196 : decode cX9_token 196 = .ok (.aload_n 0, 1) := by decide +kernel
theorem dX9_token_197 : decode cX9_token 197 = .ok (.getfield 145, 3) := by decide +kernel
theorem dX9_token_200 : decode cX9_token 200 = .ok (.aload_n 0, 1) := by decide +kernel
theorem dX9_token_201 : decode cX9_token 201 = .ok (.getfield 151, 3) := by decide +kernel
theorem dX9_token_204 : decode cX9_token 204 = .ok (.isub, 1) := by decide +kernel
theorem dX9_token_205 : decode cX9_token 205 = .ok (.iconst 2, 1) := by decide +kernel
theorem dX9_token_206 : decode cX9_token 206 = .ok (.if_icmp .le 7, 3) := by decide +kernel
theorem dX9_token_209 : decode cX9_token 209 = .ok (.iconst 4, 1) := by decide +kernel
theorem dX9_token_210 : decode cX9_token 210 = .ok (.goto 4, 3) := by decide +kernel
theorem dX9_token_213 : decode cX9_token 213 = .ok (.iconst 2, 1) := by decide +kernel
theorem dX9_token_214 : decode cX9_token 214 = .ok (.putfield 154, 3) := by decide +kernel
theorem dX9_token_217 : decode cX9_token 217 = .ok (.goto 28, 3) := by decide +kernel
theorem dX9_token_220 : decode cX9_token 220 = .ok (.aload_n 0, 1) := by decide +kernel
theorem dX9_token_221 : decode cX9_token 221 = .ok (.iload_n 1, 1) := by decide +kernel
theorem dX9_token_222 : decode cX9_token 222 = .ok (.bipush 59, 2) := by decide +kernel
theorem dX9_token_224 : decode cX9_token 224 = .ok (.if_icmp .ne 7, 3) := by decide +kernel
theorem dX9_token_227 : decode cX9_token 227 = .ok (.iconst 3, 1) := by decide +kernel
theorem dX9_token_228 : decode cX9_token 228 = .ok (.goto 4, 3) := by decide +kernel
theorem dX9_token_231 : decode cX9_token 231 = .ok (.iconst 4, 1) := by decide +kernel
theorem dX9_token_232 : decode cX9_token 232 = .ok (.putfield 154, 3) := by decide +kernel
theorem dX9_token_235 : decode cX9_token 235 = .ok (.aload_n 0, 1) := by decide +kernel
theorem dX9_token_236 : decode cX9_token 236 = .ok (.dup, 1) := by decide +kernel
theorem dX9_token_237 : decode cX9_token 237 = .ok (.getfield 145, 3) := by decide +kernel
theorem dX9_token_240 : decode cX9_token 240 = .ok (.iconst 1, 1) := by decide +kernel
theorem dX9_token_241 : decode cX9_token 241 = .ok (.iadd, 1) := by decide +kernel
theorem dX9_token_242 : decode cX9_token 242 = .ok (.putfield 145, 3) := by decide +kernel
theorem dX9_token_245 : decode cX9_token 245 = .ok (.return_, 1) := by decide +kernel
theorem dX9_fails_0 : decode cX9_fails 0 = .ok (.aload_n 0, 1) := by decide +kernel
theorem dX9_fails_1 : decode cX9_fails 1 = .ok (.getfield 166, 3) := by decide +kernel
theorem dX9_fails_4 : decode cX9_fails 4 = .ok (.ifCond .ne 16, 3) := by decide +kernel
theorem dX9_fails_7 : decode cX9_fails 7 = .ok (.aload_n 0, 1) := by decide +kernel
theorem dX9_fails_8 : decode cX9_fails 8 = .ok (.iload_n 1, 1) := by decide +kernel
theorem dX9_fails_9 : decode cX9_fails 9 = .ok (.putfield 166, 3) := by decide +kernel
theorem dX9_fails_12 : decode cX9_fails 12 = .ok (.aload_n 0, 1) := by decide +kernel
theorem dX9_fails_13 : decode cX9_fails 13 = .ok (.aload_n 0, 1) := by decide +kernel
theorem dX9_fails_14 : decode cX9_fails 14 = .ok (.getfield 151, 3) := by decide +kernel
theorem dX9_fails_17 : decode cX9_fails 17 = .ok (.putfield 169, 3) := by decide +kernel
theorem dX9_fails_20 : decode cX9_fails 20 = .ok (.return_, 1) := by decide +kernel
theorem dX9_failsIf_0 : decode cX9_failsIf 0 = .ok (.iload_n 1, 1) := by decide +kernel
theorem dX9_failsIf_1 : decode cX9_failsIf 1 = .ok (.ifCond .eq 8, 3) := by decide +kernel
theorem dX9_failsIf_4 : decode cX9_failsIf 4 = .ok (.aload_n 0, 1) := by decide +kernel
theorem dX9_failsIf_5 : decode cX9_failsIf 5 = .ok (.iload_n 2, 1) := by decide +kernel
theorem dX9_failsIf_6 : decode cX9_failsIf 6 = .ok (.invokevirtual 172, 3) := by decide +kernel
theorem dX9_failsIf_9 : decode cX9_failsIf 9 = .ok (.return_, 1) := by decide +kernel
theorem dX9_goesOn_0 : decode cX9_goesOn 0 = .ok (.aload_n 0, 1) := by decide +kernel
theorem dX9_goesOn_1 : decode cX9_goesOn 1 = .ok (.getfield 166, 3) := by decide +kernel
theorem dX9_goesOn_4 : decode cX9_goesOn 4 = .ok (.ifCond .ne 7, 3) := by decide +kernel
theorem dX9_goesOn_7 : decode cX9_goesOn 7 = .ok (.aload_n 0, 1) := by decide +kernel
theorem dX9_goesOn_8 : decode cX9_goesOn 8 = .ok (.invokevirtual 175, 3) := by decide +kernel
theorem dX9_goesOn_11 : decode cX9_goesOn 11 = .ok (.return_, 1) := by decide +kernel
theorem dX9_isWord_0 : decode cX9_isWord 0 = .ok (.aload_n 0, 1) := by decide +kernel
theorem dX9_isWord_1 : decode cX9_isWord 1 = .ok (.getfield 166, 3) := by decide +kernel
theorem dX9_isWord_4 : decode cX9_isWord 4 = .ok (.ifCond .ne 27, 3) := by decide +kernel
theorem dX9_isWord_7 : decode cX9_isWord 7 = .ok (.aload_n 0, 1) := by decide +kernel
theorem dX9_isWord_8 : decode cX9_isWord 8 = .ok (.getfield 154, 3) := by decide +kernel
theorem dX9_isWord_11 : decode cX9_isWord 11 = .ok (.iconst 1, 1) := by decide +kernel
theorem dX9_isWord_12 : decode cX9_isWord 12 = .ok (.if_icmp .ne 19, 3) := by decide +kernel
theorem dX9_isWord_15 : decode cX9_isWord 15 = .ok (.aload_n 0, 1) := by decide +kernel
theorem dX9_isWord_16 : decode cX9_isWord 16 = .ok (.getfield 145, 3) := by decide +kernel
theorem dX9_isWord_19 : decode cX9_isWord 19 = .ok (.aload_n 0, 1) := by decide +kernel
theorem dX9_isWord_20 : decode cX9_isWord 20 = .ok (.getfield 151, 3) := by decide +kernel
theorem dX9_isWord_23 : decode cX9_isWord 23 = .ok (.isub, 1) := by decide +kernel
theorem dX9_isWord_24 : decode cX9_isWord 24 = .ok (.aload_n 1, 1) := by decide +kernel
theorem dX9_isWord_25 : decode cX9_isWord 25 = .ok (.invokevirtual 178, 3) := by decide +kernel
theorem dX9_isWord_28 : decode cX9_isWord 28 = .ok (.if_icmp .eq 5, 3) := by decide +kernel
theorem dX9_isWord_31 : decode cX9_isWord 31 = .ok (.iconst 0, 1) := by decide +kernel
theorem dX9_isWord_32 : decode cX9_isWord 32 = .ok (.ireturn, 1) := by decide +kernel
theorem dX9_isWord_33 : decode cX9_isWord 33 = .ok (.iconst 0, 1) := by decide +kernel
theorem dX9_isWord_34 : decode cX9_isWord 34 = .ok (.istore_n 2, 1) := by decide +kernel
theorem dX9_isWord_35 : decode cX9_isWord 35 = .ok (.iload_n 2, 1) := by decide +kernel
theorem dX9_isWord_36 : decode cX9_isWord 36 = .ok (.aload_n 1, 1) := by decide +kernel
theorem dX9_isWord_37 : decode cX9_isWord 37 = .ok (.invokevirtual 178, 3) := by decide +kernel
theorem dX9_isWord_40 : decode cX9_isWord 40 = .ok (.if_icmp .ge 29, 3) := by decide +kernel
theorem dX9_isWord_43 : decode cX9_isWord 43 = .ok (.aload_n 0, 1) := by decide +kernel
theorem dX9_isWord_44 : decode cX9_isWord 44 = .ok (.aload_n 0, 1) := by decide +kernel
theorem dX9_isWord_45 : decode cX9_isWord 45 = .ok (.getfield 151, 3) := by decide +kernel
theorem dX9_isWord_48 : decode cX9_isWord 48 = .ok (.iload_n 2, 1) := by decide +kernel
theorem dX9_isWord_49 : decode cX9_isWord 49 = .ok (.iadd, 1) := by decide +kernel
theorem dX9_isWord_50 : decode cX9_isWord 50 = .ok (.invokevirtual 148, 3) := by decide +kernel
theorem dX9_isWord_53 : decode cX9_isWord 53 = .ok (.aload_n 1, 1) := by decide +kernel
theorem dX9_isWord_54 : decode cX9_isWord 54 = .ok (.iload_n 2, 1) := by decide +kernel
theorem dX9_isWord_55 : decode cX9_isWord 55 = .ok (.invokevirtual 182, 3) := by decide +kernel
theorem dX9_isWord_58 : decode cX9_isWord 58 = .ok (.if_icmp .eq 5, 3) := by decide +kernel
theorem dX9_isWord_61 : decode cX9_isWord 61 = .ok (.iconst 0, 1) := by decide +kernel
theorem dX9_isWord_62 : decode cX9_isWord 62 = .ok (.ireturn, 1) := by decide +kernel
theorem dX9_isWord_63 : decode cX9_isWord 63 = .ok (.iinc 2 1, 3) := by decide +kernel
theorem dX9_isWord_66 : decode cX9_isWord 66 = .ok (.goto (-31), 3) := by decide +kernel
theorem dX9_isWord_69 : decode cX9_isWord 69 = .ok (.iconst 1, 1) := by decide +kernel
theorem dX9_isWord_70 : decode cX9_isWord 70 = .ok (.ireturn, 1) := by decide +kernel
theorem dX9_looks_0 : decode cX9_looks 0 = .ok (.aload_n 0, 1) := by decide +kernel
theorem dX9_looks_1 : decode cX9_looks 1 = .ok (.getfield 154, 3) := by decide +kernel
theorem dX9_looks_4 : decode cX9_looks 4 = .ok (.iconst 2, 1) := by decide +kernel
theorem dX9_looks_5 : decode cX9_looks 5 = .ok (.if_icmp .eq 11, 3) := by decide +kernel
theorem dX9_looks_8 : decode cX9_looks 8 = .ok (.aload_n 0, 1) := by decide +kernel
theorem dX9_looks_9 : decode cX9_looks 9 = .ok (.iconst 1, 1) := by decide +kernel
theorem dX9_looks_10 : decode cX9_looks 10 = .ok (.invokevirtual 172, 3) := by decide +kernel
theorem dX9_looks_13 : decode cX9_looks 13 = .ok (.goto 23, 3) := by decide +kernel
theorem dX9_looks_16 : decode cX9_looks 16 = .ok (.aload_n 0, 1) := by decide +kernel
theorem dX9_looks_17 : decode cX9_looks 17 = .ok (.getfield 163, 3) := by decide +kernel
theorem dX9_looks_20 : decode cX9_looks 20 = .ok (.i2l, 1) := by decide +kernel
theorem dX9_looks_21 : decode cX9_looks 21 = .ok (.iload_n 1, 1) := by decide +kernel
theorem dX9_looks_22 : decode cX9_looks 22 = .ok (.i2l, 1) := by decide +kernel
theorem dX9_looks_23 : decode cX9_looks 23 = .ok (.iload_n 2, 1) := by decide +kernel
theorem dX9_looks_24 : decode cX9_looks 24 = .ok (.i2l, 1) := by decide +kernel
theorem dX9_looks_25 : decode cX9_looks 25 = .ok (.invokestatic 44, 3) := by decide +kernel
theorem dX9_looks_28 : decode cX9_looks 28 = .ok (.ifCond .ne 8, 3) := by decide +kernel
theorem dX9_looks_31 : decode cX9_looks 31 = .ok (.aload_n 0, 1) := by decide +kernel
theorem dX9_looks_32 : decode cX9_looks 32 = .ok (.iconst 2, 1) := by decide +kernel
theorem dX9_looks_33 : decode cX9_looks 33 = .ok (.invokevirtual 172, 3) := by decide +kernel
theorem dX9_looks_36 : decode cX9_looks 36 = .ok (.aload_n 0, 1) := by decide +kernel
theorem dX9_looks_37 : decode cX9_looks 37 = .ok (.getfield 166, 3) := by decide +kernel
theorem dX9_looks_40 : decode cX9_looks 40 = .ok (.ifCond .eq 7, 3) := by decide +kernel
theorem dX9_looks_43 : decode cX9_looks 43 = .ok (.iload_n 1, 1) := by decide +kernel
theorem dX9_looks_44 : decode cX9_looks 44 = .ok (.goto 7, 3) := by decide +kernel
theorem dX9_looks_47 : decode cX9_looks 47 = .ok (.aload_n 0, 1) := by decide +kernel
theorem dX9_looks_48 : decode cX9_looks 48 = .ok (.getfield 163, 3) := by decide +kernel
theorem dX9_looks_51 : decode cX9_looks 51 = .ok (.ireturn, 1) := by decide +kernel
theorem dX9_takes_0 : decode cX9_takes 0 = .ok (.aload_n 0, 1) := by decide +kernel
theorem dX9_takes_1 : decode cX9_takes 1 = .ok (.iload_n 1, 1) := by decide +kernel
theorem dX9_takes_2 : decode cX9_takes 2 = .ok (.iload_n 2, 1) := by decide +kernel
theorem dX9_takes_3 : decode cX9_takes 3 = .ok (.invokevirtual 186, 3) := by decide +kernel
theorem dX9_takes_6 : decode cX9_takes 6 = .ok (.istore_n 3, 1) := by decide +kernel
theorem dX9_takes_7 : decode cX9_takes 7 = .ok (.aload_n 0, 1) := by decide +kernel
theorem dX9_takes_8 : decode cX9_takes 8 = .ok (.invokevirtual 189, 3) := by decide +kernel
theorem dX9_takes_11 : decode cX9_takes 11 = .ok (.iload_n 3, 1) := by decide +kernel
theorem dX9_takes_12 : decode cX9_takes 12 = .ok (.ireturn, 1) := by decide +kernel
theorem dX9_slotLine_0 : decode cX9_slotLine 0 = .ok (.aload_n 0, 1) := by decide +kernel
theorem dX9_slotLine_1 : decode cX9_slotLine 1 = .ok (.getfield 7, 3) := by decide +kernel
theorem dX9_slotLine_4 : decode cX9_slotLine 4 = .ok (.iconst 0, 1) := by decide +kernel
theorem dX9_slotLine_5 : decode cX9_slotLine 5 = .ok (.iaload, 1) := by decide +kernel
theorem dX9_slotLine_6 : decode cX9_slotLine 6 = .ok (.istore_n 1, 1) := by decide +kernel
theorem dX9_slotLine_7 : decode cX9_slotLine 7 = .ok (.aload_n 0, 1) := by decide +kernel
theorem dX9_slotLine_8 : decode cX9_slotLine 8 = .ok (.iload_n 1, 1) := by decide +kernel
theorem dX9_slotLine_9 : decode cX9_slotLine 9 = .ok (.bipush 6, 2) := by decide +kernel
theorem dX9_slotLine_11 : decode cX9_slotLine 11 = .ok (.if_icmp .ne 7, 3) := by decide +kernel
theorem dX9_slotLine_14 : decode cX9_slotLine 14 = .ok (.iconst 1, 1) := by decide +kernel
theorem dX9_slotLine_15 : decode cX9_slotLine 15 = .ok (.goto 4, 3) := by decide +kernel
theorem dX9_slotLine_18 : decode cX9_slotLine 18 = .ok (.iconst 0, 1) := by decide +kernel
theorem dX9_slotLine_19 : decode cX9_slotLine 19 = .ok (.iconst 5, 1) := by decide +kernel
theorem dX9_slotLine_20 : decode cX9_slotLine 20 = .ok (.invokevirtual 192, 3) := by decide +kernel
theorem dX9_slotLine_23 : decode cX9_slotLine 23 = .ok (.aload_n 0, 1) := by decide +kernel
theorem dX9_slotLine_24 : decode cX9_slotLine 24 = .ok (.getfield 166, 3) := by decide +kernel
theorem dX9_slotLine_27 : decode cX9_slotLine 27 = .ok (.ifCond .ne 13, 3) := by decide +kernel
theorem dX9_slotLine_30 : decode cX9_slotLine 30 = .ok (.aload_n 0, 1) := by decide +kernel
theorem dX9_slotLine_31 : decode cX9_slotLine 31 = .ok (.getfield 7, 3) := by decide +kernel
theorem dX9_slotLine_34 : decode cX9_slotLine 34 = .ok (.iconst 0, 1) := by decide +kernel
theorem dX9_slotLine_35 : decode cX9_slotLine 35 = .ok (.dup2, 1) := by decide +kernel
theorem dX9_slotLine_36 : decode cX9_slotLine 36 = .ok (.iaload, 1) := by decide +kernel
theorem dX9_slotLine_37 : decode cX9_slotLine 37 = .ok (.iconst 1, 1) := by decide +kernel
theorem dX9_slotLine_38 : decode cX9_slotLine 38 = .ok (.iadd, 1) := by decide +kernel
theorem dX9_slotLine_39 : decode cX9_slotLine 39 = .ok (.iastore, 1) := by decide +kernel
theorem dX9_slotLine_40 : decode cX9_slotLine 40 = .ok (.aload_n 0, 1) := by decide +kernel
theorem dX9_slotLine_41 : decode cX9_slotLine 41 = .ok (.invokevirtual 189, 3) := by decide +kernel
theorem dX9_slotLine_44 : decode cX9_slotLine 44 = .ok (.return_, 1) := by decide +kernel
theorem dX9_told_0 : decode cX9_told 0 = .ok (.aload_n 0, 1) := by decide +kernel
theorem dX9_told_1 : decode cX9_told 1 = .ok (.aload_n 1, 1) := by decide +kernel
theorem dX9_told_2 : decode cX9_told 2 = .ok (.invokevirtual 196, 3) := by decide +kernel
theorem dX9_told_5 : decode cX9_told 5 = .ok (.istore_n 2, 1) := by decide +kernel
theorem dX9_told_6 : decode cX9_told 6 = .ok (.iload_n 2, 1) := by decide +kernel
theorem dX9_told_7 : decode cX9_told 7 = .ok (.ifCond .eq 7, 3) := by decide +kernel
theorem dX9_told_10 : decode cX9_told 10 = .ok (.aload_n 0, 1) := by decide +kernel
theorem dX9_told_11 : decode cX9_told 11 = .ok (.invokevirtual 175, 3) := by decide +kernel
theorem dX9_told_14 : decode cX9_told 14 = .ok (.iload_n 2, 1) := by decide +kernel
theorem dX9_told_15 : decode cX9_told 15 = .ok (.invokestatic 113, 3) := by decide +kernel
theorem dX9_told_18 : decode cX9_told 18 = .ok (.ireturn, 1) := by decide +kernel
theorem dX9_imageLine_0 : decode cX9_imageLine 0 = .ok (.aload_n 0, 1) := by decide +kernel
theorem dX9_imageLine_1 : decode cX9_imageLine 1 = .ok (.invokevirtual 189, 3) := by decide +kernel
theorem dX9_imageLine_4 : decode cX9_imageLine 4 = .ok (.aload_n 0, 1) := by decide +kernel
theorem dX9_imageLine_5 : decode cX9_imageLine 5 = .ok (.iconst 0, 1) := by decide +kernel
theorem dX9_imageLine_6 : decode cX9_imageLine 6 = .ok (.aload_n 0, 1) := by decide +kernel
theorem dX9_imageLine_7 : decode cX9_imageLine 7 = .ok (.getfield 7, 3) := by decide +kernel
theorem dX9_imageLine_10 : decode cX9_imageLine 10 = .ok (.iconst 0, 1) := by decide +kernel
theorem dX9_imageLine_11 : decode cX9_imageLine 11 = .ok (.iaload, 1) := by decide +kernel
theorem dX9_imageLine_12 : decode cX9_imageLine 12 = .ok (.iconst 1, 1) := by decide +kernel
theorem dX9_imageLine_13 : decode cX9_imageLine 13 = .ok (.isub, 1) := by decide +kernel
theorem dX9_imageLine_14 : decode cX9_imageLine 14 = .ok (.invokevirtual 186, 3) := by decide +kernel
theorem dX9_imageLine_17 : decode cX9_imageLine 17 = .ok (.istore_n 1, 1) := by decide +kernel
theorem dX9_imageLine_18 : decode cX9_imageLine 18 = .ok (.aload_n 0, 1) := by decide +kernel
theorem dX9_imageLine_19 : decode cX9_imageLine 19 = .ok (.aload_n 0, 1) := by decide +kernel
theorem dX9_imageLine_20 : decode cX9_imageLine 20 = .ok (.getfield 166, 3) := by decide +kernel
theorem dX9_imageLine_23 : decode cX9_imageLine 23 = .ok (.ifCond .ne 15, 3) := by decide +kernel
theorem dX9_imageLine_26 : decode cX9_imageLine 26 = .ok (.aload_n 0, 1) := by decide +kernel
theorem dX9_imageLine_27 : decode cX9_imageLine 27 = .ok (.iload_n 1, 1) := by decide +kernel
theorem dX9_imageLine_28 : decode cX9_imageLine 28 = .ok (.invokevirtual 60, 3) := by decide +kernel
theorem dX9_imageLine_31 : decode cX9_imageLine 31 = .ok (.ifCond .eq 7, 3) := by decide +kernel
theorem dX9_imageLine_34 : decode cX9_imageLine 34 = .ok (.iconst 1, 1) := by decide +kernel
theorem dX9_imageLine_35 : decode cX9_imageLine 35 = .ok (.goto 4, 3) := by decide +kernel
theorem dX9_imageLine_38 : decode cX9_imageLine 38 = .ok (.iconst 0, 1) := by decide +kernel
theorem dX9_imageLine_39 : decode cX9_imageLine 39 = .ok (.iconst 3, 1) := by decide +kernel
theorem dX9_imageLine_40 : decode cX9_imageLine 40 = .ok (.invokevirtual 192, 3) := by decide +kernel
theorem dX9_imageLine_43 : decode cX9_imageLine 43 = .ok (.aload_n 0, 1) := by decide +kernel
theorem dX9_imageLine_44 : decode cX9_imageLine 44 = .ok (.invokevirtual 189, 3) := by decide +kernel
theorem dX9_imageLine_47 : decode cX9_imageLine 47 = .ok (.aload_n 0, 1) := by decide +kernel
theorem dX9_imageLine_48 : decode cX9_imageLine 48 = .ok (.iconst 0, 1) := by decide +kernel
theorem dX9_imageLine_49 : decode cX9_imageLine 49 = .ok (.bipush 99, 2) := by decide +kernel
theorem dX9_imageLine_51 : decode cX9_imageLine 51 = .ok (.invokevirtual 200, 3) := by decide +kernel
theorem dX9_imageLine_54 : decode cX9_imageLine 54 = .ok (.istore_n 2, 1) := by decide +kernel
theorem dX9_imageLine_55 : decode cX9_imageLine 55 = .ok (.aload_n 0, 1) := by decide +kernel
theorem dX9_imageLine_56 : decode cX9_imageLine 56 = .ok (.iconst 1, 1) := by decide +kernel
theorem dX9_imageLine_57 : decode cX9_imageLine 57 = .ok (.bipush 99, 2) := by decide +kernel
theorem dX9_imageLine_59 : decode cX9_imageLine 59 = .ok (.invokevirtual 200, 3) := by decide +kernel
theorem dX9_imageLine_62 : decode cX9_imageLine 62 = .ok (.istore_n 3, 1) := by decide +kernel
theorem dX9_imageLine_63 : decode cX9_imageLine 63 = .ok (.aload_n 0, 1) := by decide +kernel
theorem dX9_imageLine_64 : decode cX9_imageLine 64 = .ok (.iconst 0, 1) := by decide +kernel
theorem dX9_imageLine_65 : decode cX9_imageLine 65 = .ok (.bipush 99, 2) := by decide +kernel
theorem dX9_imageLine_67 : decode cX9_imageLine 67 = .ok (.invokevirtual 200, 3) := by decide +kernel
theorem dX9_imageLine_70 : decode cX9_imageLine 70 = .ok (.istore 4, 2) := by decide +kernel
theorem dX9_imageLine_72 : decode cX9_imageLine 72 = .ok (.aload_n 0, 1) := by decide +kernel
theorem dX9_imageLine_73 : decode cX9_imageLine 73 = .ok (.getfield 166, 3) := by decide +kernel
theorem dX9_imageLine_76 : decode cX9_imageLine 76 = .ok (.ifCond .eq 4, 3) := by decide +kernel
theorem dX9_imageLine_79 : decode cX9_imageLine 79 = .ok (.return_, 1) := by decide +kernel
theorem dX9_imageLine_80 : decode cX9_imageLine 80 = .ok (.aload_n 0, 1) := by decide +kernel
theorem dX9_imageLine_81 : decode cX9_imageLine 81 = .ok (.iload_n 1, 1) := by decide +kernel
theorem dX9_imageLine_82 : decode cX9_imageLine 82 = .ok (.iconst 0, 1) := by decide +kernel
theorem dX9_imageLine_83 : decode cX9_imageLine 83 = .ok (.iconst 1, 1) := by decide +kernel
theorem dX9_imageLine_84 : decode cX9_imageLine 84 = .ok (.invokevirtual 77, 3) := by decide +kernel
theorem dX9_imageLine_87 : decode cX9_imageLine 87 = .ok (.aload_n 0, 1) := by decide +kernel
theorem dX9_imageLine_88 : decode cX9_imageLine 88 = .ok (.iload_n 1, 1) := by decide +kernel
theorem dX9_imageLine_89 : decode cX9_imageLine 89 = .ok (.iconst 1, 1) := by decide +kernel
theorem dX9_imageLine_90 : decode cX9_imageLine 90 = .ok (.iconst 1, 1) := by decide +kernel
theorem dX9_imageLine_91 : decode cX9_imageLine 91 = .ok (.invokevirtual 77, 3) := by decide +kernel
theorem dX9_imageLine_94 : decode cX9_imageLine 94 = .ok (.aload_n 0, 1) := by decide +kernel
theorem dX9_imageLine_95 : decode cX9_imageLine 95 = .ok (.iload_n 1, 1) := by decide +kernel
theorem dX9_imageLine_96 : decode cX9_imageLine 96 = .ok (.iconst 2, 1) := by decide +kernel
theorem dX9_imageLine_97 : decode cX9_imageLine 97 = .ok (.iconst 1, 1) := by decide +kernel
theorem dX9_imageLine_98 : decode cX9_imageLine 98 = .ok (.invokevirtual 77, 3) := by decide +kernel
theorem dX9_imageLine_101 : decode cX9_imageLine 101 = .ok (.aload_n 0, 1) := by decide +kernel
theorem dX9_imageLine_102 : decode cX9_imageLine 102 = .ok (.iload_n 1, 1) := by decide +kernel
theorem dX9_imageLine_103 : decode cX9_imageLine 103 = .ok (.bipush 8, 2) := by decide +kernel
theorem dX9_imageLine_105 : decode cX9_imageLine 105 = .ok (.iload_n 2, 1) := by decide +kernel
theorem dX9_imageLine_106 : decode cX9_imageLine 106 = .ok (.invokevirtual 77, 3) := by decide +kernel
theorem dX9_imageLine_109 : decode cX9_imageLine 109 = .ok (.aload_n 0, 1) := by decide +kernel
theorem dX9_imageLine_110 : decode cX9_imageLine 110 = .ok (.iload_n 1, 1) := by decide +kernel
theorem dX9_imageLine_111 : decode cX9_imageLine 111 = .ok (.bipush 9, 2) := by decide +kernel
theorem dX9_imageLine_113 : decode cX9_imageLine 113 = .ok (.iload_n 3, 1) := by decide +kernel
theorem dX9_imageLine_114 : decode cX9_imageLine 114 = .ok (.invokevirtual 77, 3) := by decide +kernel
theorem dX9_imageLine_117 : decode cX9_imageLine 117 = .ok (.aload_n 0, 1) := by decide +kernel
theorem dX9_imageLine_118 : decode cX9_imageLine 118 = .ok (.iload_n 1, 1) := by decide +kernel
theorem dX9_imageLine_119 : decode cX9_imageLine 119 = .ok (.bipush 10, 2) := by decide +kernel
theorem dX9_imageLine_121 : decode cX9_imageLine 121 = .ok (.iload 4, 2) := by decide +kernel
theorem dX9_imageLine_123 : decode cX9_imageLine 123 = .ok (.invokevirtual 77, 3) := by decide +kernel
theorem dX9_imageLine_126 : decode cX9_imageLine 126 = .ok (.aload_n 0, 1) := by decide +kernel
theorem dX9_imageLine_127 : decode cX9_imageLine 127 = .ok (.iload_n 1, 1) := by decide +kernel
theorem dX9_imageLine_128 : decode cX9_imageLine 128 = .ok (.bipush 11, 2) := by decide +kernel
theorem dX9_imageLine_130 : decode cX9_imageLine 130 = .ok (.aload_n 0, 1) := by decide +kernel
theorem dX9_imageLine_131 : decode cX9_imageLine 131 = .ok (.ldc 203, 2) := by decide +kernel
theorem dX9_imageLine_133 : decode cX9_imageLine 133 = .ok (.invokevirtual 205, 3) := by decide +kernel
theorem dX9_imageLine_136 : decode cX9_imageLine 136 = .ok (.invokevirtual 77, 3) := by decide +kernel
theorem dX9_imageLine_139 : decode cX9_imageLine 139 = .ok (.aload_n 0, 1) := by decide +kernel
theorem dX9_imageLine_140 : decode cX9_imageLine 140 = .ok (.iload_n 1, 1) := by decide +kernel
theorem dX9_imageLine_141 : decode cX9_imageLine 141 = .ok (.bipush 12, 2) := by decide +kernel
theorem dX9_imageLine_143 : decode cX9_imageLine 143 = .ok (.aload_n 0, 1) := by decide +kernel
theorem dX9_imageLine_144 : decode cX9_imageLine 144 = .ok (.ldc 209, 2) := by decide +kernel
theorem dX9_imageLine_146 : decode cX9_imageLine 146 = .ok (.invokevirtual 205, 3) := by decide +kernel
theorem dX9_imageLine_149 : decode cX9_imageLine 149 = .ok (.invokevirtual 77, 3) := by decide +kernel
theorem dX9_imageLine_152 : decode cX9_imageLine 152 = .ok (.return_, 1) := by decide +kernel
theorem dX9_markLine_0 : decode cX9_markLine 0 = .ok (.aload_n 0, 1) := by decide +kernel
theorem dX9_markLine_1 : decode cX9_markLine 1 = .ok (.invokevirtual 189, 3) := by decide +kernel
theorem dX9_markLine_4 : decode cX9_markLine 4 = .ok (.aload_n 0, 1) := by decide +kernel
theorem dX9_markLine_5 : decode cX9_markLine 5 = .ok (.iconst 0, 1) := by decide +kernel
theorem dX9_markLine_6 : decode cX9_markLine 6 = .ok (.aload_n 0, 1) := by decide +kernel
theorem dX9_markLine_7 : decode cX9_markLine 7 = .ok (.getfield 7, 3) := by decide +kernel
theorem dX9_markLine_10 : decode cX9_markLine 10 = .ok (.iconst 0, 1) := by decide +kernel
theorem dX9_markLine_11 : decode cX9_markLine 11 = .ok (.iaload, 1) := by decide +kernel
theorem dX9_markLine_12 : decode cX9_markLine 12 = .ok (.iconst 1, 1) := by decide +kernel
theorem dX9_markLine_13 : decode cX9_markLine 13 = .ok (.isub, 1) := by decide +kernel
theorem dX9_markLine_14 : decode cX9_markLine 14 = .ok (.invokevirtual 186, 3) := by decide +kernel
theorem dX9_markLine_17 : decode cX9_markLine 17 = .ok (.istore_n 1, 1) := by decide +kernel
theorem dX9_markLine_18 : decode cX9_markLine 18 = .ok (.aload_n 0, 1) := by decide +kernel
theorem dX9_markLine_19 : decode cX9_markLine 19 = .ok (.aload_n 0, 1) := by decide +kernel
theorem dX9_markLine_20 : decode cX9_markLine 20 = .ok (.getfield 166, 3) := by decide +kernel
theorem dX9_markLine_23 : decode cX9_markLine 23 = .ok (.ifCond .ne 19, 3) := by decide +kernel
theorem dX9_markLine_26 : decode cX9_markLine 26 = .ok (.aload_n 0, 1) := by decide +kernel
theorem dX9_markLine_27 : decode cX9_markLine 27 = .ok (.getfield 211, 3) := by decide +kernel
theorem dX9_markLine_30 : decode cX9_markLine 30 = .ok (.iload_n 1, 1) := by decide +kernel
theorem dX9_markLine_31 : decode cX9_markLine 31 = .ok (.ishr, 1) := by decide +kernel
theorem dX9_markLine_32 : decode cX9_markLine 32 = .ok (.iconst 1, 1) := by decide +kernel
theorem dX9_markLine_33 : decode cX9_markLine 33 = .ok (.iand, 1) := by decide +kernel
theorem dX9_markLine_34 : decode cX9_markLine 34 = .ok (.iconst 1, 1) := by decide +kernel
theorem dX9_markLine_35 : decode cX9_markLine 35 = .ok (.if_icmp .ne 7, 3) := by decide +kernel
theorem dX9_markLine_38 : decode cX9_markLine 38 = .ok (.iconst 1, 1) := by decide +kernel
theorem dX9_markLine_39 : decode cX9_markLine 39 = .ok (.goto 4, 3) := by decide +kernel
theorem dX9_markLine_42 : decode cX9_markLine 42 = .ok (.iconst 0, 1) := by decide +kernel
theorem dX9_markLine_43 : decode cX9_markLine 43 = .ok (.iconst 3, 1) := by decide +kernel
theorem dX9_markLine_44 : decode cX9_markLine 44 = .ok (.invokevirtual 192, 3) := by decide +kernel
theorem dX9_markLine_47 : decode cX9_markLine 47 = .ok (.aload_n 0, 1) := by decide +kernel
theorem dX9_markLine_48 : decode cX9_markLine 48 = .ok (.aload_n 0, 1) := by decide +kernel
theorem dX9_markLine_49 : decode cX9_markLine 49 = .ok (.getfield 166, 3) := by decide +kernel
theorem dX9_markLine_52 : decode cX9_markLine 52 = .ok (.ifCond .ne 15, 3) := by decide +kernel
theorem dX9_markLine_55 : decode cX9_markLine 55 = .ok (.aload_n 0, 1) := by decide +kernel
theorem dX9_markLine_56 : decode cX9_markLine 56 = .ok (.iload_n 1, 1) := by decide +kernel
theorem dX9_markLine_57 : decode cX9_markLine 57 = .ok (.invokevirtual 60, 3) := by decide +kernel
theorem dX9_markLine_60 : decode cX9_markLine 60 = .ok (.ifCond .ne 7, 3) := by decide +kernel
theorem dX9_markLine_63 : decode cX9_markLine 63 = .ok (.iconst 1, 1) := by decide +kernel
theorem dX9_markLine_64 : decode cX9_markLine 64 = .ok (.goto 4, 3) := by decide +kernel
theorem dX9_markLine_67 : decode cX9_markLine 67 = .ok (.iconst 0, 1) := by decide +kernel
theorem dX9_markLine_68 : decode cX9_markLine 68 = .ok (.iconst 4, 1) := by decide +kernel
theorem dX9_markLine_69 : decode cX9_markLine 69 = .ok (.invokevirtual 192, 3) := by decide +kernel
theorem dX9_markLine_72 : decode cX9_markLine 72 = .ok (.aload_n 0, 1) := by decide +kernel
theorem dX9_markLine_73 : decode cX9_markLine 73 = .ok (.invokevirtual 189, 3) := by decide +kernel
theorem dX9_markLine_76 : decode cX9_markLine 76 = .ok (.aload_n 0, 1) := by decide +kernel
theorem dX9_markLine_77 : decode cX9_markLine 77 = .ok (.iconst 0, 1) := by decide +kernel
theorem dX9_markLine_78 : decode cX9_markLine 78 = .ok (.bipush 15, 2) := by decide +kernel
theorem dX9_markLine_80 : decode cX9_markLine 80 = .ok (.invokevirtual 200, 3) := by decide +kernel
theorem dX9_markLine_83 : decode cX9_markLine 83 = .ok (.istore_n 2, 1) := by decide +kernel
theorem dX9_markLine_84 : decode cX9_markLine 84 = .ok (.aload_n 0, 1) := by decide +kernel
theorem dX9_markLine_85 : decode cX9_markLine 85 = .ok (.iconst 0, 1) := by decide +kernel
theorem dX9_markLine_86 : decode cX9_markLine 86 = .ok (.bipush 7, 2) := by decide +kernel
theorem dX9_markLine_88 : decode cX9_markLine 88 = .ok (.invokevirtual 200, 3) := by decide +kernel
theorem dX9_markLine_91 : decode cX9_markLine 91 = .ok (.istore_n 3, 1) := by decide +kernel
theorem dX9_markLine_92 : decode cX9_markLine 92 = .ok (.aload_n 0, 1) := by decide +kernel
theorem dX9_markLine_93 : decode cX9_markLine 93 = .ok (.getfield 166, 3) := by decide +kernel
theorem dX9_markLine_96 : decode cX9_markLine 96 = .ok (.ifCond .eq 4, 3) := by decide +kernel
theorem dX9_markLine_99 : decode cX9_markLine 99 = .ok (.return_, 1) := by decide +kernel
theorem dX9_markLine_100 : decode cX9_markLine 100 = .ok (.aload_n 0, 1) := by decide +kernel
theorem dX9_markLine_101 : decode cX9_markLine 101 = .ok (.dup, 1) := by decide +kernel
theorem dX9_markLine_102 : decode cX9_markLine 102 = .ok (.getfield 211, 3) := by decide +kernel
theorem dX9_markLine_105 : decode cX9_markLine 105 = .ok (.iconst 1, 1) := by decide +kernel
theorem dX9_markLine_106 : decode cX9_markLine 106 = .ok (.iload_n 1, 1) := by decide +kernel
theorem dX9_markLine_107 : decode cX9_markLine 107 = .ok (.ishl, 1) := by decide +kernel
theorem dX9_markLine_108 : decode cX9_markLine 108 = .ok (.ior, 1) := by decide +kernel
theorem dX9_markLine_109 : decode cX9_markLine 109 = .ok (.putfield 211, 3) := by decide +kernel
theorem dX9_markLine_112 : decode cX9_markLine 112 = .ok (.aload_n 0, 1) := by decide +kernel
theorem dX9_markLine_113 : decode cX9_markLine 113 = .ok (.iload_n 1, 1) := by decide +kernel
theorem dX9_markLine_114 : decode cX9_markLine 114 = .ok (.iconst 1, 1) := by decide +kernel
theorem dX9_markLine_115 : decode cX9_markLine 115 = .ok (.iload_n 2, 1) := by decide +kernel
theorem dX9_markLine_116 : decode cX9_markLine 116 = .ok (.invokevirtual 77, 3) := by decide +kernel
theorem dX9_markLine_119 : decode cX9_markLine 119 = .ok (.aload_n 0, 1) := by decide +kernel
theorem dX9_markLine_120 : decode cX9_markLine 120 = .ok (.iload_n 1, 1) := by decide +kernel
theorem dX9_markLine_121 : decode cX9_markLine 121 = .ok (.iconst 2, 1) := by decide +kernel
theorem dX9_markLine_122 : decode cX9_markLine 122 = .ok (.iload_n 3, 1) := by decide +kernel
theorem dX9_markLine_123 : decode cX9_markLine 123 = .ok (.invokevirtual 77, 3) := by decide +kernel
theorem dX9_markLine_126 : decode cX9_markLine 126 = .ok (.aload_n 0, 1) := by decide +kernel
theorem dX9_markLine_127 : decode cX9_markLine 127 = .ok (.iload_n 1, 1) := by decide +kernel
theorem dX9_markLine_128 : decode cX9_markLine 128 = .ok (.iconst 3, 1) := by decide +kernel
theorem dX9_markLine_129 : decode cX9_markLine 129 = .ok (.aload_n 0, 1) := by decide +kernel
theorem dX9_markLine_130 : decode cX9_markLine 130 = .ok (.ldc 214, 2) := by decide +kernel
theorem dX9_markLine_132 : decode cX9_markLine 132 = .ok (.invokevirtual 205, 3) := by decide +kernel
theorem dX9_markLine_135 : decode cX9_markLine 135 = .ok (.invokevirtual 77, 3) := by decide +kernel
theorem dX9_markLine_138 : decode cX9_markLine 138 = .ok (.return_, 1) := by decide +kernel
theorem dX9_line_0 : decode cX9_line 0 = .ok (.aload_n 0, 1) := by decide +kernel
theorem dX9_line_1 : decode cX9_line 1 = .ok (.ldc 216, 2) := by decide +kernel
theorem dX9_line_3 : decode cX9_line 3 = .ok (.invokevirtual 196, 3) := by decide +kernel
theorem dX9_line_6 : decode cX9_line 6 = .ok (.ifCond .eq 10, 3) := by decide +kernel
theorem dX9_line_9 : decode cX9_line 9 = .ok (.aload_n 0, 1) := by decide +kernel
theorem dX9_line_10 : decode cX9_line 10 = .ok (.invokevirtual 218, 3) := by decide +kernel
theorem dX9_line_13 : decode cX9_line 13 = .ok (.goto 40, 3) := by decide +kernel
theorem dX9_line_16 : decode cX9_line 16 = .ok (.aload_n 0, 1) := by decide +kernel
theorem dX9_line_17 : decode cX9_line 17 = .ok (.ldc 221, 2) := by decide +kernel
theorem dX9_line_19 : decode cX9_line 19 = .ok (.invokevirtual 196, 3) := by decide +kernel
theorem dX9_line_22 : decode cX9_line 22 = .ok (.ifCond .eq 10, 3) := by decide +kernel
theorem dX9_line_25 : decode cX9_line 25 = .ok (.aload_n 0, 1) := by decide +kernel
theorem dX9_line_26 : decode cX9_line 26 = .ok (.invokevirtual 223, 3) := by decide +kernel
theorem dX9_line_29 : decode cX9_line 29 = .ok (.goto 24, 3) := by decide +kernel
theorem dX9_line_32 : decode cX9_line 32 = .ok (.aload_n 0, 1) := by decide +kernel
theorem dX9_line_33 : decode cX9_line 33 = .ok (.ldc 226, 2) := by decide +kernel
theorem dX9_line_35 : decode cX9_line 35 = .ok (.invokevirtual 196, 3) := by decide +kernel
theorem dX9_line_38 : decode cX9_line 38 = .ok (.ifCond .eq 10, 3) := by decide +kernel
theorem dX9_line_41 : decode cX9_line 41 = .ok (.aload_n 0, 1) := by decide +kernel
theorem dX9_line_42 : decode cX9_line 42 = .ok (.invokevirtual 228, 3) := by decide +kernel
theorem dX9_line_45 : decode cX9_line 45 = .ok (.goto 8, 3) := by decide +kernel
theorem dX9_line_48 : decode cX9_line 48 = .ok (.aload_n 0, 1) := by decide +kernel
theorem dX9_line_49 : decode cX9_line 49 = .ok (.iconst 1, 1) := by decide +kernel
theorem dX9_line_50 : decode cX9_line 50 = .ok (.invokevirtual 172, 3) := by decide +kernel
theorem dX9_line_53 : decode cX9_line 53 = .ok (.return_, 1) := by decide +kernel
theorem dX9_least_0 : decode cX9_least 0 = .ok (.iload_n 0, 1) := by decide +kernel
theorem dX9_least_1 : decode cX9_least 1 = .ok (.iconst 2, 1) := by decide +kernel
theorem dX9_least_2 : decode cX9_least 2 = .ok (.if_icmp .eq 8, 3) := by decide +kernel
theorem dX9_least_5 : decode cX9_least 5 = .ok (.iload_n 0, 1) := by decide +kernel
theorem dX9_least_6 : decode cX9_least 6 = .ok (.iconst 3, 1) := by decide +kernel
theorem dX9_least_7 : decode cX9_least 7 = .ok (.if_icmp .ne 7, 3) := by decide +kernel
theorem dX9_least_10 : decode cX9_least 10 = .ok (.iconst 1, 1) := by decide +kernel
theorem dX9_least_11 : decode cX9_least 11 = .ok (.goto 4, 3) := by decide +kernel
theorem dX9_least_14 : decode cX9_least 14 = .ok (.iconst 0, 1) := by decide +kernel
theorem dX9_least_15 : decode cX9_least 15 = .ok (.ireturn, 1) := by decide +kernel
theorem dX9_most_0 : decode cX9_most 0 = .ok (.iload_n 0, 1) := by decide +kernel
theorem dX9_most_1 : decode cX9_most 1 = .ok (.iconst 3, 1) := by decide +kernel
theorem dX9_most_2 : decode cX9_most 2 = .ok (.if_icmp .ne 8, 3) := by decide +kernel
theorem dX9_most_5 : decode cX9_most 5 = .ok (.bipush 9, 2) := by decide +kernel
theorem dX9_most_7 : decode cX9_most 7 = .ok (.goto 15, 3) := by decide +kernel
theorem dX9_most_10 : decode cX9_most 10 = .ok (.iload_n 0, 1) := by decide +kernel
theorem dX9_most_11 : decode cX9_most 11 = .ok (.iconst 4, 1) := by decide +kernel
theorem dX9_most_12 : decode cX9_most 12 = .ok (.if_icmp .ne 8, 3) := by decide +kernel
theorem dX9_most_15 : decode cX9_most 15 = .ok (.bipush 7, 2) := by decide +kernel
theorem dX9_most_17 : decode cX9_most 17 = .ok (.goto 5, 3) := by decide +kernel
theorem dX9_most_20 : decode cX9_most 20 = .ok (.bipush 99, 2) := by decide +kernel
theorem dX9_most_22 : decode cX9_most 22 = .ok (.ireturn, 1) := by decide +kernel
theorem dX9_reads_0 : decode cX9_reads 0 = .ok (.iconst 0, 1) := by decide +kernel
theorem dX9_reads_1 : decode cX9_reads 1 = .ok (.istore_n 1, 1) := by decide +kernel
theorem dX9_reads_2 : decode cX9_reads 2 = .ok (.iload_n 1, 1) := by decide +kernel
theorem dX9_reads_3 : decode cX9_reads 3 = .ok (.sipush 160, 3) := by decide +kernel
theorem dX9_reads_6 : decode cX9_reads 6 = .ok (.if_icmp .ge 16, 3) := by decide +kernel
theorem dX9_reads_9 : decode cX9_reads 9 = .ok (.aload_n 0, 1) := by decide +kernel
theorem dX9_reads_10 : decode cX9_reads 10 = .ok (.getfield 7, 3) := by decide +kernel
theorem dX9_reads_13 : decode cX9_reads 13 = .ok (.iload_n 1, 1) := by decide +kernel
theorem dX9_reads_14 : decode cX9_reads 14 = .ok (.iconst 0, 1) := by decide +kernel
theorem dX9_reads_15 : decode cX9_reads 15 = .ok (.iastore, 1) := by decide +kernel
theorem dX9_reads_16 : decode cX9_reads 16 = .ok (.iinc 1 1, 3) := by decide +kernel
theorem dX9_reads_19 : decode cX9_reads 19 = .ok (.goto (-17), 3) := by decide +kernel
theorem dX9_reads_22 : decode cX9_reads 22 = .ok (.aload_n 0, 1) := by decide +kernel
theorem dX9_reads_23 : decode cX9_reads 23 = .ok (.getfield 7, 3) := by decide +kernel
theorem dX9_reads_26 : decode cX9_reads 26 = .ok (.bipush 7, 2) := by decide +kernel
theorem dX9_reads_28 : decode cX9_reads 28 = .ok (.iconst (-1), 1) := by decide +kernel
theorem dX9_reads_29 : decode cX9_reads 29 = .ok (.iastore, 1) := by decide +kernel
theorem dX9_reads_30 : decode cX9_reads 30 = .ok (.aload_n 0, 1) := by decide +kernel
theorem dX9_reads_31 : decode cX9_reads 31 = .ok (.invokevirtual 121, 3) := by decide +kernel
theorem dX9_reads_34 : decode cX9_reads 34 = .ok (.aload_n 0, 1) := by decide +kernel
theorem dX9_reads_35 : decode cX9_reads 35 = .ok (.iconst 0, 1) := by decide +kernel
theorem dX9_reads_36 : decode cX9_reads 36 = .ok (.putfield 211, 3) := by decide +kernel
theorem dX9_reads_39 : decode cX9_reads 39 = .ok (.aload_n 0, 1) := by decide +kernel
theorem dX9_reads_40 : decode cX9_reads 40 = .ok (.aload_n 0, 1) := by decide +kernel
theorem dX9_reads_41 : decode cX9_reads 41 = .ok (.ldc 231, 2) := by decide +kernel
theorem dX9_reads_43 : decode cX9_reads 43 = .ok (.invokevirtual 196, 3) := by decide +kernel
theorem dX9_reads_46 : decode cX9_reads 46 = .ok (.ifCond .ne 7, 3) := by decide +kernel
theorem dX9_reads_49 : decode cX9_reads 49 = .ok (.iconst 1, 1) := by decide +kernel
theorem dX9_reads_50 : decode cX9_reads 50 = .ok (.goto 4, 3) := by decide +kernel
theorem dX9_reads_53 : decode cX9_reads 53 = .ok (.iconst 0, 1) := by decide +kernel
theorem dX9_reads_54 : decode cX9_reads 54 = .ok (.iconst 1, 1) := by decide +kernel
theorem dX9_reads_55 : decode cX9_reads 55 = .ok (.invokevirtual 192, 3) := by decide +kernel
theorem dX9_reads_58 : decode cX9_reads 58 = .ok (.aload_n 0, 1) := by decide +kernel
theorem dX9_reads_59 : decode cX9_reads 59 = .ok (.invokevirtual 189, 3) := by decide +kernel
theorem dX9_reads_62 : decode cX9_reads 62 = .ok (.iconst 2, 1) := by decide +kernel
theorem dX9_reads_63 : decode cX9_reads 63 = .ok (.istore_n 1, 1) := by decide +kernel
theorem dX9_reads_64 : decode cX9_reads 64 = .ok (.iload_n 1, 1) := by decide +kernel
theorem dX9_reads_65 : decode cX9_reads 65 = .ok (.iconst 5, 1) := by decide +kernel
theorem dX9_reads_66 : decode cX9_reads 66 = .ok (.if_icmp .gt 27, 3) := by decide +kernel
theorem dX9_reads_69 : decode cX9_reads 69 = .ok (.aload_n 0, 1) := by decide +kernel
theorem dX9_reads_70 : decode cX9_reads 70 = .ok (.getfield 7, 3) := by decide +kernel
theorem dX9_reads_73 : decode cX9_reads 73 = .ok (.iload_n 1, 1) := by decide +kernel
theorem dX9_reads_74 : decode cX9_reads 74 = .ok (.aload_n 0, 1) := by decide +kernel
theorem dX9_reads_75 : decode cX9_reads 75 = .ok (.iload_n 1, 1) := by decide +kernel
theorem dX9_reads_76 : decode cX9_reads 76 = .ok (.invokestatic 233, 3) := by decide +kernel
theorem dX9_reads_79 : decode cX9_reads 79 = .ok (.iload_n 1, 1) := by decide +kernel
theorem dX9_reads_80 : decode cX9_reads 80 = .ok (.invokestatic 236, 3) := by decide +kernel
theorem dX9_reads_83 : decode cX9_reads 83 = .ok (.invokevirtual 200, 3) := by decide +kernel
theorem dX9_reads_86 : decode cX9_reads 86 = .ok (.iastore, 1) := by decide +kernel
theorem dX9_reads_87 : decode cX9_reads 87 = .ok (.iinc 1 1, 3) := by decide +kernel
theorem dX9_reads_90 : decode cX9_reads 90 = .ok (.goto (-26), 3) := by decide +kernel
theorem dX9_reads_93 : decode cX9_reads 93 = .ok (.aload_n 0, 1) := by decide +kernel
theorem dX9_reads_94 : decode cX9_reads 94 = .ok (.getfield 166, 3) := by decide +kernel
theorem dX9_reads_97 : decode cX9_reads 97 = .ok (.ifCond .ne 22, 3) := by decide +kernel
theorem dX9_reads_100 : decode cX9_reads 100 = .ok (.aload_n 0, 1) := by decide +kernel
theorem dX9_reads_101 : decode cX9_reads 101 = .ok (.getfield 154, 3) := by decide +kernel
theorem dX9_reads_104 : decode cX9_reads 104 = .ok (.iconst 3, 1) := by decide +kernel
theorem dX9_reads_105 : decode cX9_reads 105 = .ok (.if_icmp .ne 14, 3) := by decide +kernel
theorem dX9_reads_108 : decode cX9_reads 108 = .ok (.aload_n 0, 1) := by decide +kernel
theorem dX9_reads_109 : decode cX9_reads 109 = .ok (.invokevirtual 175, 3) := by decide +kernel
theorem dX9_reads_112 : decode cX9_reads 112 = .ok (.aload_n 0, 1) := by decide +kernel
theorem dX9_reads_113 : decode cX9_reads 113 = .ok (.invokevirtual 239, 3) := by decide +kernel
theorem dX9_reads_116 : decode cX9_reads 116 = .ok (.goto (-23), 3) := by decide +kernel
theorem dX9_reads_119 : decode cX9_reads 119 = .ok (.aload_n 0, 1) := by decide +kernel
theorem dX9_reads_120 : decode cX9_reads 120 = .ok (.aload_n 0, 1) := by decide +kernel
theorem dX9_reads_121 : decode cX9_reads 121 = .ok (.getfield 154, 3) := by decide +kernel
theorem dX9_reads_124 : decode cX9_reads 124 = .ok (.ifCond .eq 7, 3) := by decide +kernel
theorem dX9_reads_127 : decode cX9_reads 127 = .ok (.iconst 1, 1) := by decide +kernel
theorem dX9_reads_128 : decode cX9_reads 128 = .ok (.goto 4, 3) := by decide +kernel
theorem dX9_reads_131 : decode cX9_reads 131 = .ok (.iconst 0, 1) := by decide +kernel
theorem dX9_reads_132 : decode cX9_reads 132 = .ok (.iconst 1, 1) := by decide +kernel
theorem dX9_reads_133 : decode cX9_reads 133 = .ok (.invokevirtual 192, 3) := by decide +kernel
theorem dX9_reads_136 : decode cX9_reads 136 = .ok (.aload_n 0, 1) := by decide +kernel
theorem dX9_reads_137 : decode cX9_reads 137 = .ok (.aload_n 0, 1) := by decide +kernel
theorem dX9_reads_138 : decode cX9_reads 138 = .ok (.getfield 7, 3) := by decide +kernel
theorem dX9_reads_141 : decode cX9_reads 141 = .ok (.iconst 0, 1) := by decide +kernel
theorem dX9_reads_142 : decode cX9_reads 142 = .ok (.iaload, 1) := by decide +kernel
theorem dX9_reads_143 : decode cX9_reads 143 = .ok (.ifCond .ne 7, 3) := by decide +kernel
theorem dX9_reads_146 : decode cX9_reads 146 = .ok (.iconst 1, 1) := by decide +kernel
theorem dX9_reads_147 : decode cX9_reads 147 = .ok (.goto 4, 3) := by decide +kernel
theorem dX9_reads_150 : decode cX9_reads 150 = .ok (.iconst 0, 1) := by decide +kernel
theorem dX9_reads_151 : decode cX9_reads 151 = .ok (.bipush 6, 2) := by decide +kernel
theorem dX9_reads_153 : decode cX9_reads 153 = .ok (.invokevirtual 192, 3) := by decide +kernel
theorem dX9_reads_156 : decode cX9_reads 156 = .ok (.return_, 1) := by decide +kernel
theorem dX9_load_0 : decode cX9_load 0 = .ok (.aload_n 0, 1) := by decide +kernel
theorem dX9_load_1 : decode cX9_load 1 = .ok (.iconst 0, 1) := by decide +kernel
theorem dX9_load_2 : decode cX9_load 2 = .ok (.putfield 33, 3) := by decide +kernel
theorem dX9_load_5 : decode cX9_load 5 = .ok (.aload_n 0, 1) := by decide +kernel
theorem dX9_load_6 : decode cX9_load 6 = .ok (.iload_n 1, 1) := by decide +kernel
theorem dX9_load_7 : decode cX9_load 7 = .ok (.i2l, 1) := by decide +kernel
theorem dX9_load_8 : decode cX9_load 8 = .ok (.lconst 0, 1) := by decide +kernel
theorem dX9_load_9 : decode cX9_load 9 = .ok (.aload_n 0, 1) := by decide +kernel
theorem dX9_load_10 : decode cX9_load 10 = .ok (.getfield 136, 3) := by decide +kernel
theorem dX9_load_13 : decode cX9_load 13 = .ok (.i2l, 1) := by decide +kernel
theorem dX9_load_14 : decode cX9_load 14 = .ok (.invokestatic 44, 3) := by decide +kernel
theorem dX9_load_17 : decode cX9_load 17 = .ok (.ifCond .ne 7, 3) := by decide +kernel
theorem dX9_load_20 : decode cX9_load 20 = .ok (.iconst 1, 1) := by decide +kernel
theorem dX9_load_21 : decode cX9_load 21 = .ok (.goto 4, 3) := by decide +kernel
theorem dX9_load_24 : decode cX9_load 24 = .ok (.iconst 0, 1) := by decide +kernel
theorem dX9_load_25 : decode cX9_load 25 = .ok (.iconst 1, 1) := by decide +kernel
theorem dX9_load_26 : decode cX9_load 26 = .ok (.invokevirtual 40, 3) := by decide +kernel
theorem dX9_load_29 : decode cX9_load 29 = .ok (.ifCond .eq 5, 3) := by decide +kernel
theorem dX9_load_32 : decode cX9_load 32 = .ok (.iconst 0, 1) := by decide +kernel
theorem dX9_load_33 : decode cX9_load 33 = .ok (.ireturn, 1) := by decide +kernel
theorem dX9_load_34 : decode cX9_load 34 = .ok (.aload_n 0, 1) := by decide +kernel
theorem dX9_load_35 : decode cX9_load 35 = .ok (.getfield 7, 3) := by decide +kernel
theorem dX9_load_38 : decode cX9_load 38 = .ok (.iconst 0, 1) := by decide +kernel
theorem dX9_load_39 : decode cX9_load 39 = .ok (.aload_n 0, 1) := by decide +kernel
theorem dX9_load_40 : decode cX9_load 40 = .ok (.getfield 27, 3) := by decide +kernel
theorem dX9_load_43 : decode cX9_load 43 = .ok (.iconst 0, 1) := by decide +kernel
theorem dX9_load_44 : decode cX9_load 44 = .ok (.invokestatic 242, 3) := by decide +kernel
theorem dX9_load_47 : decode cX9_load 47 = .ok (.aload_n 0, 1) := by decide +kernel
theorem dX9_load_48 : decode cX9_load 48 = .ok (.iconst 0, 1) := by decide +kernel
theorem dX9_load_49 : decode cX9_load 49 = .ok (.putfield 136, 3) := by decide +kernel
theorem dX9_load_52 : decode cX9_load 52 = .ok (.aload_n 0, 1) := by decide +kernel
theorem dX9_load_53 : decode cX9_load 53 = .ok (.iload_n 1, 1) := by decide +kernel
theorem dX9_load_54 : decode cX9_load 54 = .ok (.putfield 142, 3) := by decide +kernel
theorem dX9_load_57 : decode cX9_load 57 = .ok (.aload_n 0, 1) := by decide +kernel
theorem dX9_load_58 : decode cX9_load 58 = .ok (.iconst 0, 1) := by decide +kernel
theorem dX9_load_59 : decode cX9_load 59 = .ok (.putfield 145, 3) := by decide +kernel
theorem dX9_load_62 : decode cX9_load 62 = .ok (.aload_n 0, 1) := by decide +kernel
theorem dX9_load_63 : decode cX9_load 63 = .ok (.iconst 0, 1) := by decide +kernel
theorem dX9_load_64 : decode cX9_load 64 = .ok (.putfield 166, 3) := by decide +kernel
theorem dX9_load_67 : decode cX9_load 67 = .ok (.aload_n 0, 1) := by decide +kernel
theorem dX9_load_68 : decode cX9_load 68 = .ok (.iconst (-1), 1) := by decide +kernel
theorem dX9_load_69 : decode cX9_load 69 = .ok (.putfield 169, 3) := by decide +kernel
theorem dX9_load_72 : decode cX9_load 72 = .ok (.aload_n 0, 1) := by decide +kernel
theorem dX9_load_73 : decode cX9_load 73 = .ok (.invokevirtual 175, 3) := by decide +kernel
theorem dX9_load_76 : decode cX9_load 76 = .ok (.aload_n 0, 1) := by decide +kernel
theorem dX9_load_77 : decode cX9_load 77 = .ok (.invokevirtual 246, 3) := by decide +kernel
theorem dX9_load_80 : decode cX9_load 80 = .ok (.aload_n 0, 1) := by decide +kernel
theorem dX9_load_81 : decode cX9_load 81 = .ok (.aload_n 0, 1) := by decide +kernel
theorem dX9_load_82 : decode cX9_load 82 = .ok (.getfield 166, 3) := by decide +kernel
theorem dX9_load_85 : decode cX9_load 85 = .ok (.putfield 139, 3) := by decide +kernel
theorem dX9_load_88 : decode cX9_load 88 = .ok (.aload_n 0, 1) := by decide +kernel
theorem dX9_load_89 : decode cX9_load 89 = .ok (.aload_n 0, 1) := by decide +kernel
theorem dX9_load_90 : decode cX9_load 90 = .ok (.getfield 166, 3) := by decide +kernel
theorem dX9_load_93 : decode cX9_load 93 = .ok (.ifCond .ne 7, 3) := by decide +kernel
theorem dX9_load_96 : decode cX9_load 96 = .ok (.iconst (-1), 1) := by decide +kernel
theorem dX9_load_97 : decode cX9_load 97 = .ok (.goto 7, 3) := by decide +kernel
theorem dX9_load_100 : decode cX9_load 100 = .ok (.aload_n 0, 1) := by decide +kernel
theorem dX9_load_101 : decode cX9_load 101 = .ok (.getfield 169, 3) := by decide +kernel
theorem dX9_load_104 : decode cX9_load 104 = .ok (.putfield 23, 3) := by decide +kernel
theorem dX9_load_107 : decode cX9_load 107 = .ok (.aload_n 0, 1) := by decide +kernel
theorem dX9_load_108 : decode cX9_load 108 = .ok (.aload_n 0, 1) := by decide +kernel
theorem dX9_load_109 : decode cX9_load 109 = .ok (.getfield 166, 3) := by decide +kernel
theorem dX9_load_112 : decode cX9_load 112 = .ok (.ifCond .eq 7, 3) := by decide +kernel
theorem dX9_load_115 : decode cX9_load 115 = .ok (.iconst 1, 1) := by decide +kernel
theorem dX9_load_116 : decode cX9_load 116 = .ok (.goto 4, 3) := by decide +kernel
theorem dX9_load_119 : decode cX9_load 119 = .ok (.iconst 0, 1) := by decide +kernel
theorem dX9_load_120 : decode cX9_load 120 = .ok (.iconst 2, 1) := by decide +kernel
theorem dX9_load_121 : decode cX9_load 121 = .ok (.invokevirtual 40, 3) := by decide +kernel
theorem dX9_load_124 : decode cX9_load 124 = .ok (.ifCond .eq 18, 3) := by decide +kernel
theorem dX9_load_127 : decode cX9_load 127 = .ok (.aload_n 0, 1) := by decide +kernel
theorem dX9_load_128 : decode cX9_load 128 = .ok (.getfield 27, 3) := by decide +kernel
theorem dX9_load_131 : decode cX9_load 131 = .ok (.iconst 0, 1) := by decide +kernel
theorem dX9_load_132 : decode cX9_load 132 = .ok (.aload_n 0, 1) := by decide +kernel
theorem dX9_load_133 : decode cX9_load 133 = .ok (.getfield 7, 3) := by decide +kernel
theorem dX9_load_136 : decode cX9_load 136 = .ok (.iconst 0, 1) := by decide +kernel
theorem dX9_load_137 : decode cX9_load 137 = .ok (.invokestatic 242, 3) := by decide +kernel
theorem dX9_load_140 : decode cX9_load 140 = .ok (.iconst 0, 1) := by decide +kernel
theorem dX9_load_141 : decode cX9_load 141 = .ok (.ireturn, 1) := by decide +kernel
theorem dX9_load_142 : decode cX9_load 142 = .ok (.aload_n 0, 1) := by decide +kernel
theorem dX9_load_143 : decode cX9_load 143 = .ok (.iconst 1, 1) := by decide +kernel
theorem dX9_load_144 : decode cX9_load 144 = .ok (.putfield 36, 3) := by decide +kernel
theorem dX9_load_147 : decode cX9_load 147 = .ok (.aload_n 0, 1) := by decide +kernel
theorem dX9_load_148 : decode cX9_load 148 = .ok (.iconst 0, 1) := by decide +kernel
theorem dX9_load_149 : decode cX9_load 149 = .ok (.putfield 249, 3) := by decide +kernel
theorem dX9_load_152 : decode cX9_load 152 = .ok (.aload_n 0, 1) := by decide +kernel
theorem dX9_load_153 : decode cX9_load 153 = .ok (.getfield 16, 3) := by decide +kernel
theorem dX9_load_156 : decode cX9_load 156 = .ok (.iconst 0, 1) := by decide +kernel
theorem dX9_load_157 : decode cX9_load 157 = .ok (.iconst 0, 1) := by decide +kernel
theorem dX9_load_158 : decode cX9_load 158 = .ok (.bastore, 1) := by decide +kernel
theorem dX9_load_159 : decode cX9_load 159 = .ok (.aload_n 0, 1) := by decide +kernel
theorem dX9_load_160 : decode cX9_load 160 = .ok (.getfield 16, 3) := by decide +kernel
theorem dX9_load_163 : decode cX9_load 163 = .ok (.iconst 1, 1) := by decide +kernel
theorem dX9_load_164 : decode cX9_load 164 = .ok (.iconst 0, 1) := by decide +kernel
theorem dX9_load_165 : decode cX9_load 165 = .ok (.bastore, 1) := by decide +kernel
theorem dX9_load_166 : decode cX9_load 166 = .ok (.aload_n 0, 1) := by decide +kernel
theorem dX9_load_167 : decode cX9_load 167 = .ok (.getfield 7, 3) := by decide +kernel
theorem dX9_load_170 : decode cX9_load 170 = .ok (.iconst 0, 1) := by decide +kernel
theorem dX9_load_171 : decode cX9_load 171 = .ok (.iaload, 1) := by decide +kernel
theorem dX9_load_172 : decode cX9_load 172 = .ok (.ireturn, 1) := by decide +kernel
theorem dX9_bootable_0 : decode cX9_bootable 0 = .ok (.iconst 0, 1) := by decide +kernel
theorem dX9_bootable_1 : decode cX9_bootable 1 = .ok (.istore_n 1, 1) := by decide +kernel
theorem dX9_bootable_2 : decode cX9_bootable 2 = .ok (.iconst 0, 1) := by decide +kernel
theorem dX9_bootable_3 : decode cX9_bootable 3 = .ok (.istore_n 2, 1) := by decide +kernel
theorem dX9_bootable_4 : decode cX9_bootable 4 = .ok (.iload_n 2, 1) := by decide +kernel
theorem dX9_bootable_5 : decode cX9_bootable 5 = .ok (.aload_n 0, 1) := by decide +kernel
theorem dX9_bootable_6 : decode cX9_bootable 6 = .ok (.getfield 7, 3) := by decide +kernel
theorem dX9_bootable_9 : decode cX9_bootable 9 = .ok (.iconst 0, 1) := by decide +kernel
theorem dX9_bootable_10 : decode cX9_bootable 10 = .ok (.iaload, 1) := by decide +kernel
theorem dX9_bootable_11 : decode cX9_bootable 11 = .ok (.if_icmp .ge 20, 3) := by decide +kernel
theorem dX9_bootable_14 : decode cX9_bootable 14 = .ok (.iload_n 1, 1) := by decide +kernel
theorem dX9_bootable_15 : decode cX9_bootable 15 = .ok (.aload_n 0, 1) := by decide +kernel
theorem dX9_bootable_16 : decode cX9_bootable 16 = .ok (.iload_n 2, 1) := by decide +kernel
theorem dX9_bootable_17 : decode cX9_bootable 17 = .ok (.invokevirtual 70, 3) := by decide +kernel
theorem dX9_bootable_20 : decode cX9_bootable 20 = .ok (.invokestatic 113, 3) := by decide +kernel
theorem dX9_bootable_23 : decode cX9_bootable 23 = .ok (.iadd, 1) := by decide +kernel
theorem dX9_bootable_24 : decode cX9_bootable 24 = .ok (.istore_n 1, 1) := by decide +kernel
theorem dX9_bootable_25 : decode cX9_bootable 25 = .ok (.iinc 2 1, 3) := by decide +kernel
theorem dX9_bootable_28 : decode cX9_bootable 28 = .ok (.goto (-24), 3) := by decide +kernel
theorem dX9_bootable_31 : decode cX9_bootable 31 = .ok (.iload_n 1, 1) := by decide +kernel
theorem dX9_bootable_32 : decode cX9_bootable 32 = .ok (.ireturn, 1) := by decide +kernel
theorem dX9_sumOf_0 : decode cX9_sumOf 0 = .ok (.iconst 0, 1) := by decide +kernel
theorem dX9_sumOf_1 : decode cX9_sumOf 1 = .ok (.istore_n 2, 1) := by decide +kernel
theorem dX9_sumOf_2 : decode cX9_sumOf 2 = .ok (.iconst 0, 1) := by decide +kernel
theorem dX9_sumOf_3 : decode cX9_sumOf 3 = .ok (.istore_n 3, 1) := by decide +kernel
theorem dX9_sumOf_4 : decode cX9_sumOf 4 = .ok (.iload_n 3, 1) := by decide +kernel
theorem dX9_sumOf_5 : decode cX9_sumOf 5 = .ok (.aload_n 0, 1) := by decide +kernel
theorem dX9_sumOf_6 : decode cX9_sumOf 6 = .ok (.getfield 7, 3) := by decide +kernel
theorem dX9_sumOf_9 : decode cX9_sumOf 9 = .ok (.iconst 0, 1) := by decide +kernel
theorem dX9_sumOf_10 : decode cX9_sumOf 10 = .ok (.iaload, 1) := by decide +kernel
theorem dX9_sumOf_11 : decode cX9_sumOf 11 = .ok (.if_icmp .ge 18, 3) := by decide +kernel
theorem dX9_sumOf_14 : decode cX9_sumOf 14 = .ok (.iload_n 2, 1) := by decide +kernel
theorem dX9_sumOf_15 : decode cX9_sumOf 15 = .ok (.aload_n 0, 1) := by decide +kernel
theorem dX9_sumOf_16 : decode cX9_sumOf 16 = .ok (.iload_n 3, 1) := by decide +kernel
theorem dX9_sumOf_17 : decode cX9_sumOf 17 = .ok (.iload_n 1, 1) := by decide +kernel
theorem dX9_sumOf_18 : decode cX9_sumOf 18 = .ok (.invokevirtual 56, 3) := by decide +kernel
theorem dX9_sumOf_21 : decode cX9_sumOf 21 = .ok (.iadd, 1) := by decide +kernel
theorem dX9_sumOf_22 : decode cX9_sumOf 22 = .ok (.istore_n 2, 1) := by decide +kernel
theorem dX9_sumOf_23 : decode cX9_sumOf 23 = .ok (.iinc 3 1, 3) := by decide +kernel
theorem dX9_sumOf_26 : decode cX9_sumOf 26 = .ok (.goto (-22), 3) := by decide +kernel
theorem dX9_sumOf_29 : decode cX9_sumOf 29 = .ok (.iload_n 2, 1) := by decide +kernel
theorem dX9_sumOf_30 : decode cX9_sumOf 30 = .ok (.ireturn, 1) := by decide +kernel
theorem dX9_count_0 : decode cX9_count 0 = .ok (.aload_n 0, 1) := by decide +kernel
theorem dX9_count_1 : decode cX9_count 1 = .ok (.invokevirtual 48, 3) := by decide +kernel
theorem dX9_count_4 : decode cX9_count 4 = .ok (.ifCond .ne 28, 3) := by decide +kernel
theorem dX9_count_7 : decode cX9_count 7 = .ok (.aload_n 0, 1) := by decide +kernel
theorem dX9_count_8 : decode cX9_count 8 = .ok (.iload_n 1, 1) := by decide +kernel
theorem dX9_count_9 : decode cX9_count 9 = .ok (.i2l, 1) := by decide +kernel
theorem dX9_count_10 : decode cX9_count 10 = .ok (.lconst 0, 1) := by decide +kernel
theorem dX9_count_11 : decode cX9_count 11 = .ok (.ldc2_w 252, 3) := by decide +kernel
theorem dX9_count_14 : decode cX9_count 14 = .ok (.invokestatic 44, 3) := by decide +kernel
theorem dX9_count_17 : decode cX9_count 17 = .ok (.ifCond .ne 7, 3) := by decide +kernel
theorem dX9_count_20 : decode cX9_count 20 = .ok (.iconst 1, 1) := by decide +kernel
theorem dX9_count_21 : decode cX9_count 21 = .ok (.goto 4, 3) := by decide +kernel
theorem dX9_count_24 : decode cX9_count 24 = .ok (.iconst 0, 1) := by decide +kernel
theorem dX9_count_25 : decode cX9_count 25 = .ok (.iconst 2, 1) := by decide +kernel
theorem dX9_count_26 : decode cX9_count 26 = .ok (.invokevirtual 40, 3) := by decide +kernel
theorem dX9_count_29 : decode cX9_count 29 = .ok (.ifCond .eq 5, 3) := by decide +kernel
theorem dX9_count_32 : decode cX9_count 32 = .ok (.iconst 0, 1) := by decide +kernel
theorem dX9_count_33 : decode cX9_count 33 = .ok (.ireturn, 1) := by decide +kernel
theorem dX9_count_34 : decode cX9_count 34 = .ok (.iload_n 1, 1) := by decide +kernel
theorem dX9_count_35 : decode cX9_count 35 = .ok (.tableswitch 42 9 11 #[25, 30, 36], 25) := by decide +kernel
theorem dX9_count_60 : decode cX9_count 60 = .ok (.aload_n 0, 1) := by decide +kernel
theorem dX9_count_61 : decode cX9_count 61 = .ok (.invokevirtual 254, 3) := by decide +kernel
theorem dX9_count_64 : decode cX9_count 64 = .ok (.ireturn, 1) := by decide +kernel
theorem dX9_count_65 : decode cX9_count 65 = .ok (.aload_n 0, 1) := by decide +kernel
theorem dX9_count_66 : decode cX9_count 66 = .ok (.iconst 3, 1) := by decide +kernel
theorem dX9_count_67 : decode cX9_count 67 = .ok (.invokevirtual 257, 3) := by decide +kernel
theorem dX9_count_70 : decode cX9_count 70 = .ok (.ireturn, 1) := by decide +kernel
theorem dX9_count_71 : decode cX9_count 71 = .ok (.aload_n 0, 1) := by decide +kernel
theorem dX9_count_72 : decode cX9_count 72 = .ok (.iconst 2, 1) := by decide +kernel
theorem dX9_count_73 : decode cX9_count 73 = .ok (.invokevirtual 257, 3) := by decide +kernel
theorem dX9_count_76 : decode cX9_count 76 = .ok (.ireturn, 1) := by decide +kernel
theorem dX9_count_77 : decode cX9_count 77 = .ok (.aload_n 0, 1) := by decide +kernel
theorem dX9_count_78 : decode cX9_count 78 = .ok (.getfield 7, 3) := by decide +kernel
theorem dX9_count_81 : decode cX9_count 81 = .ok (.iload_n 1, 1) := by decide +kernel
theorem dX9_count_82 : decode cX9_count 82 = .ok (.iaload, 1) := by decide +kernel
theorem dX9_count_83 : decode cX9_count 83 = .ok (.ireturn, 1) := by decide +kernel
theorem dX9_slot_0 : decode cX9_slot 0 = .ok (.aload_n 0, 1) := by decide +kernel
theorem dX9_slot_1 : decode cX9_slot 1 = .ok (.iload_n 1, 1) := by decide +kernel
theorem dX9_slot_2 : decode cX9_slot 2 = .ok (.invokevirtual 260, 3) := by decide +kernel
theorem dX9_slot_5 : decode cX9_slot 5 = .ok (.ifCond .ne 28, 3) := by decide +kernel
theorem dX9_slot_8 : decode cX9_slot 8 = .ok (.aload_n 0, 1) := by decide +kernel
theorem dX9_slot_9 : decode cX9_slot 9 = .ok (.iload_n 2, 1) := by decide +kernel
theorem dX9_slot_10 : decode cX9_slot 10 = .ok (.i2l, 1) := by decide +kernel
theorem dX9_slot_11 : decode cX9_slot 11 = .ok (.lconst 0, 1) := by decide +kernel
theorem dX9_slot_12 : decode cX9_slot 12 = .ok (.ldc2_w 263, 3) := by decide +kernel
theorem dX9_slot_15 : decode cX9_slot 15 = .ok (.invokestatic 44, 3) := by decide +kernel
theorem dX9_slot_18 : decode cX9_slot 18 = .ok (.ifCond .ne 7, 3) := by decide +kernel
theorem dX9_slot_21 : decode cX9_slot 21 = .ok (.iconst 1, 1) := by decide +kernel
theorem dX9_slot_22 : decode cX9_slot 22 = .ok (.goto 4, 3) := by decide +kernel
theorem dX9_slot_25 : decode cX9_slot 25 = .ok (.iconst 0, 1) := by decide +kernel
theorem dX9_slot_26 : decode cX9_slot 26 = .ok (.iconst 3, 1) := by decide +kernel
theorem dX9_slot_27 : decode cX9_slot 27 = .ok (.invokevirtual 40, 3) := by decide +kernel
theorem dX9_slot_30 : decode cX9_slot 30 = .ok (.ifCond .eq 5, 3) := by decide +kernel
theorem dX9_slot_33 : decode cX9_slot 33 = .ok (.iconst 0, 1) := by decide +kernel
theorem dX9_slot_34 : decode cX9_slot 34 = .ok (.ireturn, 1) := by decide +kernel
theorem dX9_slot_35 : decode cX9_slot 35 = .ok (.iload_n 2, 1) := by decide +kernel
theorem dX9_slot_36 : decode cX9_slot 36 = .ok (.iconst 5, 1) := by decide +kernel
theorem dX9_slot_37 : decode cX9_slot 37 = .ok (.if_icmp .ne 12, 3) := by decide +kernel
theorem dX9_slot_40 : decode cX9_slot 40 = .ok (.aload_n 0, 1) := by decide +kernel
theorem dX9_slot_41 : decode cX9_slot 41 = .ok (.iload_n 1, 1) := by decide +kernel
theorem dX9_slot_42 : decode cX9_slot 42 = .ok (.invokevirtual 70, 3) := by decide +kernel
theorem dX9_slot_45 : decode cX9_slot 45 = .ok (.invokestatic 113, 3) := by decide +kernel
theorem dX9_slot_48 : decode cX9_slot 48 = .ok (.ireturn, 1) := by decide +kernel
theorem dX9_slot_49 : decode cX9_slot 49 = .ok (.aload_n 0, 1) := by decide +kernel
theorem dX9_slot_50 : decode cX9_slot 50 = .ok (.iload_n 1, 1) := by decide +kernel
theorem dX9_slot_51 : decode cX9_slot 51 = .ok (.iload_n 2, 1) := by decide +kernel
theorem dX9_slot_52 : decode cX9_slot 52 = .ok (.iconst 5, 1) := by decide +kernel
theorem dX9_slot_53 : decode cX9_slot 53 = .ok (.if_icmp .ge 7, 3) := by decide +kernel
theorem dX9_slot_56 : decode cX9_slot 56 = .ok (.iload_n 2, 1) := by decide +kernel
theorem dX9_slot_57 : decode cX9_slot 57 = .ok (.goto 6, 3) := by decide +kernel
theorem dX9_slot_60 : decode cX9_slot 60 = .ok (.iload_n 2, 1) := by decide +kernel
theorem dX9_slot_61 : decode cX9_slot 61 = .ok (.iconst 1, 1) := by decide +kernel
theorem dX9_slot_62 : decode cX9_slot 62 = .ok (.isub, 1) := by decide +kernel
theorem dX9_slot_63 : decode cX9_slot 63 = .ok (.invokevirtual 56, 3) := by decide +kernel
theorem dX9_slot_66 : decode cX9_slot 66 = .ok (.ireturn, 1) := by decide +kernel
theorem dX9_image_0 : decode cX9_image 0 = .ok (.aload_n 0, 1) := by decide +kernel
theorem dX9_image_1 : decode cX9_image 1 = .ok (.iload_n 1, 1) := by decide +kernel
theorem dX9_image_2 : decode cX9_image 2 = .ok (.invokevirtual 260, 3) := by decide +kernel
theorem dX9_image_5 : decode cX9_image 5 = .ok (.ifCond .ne 28, 3) := by decide +kernel
theorem dX9_image_8 : decode cX9_image 8 = .ok (.aload_n 0, 1) := by decide +kernel
theorem dX9_image_9 : decode cX9_image 9 = .ok (.iload_n 2, 1) := by decide +kernel
theorem dX9_image_10 : decode cX9_image 10 = .ok (.i2l, 1) := by decide +kernel
theorem dX9_image_11 : decode cX9_image 11 = .ok (.lconst 0, 1) := by decide +kernel
theorem dX9_image_12 : decode cX9_image 12 = .ok (.ldc2_w 265, 3) := by decide +kernel
theorem dX9_image_15 : decode cX9_image 15 = .ok (.invokestatic 44, 3) := by decide +kernel
theorem dX9_image_18 : decode cX9_image 18 = .ok (.ifCond .ne 7, 3) := by decide +kernel
theorem dX9_image_21 : decode cX9_image 21 = .ok (.iconst 1, 1) := by decide +kernel
theorem dX9_image_22 : decode cX9_image 22 = .ok (.goto 4, 3) := by decide +kernel
theorem dX9_image_25 : decode cX9_image 25 = .ok (.iconst 0, 1) := by decide +kernel
theorem dX9_image_26 : decode cX9_image 26 = .ok (.iconst 3, 1) := by decide +kernel
theorem dX9_image_27 : decode cX9_image 27 = .ok (.invokevirtual 40, 3) := by decide +kernel
theorem dX9_image_30 : decode cX9_image 30 = .ok (.ifCond .eq 5, 3) := by decide +kernel
theorem dX9_image_33 : decode cX9_image 33 = .ok (.iconst 0, 1) := by decide +kernel
theorem dX9_image_34 : decode cX9_image 34 = .ok (.ireturn, 1) := by decide +kernel
theorem dX9_image_35 : decode cX9_image 35 = .ok (.aload_n 0, 1) := by decide +kernel
theorem dX9_image_36 : decode cX9_image 36 = .ok (.iload_n 1, 1) := by decide +kernel
theorem dX9_image_37 : decode cX9_image 37 = .ok (.invokevirtual 60, 3) := by decide +kernel
theorem dX9_image_40 : decode cX9_image 40 = .ok (.ifCond .eq 15, 3) := by decide +kernel
theorem dX9_image_43 : decode cX9_image 43 = .ok (.aload_n 0, 1) := by decide +kernel
theorem dX9_image_44 : decode cX9_image 44 = .ok (.iload_n 1, 1) := by decide +kernel
theorem dX9_image_45 : decode cX9_image 45 = .ok (.bipush 8, 2) := by decide +kernel
theorem dX9_image_47 : decode cX9_image 47 = .ok (.iload_n 2, 1) := by decide +kernel
theorem dX9_image_48 : decode cX9_image 48 = .ok (.iadd, 1) := by decide +kernel
theorem dX9_image_49 : decode cX9_image 49 = .ok (.invokevirtual 56, 3) := by decide +kernel
theorem dX9_image_52 : decode cX9_image 52 = .ok (.goto 4, 3) := by decide +kernel
theorem dX9_image_55 : decode cX9_image 55 = .ok (.iconst (-1), 1) := by decide +kernel
theorem dX9_image_56 : decode cX9_image 56 = .ok (.ireturn, 1) := by decide +kernel
theorem dX9_install_0 : decode cX9_install 0 = .ok (.aload_n 0, 1) := by decide +kernel
theorem dX9_install_1 : decode cX9_install 1 = .ok (.invokevirtual 48, 3) := by decide +kernel
theorem dX9_install_4 : decode cX9_install 4 = .ok (.ifCond .ne 28, 3) := by decide +kernel
theorem dX9_install_7 : decode cX9_install 7 = .ok (.aload_n 0, 1) := by decide +kernel
theorem dX9_install_8 : decode cX9_install 8 = .ok (.iload_n 1, 1) := by decide +kernel
theorem dX9_install_9 : decode cX9_install 9 = .ok (.i2l, 1) := by decide +kernel
theorem dX9_install_10 : decode cX9_install 10 = .ok (.lconst 0, 1) := by decide +kernel
theorem dX9_install_11 : decode cX9_install 11 = .ok (.ldc2_w 267, 3) := by decide +kernel
theorem dX9_install_14 : decode cX9_install 14 = .ok (.invokestatic 44, 3) := by decide +kernel
theorem dX9_install_17 : decode cX9_install 17 = .ok (.ifCond .ne 7, 3) := by decide +kernel
theorem dX9_install_20 : decode cX9_install 20 = .ok (.iconst 1, 1) := by decide +kernel
theorem dX9_install_21 : decode cX9_install 21 = .ok (.goto 4, 3) := by decide +kernel
theorem dX9_install_24 : decode cX9_install 24 = .ok (.iconst 0, 1) := by decide +kernel
theorem dX9_install_25 : decode cX9_install 25 = .ok (.iconst 2, 1) := by decide +kernel
theorem dX9_install_26 : decode cX9_install 26 = .ok (.invokevirtual 40, 3) := by decide +kernel
theorem dX9_install_29 : decode cX9_install 29 = .ok (.ifCond .eq 5, 3) := by decide +kernel
theorem dX9_install_32 : decode cX9_install 32 = .ok (.iconst 0, 1) := by decide +kernel
theorem dX9_install_33 : decode cX9_install 33 = .ok (.ireturn, 1) := by decide +kernel
theorem dX9_install_34 : decode cX9_install 34 = .ok (.aload_n 0, 1) := by decide +kernel
theorem dX9_install_35 : decode cX9_install 35 = .ok (.getfield 7, 3) := by decide +kernel
theorem dX9_install_38 : decode cX9_install 38 = .ok (.bipush 20, 2) := by decide +kernel
theorem dX9_install_40 : decode cX9_install 40 = .ok (.iload_n 1, 1) := by decide +kernel
theorem dX9_install_41 : decode cX9_install 41 = .ok (.iconst 3, 1) := by decide +kernel
theorem dX9_install_42 : decode cX9_install 42 = .ok (.if_icmp .ge 7, 3) := by decide +kernel
theorem dX9_install_45 : decode cX9_install 45 = .ok (.iload_n 1, 1) := by decide +kernel
theorem dX9_install_46 : decode cX9_install 46 = .ok (.goto 5, 3) := by decide +kernel
theorem dX9_install_49 : decode cX9_install 49 = .ok (.bipush 7, 2) := by decide +kernel
theorem dX9_install_51 : decode cX9_install 51 = .ok (.iadd, 1) := by decide +kernel
theorem dX9_install_52 : decode cX9_install 52 = .ok (.iaload, 1) := by decide +kernel
theorem dX9_install_53 : decode cX9_install 53 = .ok (.ireturn, 1) := by decide +kernel
theorem dX9_boot_0 : decode cX9_boot 0 = .ok (.aload_n 0, 1) := by decide +kernel
theorem dX9_boot_1 : decode cX9_boot 1 = .ok (.invokevirtual 48, 3) := by decide +kernel
theorem dX9_boot_4 : decode cX9_boot 4 = .ok (.ifCond .ne 28, 3) := by decide +kernel
theorem dX9_boot_7 : decode cX9_boot 7 = .ok (.aload_n 0, 1) := by decide +kernel
theorem dX9_boot_8 : decode cX9_boot 8 = .ok (.iload_n 2, 1) := by decide +kernel
theorem dX9_boot_9 : decode cX9_boot 9 = .ok (.i2l, 1) := by decide +kernel
theorem dX9_boot_10 : decode cX9_boot 10 = .ok (.lconst 0, 1) := by decide +kernel
theorem dX9_boot_11 : decode cX9_boot 11 = .ok (.ldc2_w 267, 3) := by decide +kernel
theorem dX9_boot_14 : decode cX9_boot 14 = .ok (.invokestatic 44, 3) := by decide +kernel
theorem dX9_boot_17 : decode cX9_boot 17 = .ok (.ifCond .ne 7, 3) := by decide +kernel
theorem dX9_boot_20 : decode cX9_boot 20 = .ok (.iconst 1, 1) := by decide +kernel
theorem dX9_boot_21 : decode cX9_boot 21 = .ok (.goto 4, 3) := by decide +kernel
theorem dX9_boot_24 : decode cX9_boot 24 = .ok (.iconst 0, 1) := by decide +kernel
theorem dX9_boot_25 : decode cX9_boot 25 = .ok (.iconst 2, 1) := by decide +kernel
theorem dX9_boot_26 : decode cX9_boot 26 = .ok (.invokevirtual 40, 3) := by decide +kernel
theorem dX9_boot_29 : decode cX9_boot 29 = .ok (.ifCond .eq 5, 3) := by decide +kernel
theorem dX9_boot_32 : decode cX9_boot 32 = .ok (.iconst 0, 1) := by decide +kernel
theorem dX9_boot_33 : decode cX9_boot 33 = .ok (.ireturn, 1) := by decide +kernel
theorem dX9_boot_34 : decode cX9_boot 34 = .ok (.iload_n 1, 1) := by decide +kernel
theorem dX9_boot_35 : decode cX9_boot 35 = .ok (.i2l, 1) := by decide +kernel
theorem dX9_boot_36 : decode cX9_boot 36 = .ok (.lconst 0, 1) := by decide +kernel
theorem dX9_boot_37 : decode cX9_boot 37 = .ok (.aload_n 0, 1) := by decide +kernel
theorem dX9_boot_38 : decode cX9_boot 38 = .ok (.getfield 7, 3) := by decide +kernel
theorem dX9_boot_41 : decode cX9_boot 41 = .ok (.bipush 28, 2) := by decide +kernel
theorem dX9_boot_43 : decode cX9_boot 43 = .ok (.iaload, 1) := by decide +kernel
theorem dX9_boot_44 : decode cX9_boot 44 = .ok (.iconst 1, 1) := by decide +kernel
theorem dX9_boot_45 : decode cX9_boot 45 = .ok (.isub, 1) := by decide +kernel
theorem dX9_boot_46 : decode cX9_boot 46 = .ok (.i2l, 1) := by decide +kernel
theorem dX9_boot_47 : decode cX9_boot 47 = .ok (.invokestatic 44, 3) := by decide +kernel
theorem dX9_boot_50 : decode cX9_boot 50 = .ok (.ifCond .eq 29, 3) := by decide +kernel
theorem dX9_boot_53 : decode cX9_boot 53 = .ok (.aload_n 0, 1) := by decide +kernel
theorem dX9_boot_54 : decode cX9_boot 54 = .ok (.getfield 7, 3) := by decide +kernel
theorem dX9_boot_57 : decode cX9_boot 57 = .ok (.bipush 29, 2) := by decide +kernel
theorem dX9_boot_59 : decode cX9_boot 59 = .ok (.iconst 4, 1) := by decide +kernel
theorem dX9_boot_60 : decode cX9_boot 60 = .ok (.aload_n 0, 1) := by decide +kernel
theorem dX9_boot_61 : decode cX9_boot 61 = .ok (.getfield 7, 3) := by decide +kernel
theorem dX9_boot_64 : decode cX9_boot 64 = .ok (.bipush 28, 2) := by decide +kernel
theorem dX9_boot_66 : decode cX9_boot 66 = .ok (.iaload, 1) := by decide +kernel
theorem dX9_boot_67 : decode cX9_boot 67 = .ok (.iconst 1, 1) := by decide +kernel
theorem dX9_boot_68 : decode cX9_boot 68 = .ok (.isub, 1) := by decide +kernel
theorem dX9_boot_69 : decode cX9_boot 69 = .ok (.iload_n 1, 1) := by decide +kernel
theorem dX9_boot_70 : decode cX9_boot 70 = .ok (.isub, 1) := by decide +kernel
theorem dX9_boot_71 : decode cX9_boot 71 = .ok (.imul, 1) := by decide +kernel
theorem dX9_boot_72 : decode cX9_boot 72 = .ok (.iadd, 1) := by decide +kernel
theorem dX9_boot_73 : decode cX9_boot 73 = .ok (.iload_n 2, 1) := by decide +kernel
theorem dX9_boot_74 : decode cX9_boot 74 = .ok (.iadd, 1) := by decide +kernel
theorem dX9_boot_75 : decode cX9_boot 75 = .ok (.iaload, 1) := by decide +kernel
theorem dX9_boot_76 : decode cX9_boot 76 = .ok (.goto 5, 3) := by decide +kernel
theorem dX9_boot_79 : decode cX9_boot 79 = .ok (.bipush (-2), 2) := by decide +kernel
theorem dX9_boot_81 : decode cX9_boot 81 = .ok (.ireturn, 1) := by decide +kernel
theorem dX9_whyNot_0 : decode cX9_whyNot 0 = .ok (.aload_n 0, 1) := by decide +kernel
theorem dX9_whyNot_1 : decode cX9_whyNot 1 = .ok (.iload_n 1, 1) := by decide +kernel
theorem dX9_whyNot_2 : decode cX9_whyNot 2 = .ok (.invokevirtual 260, 3) := by decide +kernel
theorem dX9_whyNot_5 : decode cX9_whyNot 5 = .ok (.ifCond .eq 7, 3) := by decide +kernel
theorem dX9_whyNot_8 : decode cX9_whyNot 8 = .ok (.iconst 0, 1) := by decide +kernel
theorem dX9_whyNot_9 : decode cX9_whyNot 9 = .ok (.goto 8, 3) := by decide +kernel
theorem dX9_whyNot_12 : decode cX9_whyNot 12 = .ok (.aload_n 0, 1) := by decide +kernel
theorem dX9_whyNot_13 : decode cX9_whyNot 13 = .ok (.iload_n 1, 1) := by decide +kernel
theorem dX9_whyNot_14 : decode cX9_whyNot 14 = .ok (.invokevirtual 66, 3) := by decide +kernel
theorem dX9_whyNot_17 : decode cX9_whyNot 17 = .ok (.ireturn, 1) := by decide +kernel
theorem dX9_choice_0 : decode cX9_choice 0 = .ok (.aload_n 0, 1) := by decide +kernel
theorem dX9_choice_1 : decode cX9_choice 1 = .ok (.invokevirtual 48, 3) := by decide +kernel
theorem dX9_choice_4 : decode cX9_choice 4 = .ok (.ifCond .eq 7, 3) := by decide +kernel
theorem dX9_choice_7 : decode cX9_choice 7 = .ok (.iconst 0, 1) := by decide +kernel
theorem dX9_choice_8 : decode cX9_choice 8 = .ok (.goto 7, 3) := by decide +kernel
theorem dX9_choice_11 : decode cX9_choice 11 = .ok (.aload_n 0, 1) := by decide +kernel
theorem dX9_choice_12 : decode cX9_choice 12 = .ok (.invokevirtual 81, 3) := by decide +kernel
theorem dX9_choice_15 : decode cX9_choice 15 = .ok (.ireturn, 1) := by decide +kernel
theorem dX9_placeOf_0 : decode cX9_placeOf 0 = .ok (.iconst 0, 1) := by decide +kernel
theorem dX9_placeOf_1 : decode cX9_placeOf 1 = .ok (.istore_n 2, 1) := by decide +kernel
theorem dX9_placeOf_2 : decode cX9_placeOf 2 = .ok (.iconst 0, 1) := by decide +kernel
theorem dX9_placeOf_3 : decode cX9_placeOf 3 = .ok (.istore_n 3, 1) := by decide +kernel
theorem dX9_placeOf_4 : decode cX9_placeOf 4 = .ok (.iload_n 3, 1) := by decide +kernel
theorem dX9_placeOf_5 : decode cX9_placeOf 5 = .ok (.aload_n 0, 1) := by decide +kernel
theorem dX9_placeOf_6 : decode cX9_placeOf 6 = .ok (.getfield 7, 3) := by decide +kernel
theorem dX9_placeOf_9 : decode cX9_placeOf 9 = .ok (.iconst 0, 1) := by decide +kernel
theorem dX9_placeOf_10 : decode cX9_placeOf 10 = .ok (.iaload, 1) := by decide +kernel
theorem dX9_placeOf_11 : decode cX9_placeOf 11 = .ok (.if_icmp .ge 42, 3) := by decide +kernel
theorem dX9_placeOf_14 : decode cX9_placeOf 14 = .ok (.iload_n 2, 1) := by decide +kernel
theorem dX9_placeOf_15 : decode cX9_placeOf 15 = .ok (.iload_n 3, 1) := by decide +kernel
theorem dX9_placeOf_16 : decode cX9_placeOf 16 = .ok (.iload_n 1, 1) := by decide +kernel
theorem dX9_placeOf_17 : decode cX9_placeOf 17 = .ok (.if_icmp .eq 24, 3) := by decide +kernel
theorem dX9_placeOf_20 : decode cX9_placeOf 20 = .ok (.aload_n 0, 1) := by decide +kernel
theorem dX9_placeOf_21 : decode cX9_placeOf 21 = .ok (.iload_n 3, 1) := by decide +kernel
theorem dX9_placeOf_22 : decode cX9_placeOf 22 = .ok (.invokevirtual 70, 3) := by decide +kernel
theorem dX9_placeOf_25 : decode cX9_placeOf 25 = .ok (.ifCond .eq 16, 3) := by decide +kernel
theorem dX9_placeOf_28 : decode cX9_placeOf 28 = .ok (.aload_n 0, 1) := by decide +kernel
theorem dX9_placeOf_29 : decode cX9_placeOf 29 = .ok (.iload_n 3, 1) := by decide +kernel
theorem dX9_placeOf_30 : decode cX9_placeOf 30 = .ok (.iload_n 1, 1) := by decide +kernel
theorem dX9_placeOf_31 : decode cX9_placeOf 31 = .ok (.invokevirtual 73, 3) := by decide +kernel
theorem dX9_placeOf_34 : decode cX9_placeOf 34 = .ok (.ifCond .eq 7, 3) := by decide +kernel
theorem dX9_placeOf_37 : decode cX9_placeOf 37 = .ok (.iconst 1, 1) := by decide +kernel
theorem dX9_placeOf_38 : decode cX9_placeOf 38 = .ok (.goto 4, 3) := by decide +kernel
theorem dX9_placeOf_41 : decode cX9_placeOf 41 = .ok (.iconst 0, 1) := by decide +kernel
theorem dX9_placeOf_42 : decode cX9_placeOf 42 = .ok (.invokestatic 113, 3) := by decide +kernel
theorem dX9_placeOf_45 : decode cX9_placeOf 45 = .ok (.iadd, 1) := by decide +kernel
theorem dX9_placeOf_46 : decode cX9_placeOf 46 = .ok (.istore_n 2, 1) := by decide +kernel
theorem dX9_placeOf_47 : decode cX9_placeOf 47 = .ok (.iinc 3 1, 3) := by decide +kernel
theorem dX9_placeOf_50 : decode cX9_placeOf 50 = .ok (.goto (-46), 3) := by decide +kernel
theorem dX9_placeOf_53 : decode cX9_placeOf 53 = .ok (.iload_n 2, 1) := by decide +kernel
theorem dX9_placeOf_54 : decode cX9_placeOf 54 = .ok (.ireturn, 1) := by decide +kernel
theorem dX9_place_0 : decode cX9_place 0 = .ok (.aload_n 0, 1) := by decide +kernel
theorem dX9_place_1 : decode cX9_place 1 = .ok (.iload_n 1, 1) := by decide +kernel
theorem dX9_place_2 : decode cX9_place 2 = .ok (.invokevirtual 260, 3) := by decide +kernel
theorem dX9_place_5 : decode cX9_place 5 = .ok (.ifCond .eq 5, 3) := by decide +kernel
theorem dX9_place_8 : decode cX9_place 8 = .ok (.iconst 0, 1) := by decide +kernel
theorem dX9_place_9 : decode cX9_place 9 = .ok (.ireturn, 1) := by decide +kernel
theorem dX9_place_10 : decode cX9_place 10 = .ok (.aload_n 0, 1) := by decide +kernel
theorem dX9_place_11 : decode cX9_place 11 = .ok (.iload_n 1, 1) := by decide +kernel
theorem dX9_place_12 : decode cX9_place 12 = .ok (.invokevirtual 70, 3) := by decide +kernel
theorem dX9_place_15 : decode cX9_place 15 = .ok (.ifCond .eq 11, 3) := by decide +kernel
theorem dX9_place_18 : decode cX9_place 18 = .ok (.aload_n 0, 1) := by decide +kernel
theorem dX9_place_19 : decode cX9_place 19 = .ok (.iload_n 1, 1) := by decide +kernel
theorem dX9_place_20 : decode cX9_place 20 = .ok (.invokevirtual 269, 3) := by decide +kernel
theorem dX9_place_23 : decode cX9_place 23 = .ok (.goto 4, 3) := by decide +kernel
theorem dX9_place_26 : decode cX9_place 26 = .ok (.iconst (-1), 1) := by decide +kernel
theorem dX9_place_27 : decode cX9_place 27 = .ok (.ireturn, 1) := by decide +kernel
theorem dX9_newest_0 : decode cX9_newest 0 = .ok (.aload_n 0, 1) := by decide +kernel
theorem dX9_newest_1 : decode cX9_newest 1 = .ok (.invokevirtual 48, 3) := by decide +kernel
theorem dX9_newest_4 : decode cX9_newest 4 = .ok (.ifCond .eq 5, 3) := by decide +kernel
theorem dX9_newest_7 : decode cX9_newest 7 = .ok (.iconst 0, 1) := by decide +kernel
theorem dX9_newest_8 : decode cX9_newest 8 = .ok (.ireturn, 1) := by decide +kernel
theorem dX9_newest_9 : decode cX9_newest 9 = .ok (.iconst (-1), 1) := by decide +kernel
theorem dX9_newest_10 : decode cX9_newest 10 = .ok (.istore_n 1, 1) := by decide +kernel
theorem dX9_newest_11 : decode cX9_newest 11 = .ok (.iconst 0, 1) := by decide +kernel
theorem dX9_newest_12 : decode cX9_newest 12 = .ok (.istore_n 2, 1) := by decide +kernel
theorem dX9_newest_13 : decode cX9_newest 13 = .ok (.iload_n 2, 1) := by decide +kernel
theorem dX9_newest_14 : decode cX9_newest 14 = .ok (.aload_n 0, 1) := by decide +kernel
theorem dX9_newest_15 : decode cX9_newest 15 = .ok (.getfield 7, 3) := by decide +kernel
theorem dX9_newest_18 : decode cX9_newest 18 = .ok (.iconst 0, 1) := by decide +kernel
theorem dX9_newest_19 : decode cX9_newest 19 = .ok (.iaload, 1) := by decide +kernel
theorem dX9_newest_20 : decode cX9_newest 20 = .ok (.if_icmp .ge 41, 3) := by decide +kernel
theorem dX9_newest_23 : decode cX9_newest 23 = .ok (.aload_n 0, 1) := by decide +kernel
theorem dX9_newest_24 : decode cX9_newest 24 = .ok (.iload_n 2, 1) := by decide +kernel
theorem dX9_newest_25 : decode cX9_newest 25 = .ok (.invokevirtual 60, 3) := by decide +kernel
theorem dX9_newest_28 : decode cX9_newest 28 = .ok (.ifCond .eq 27, 3) := by decide +kernel
theorem dX9_newest_31 : decode cX9_newest 31 = .ok (.iload_n 1, 1) := by decide +kernel
theorem dX9_newest_32 : decode cX9_newest 32 = .ok (.iconst (-1), 1) := by decide +kernel
theorem dX9_newest_33 : decode cX9_newest 33 = .ok (.if_icmp .eq 20, 3) := by decide +kernel
theorem dX9_newest_36 : decode cX9_newest 36 = .ok (.aload_n 0, 1) := by decide +kernel
theorem dX9_newest_37 : decode cX9_newest 37 = .ok (.iload_n 2, 1) := by decide +kernel
theorem dX9_newest_38 : decode cX9_newest 38 = .ok (.bipush 8, 2) := by decide +kernel
theorem dX9_newest_40 : decode cX9_newest 40 = .ok (.invokevirtual 56, 3) := by decide +kernel
theorem dX9_newest_43 : decode cX9_newest 43 = .ok (.aload_n 0, 1) := by decide +kernel
theorem dX9_newest_44 : decode cX9_newest 44 = .ok (.iload_n 1, 1) := by decide +kernel
theorem dX9_newest_45 : decode cX9_newest 45 = .ok (.bipush 8, 2) := by decide +kernel
theorem dX9_newest_47 : decode cX9_newest 47 = .ok (.invokevirtual 56, 3) := by decide +kernel
theorem dX9_newest_50 : decode cX9_newest 50 = .ok (.if_icmp .le 5, 3) := by decide +kernel
theorem dX9_newest_53 : decode cX9_newest 53 = .ok (.iload_n 2, 1) := by decide +kernel
theorem dX9_newest_54 : decode cX9_newest 54 = .ok (.istore_n 1, 1) := by decide +kernel
theorem dX9_newest_55 : decode cX9_newest 55 = .ok (.iinc 2 1, 3) := by decide +kernel
theorem dX9_newest_58 : decode cX9_newest 58 = .ok (.goto (-45), 3) := by decide +kernel
theorem dX9_newest_61 : decode cX9_newest 61 = .ok (.iload_n 1, 1) := by decide +kernel
theorem dX9_newest_62 : decode cX9_newest 62 = .ok (.ireturn, 1) := by decide +kernel
theorem dX9_hurt_0 : decode cX9_hurt 0 = .ok (.aload_n 0, 1) := by decide +kernel
theorem dX9_hurt_1 : decode cX9_hurt 1 = .ok (.iload_n 1, 1) := by decide +kernel
theorem dX9_hurt_2 : decode cX9_hurt 2 = .ok (.invokevirtual 60, 3) := by decide +kernel
theorem dX9_hurt_5 : decode cX9_hurt 5 = .ok (.ifCond .ne 7, 3) := by decide +kernel
theorem dX9_hurt_8 : decode cX9_hurt 8 = .ok (.iconst 0, 1) := by decide +kernel
theorem dX9_hurt_9 : decode cX9_hurt 9 = .ok (.goto 23, 3) := by decide +kernel
theorem dX9_hurt_12 : decode cX9_hurt 12 = .ok (.aload_n 0, 1) := by decide +kernel
theorem dX9_hurt_13 : decode cX9_hurt 13 = .ok (.iload_n 1, 1) := by decide +kernel
theorem dX9_hurt_14 : decode cX9_hurt 14 = .ok (.invokevirtual 70, 3) := by decide +kernel
theorem dX9_hurt_17 : decode cX9_hurt 17 = .ok (.ifCond .ne 7, 3) := by decide +kernel
theorem dX9_hurt_20 : decode cX9_hurt 20 = .ok (.iconst 1, 1) := by decide +kernel
theorem dX9_hurt_21 : decode cX9_hurt 21 = .ok (.goto 11, 3) := by decide +kernel
theorem dX9_hurt_24 : decode cX9_hurt 24 = .ok (.bipush 8, 2) := by decide +kernel
theorem dX9_hurt_26 : decode cX9_hurt 26 = .ok (.aload_n 0, 1) := by decide +kernel
theorem dX9_hurt_27 : decode cX9_hurt 27 = .ok (.iload_n 1, 1) := by decide +kernel
theorem dX9_hurt_28 : decode cX9_hurt 28 = .ok (.invokevirtual 269, 3) := by decide +kernel
theorem dX9_hurt_31 : decode cX9_hurt 31 = .ok (.isub, 1) := by decide +kernel
theorem dX9_hurt_32 : decode cX9_hurt 32 = .ok (.ireturn, 1) := by decide +kernel
theorem dX9_spare_0 : decode cX9_spare 0 = .ok (.aload_n 0, 1) := by decide +kernel
theorem dX9_spare_1 : decode cX9_spare 1 = .ok (.invokevirtual 48, 3) := by decide +kernel
theorem dX9_spare_4 : decode cX9_spare 4 = .ok (.ifCond .eq 5, 3) := by decide +kernel
theorem dX9_spare_7 : decode cX9_spare 7 = .ok (.iconst 0, 1) := by decide +kernel
theorem dX9_spare_8 : decode cX9_spare 8 = .ok (.ireturn, 1) := by decide +kernel
theorem dX9_spare_9 : decode cX9_spare 9 = .ok (.iconst (-1), 1) := by decide +kernel
theorem dX9_spare_10 : decode cX9_spare 10 = .ok (.istore_n 1, 1) := by decide +kernel
theorem dX9_spare_11 : decode cX9_spare 11 = .ok (.iconst 0, 1) := by decide +kernel
theorem dX9_spare_12 : decode cX9_spare 12 = .ok (.istore_n 2, 1) := by decide +kernel
theorem dX9_spare_13 : decode cX9_spare 13 = .ok (.iload_n 2, 1) := by decide +kernel
theorem dX9_spare_14 : decode cX9_spare 14 = .ok (.aload_n 0, 1) := by decide +kernel
theorem dX9_spare_15 : decode cX9_spare 15 = .ok (.getfield 7, 3) := by decide +kernel
theorem dX9_spare_18 : decode cX9_spare 18 = .ok (.iconst 0, 1) := by decide +kernel
theorem dX9_spare_19 : decode cX9_spare 19 = .ok (.iaload, 1) := by decide +kernel
theorem dX9_spare_20 : decode cX9_spare 20 = .ok (.if_icmp .ge 48, 3) := by decide +kernel
theorem dX9_spare_23 : decode cX9_spare 23 = .ok (.aload_n 0, 1) := by decide +kernel
theorem dX9_spare_24 : decode cX9_spare 24 = .ok (.iload_n 2, 1) := by decide +kernel
theorem dX9_spare_25 : decode cX9_spare 25 = .ok (.invokevirtual 272, 3) := by decide +kernel
theorem dX9_spare_28 : decode cX9_spare 28 = .ok (.ifCond .ne 34, 3) := by decide +kernel
theorem dX9_spare_31 : decode cX9_spare 31 = .ok (.aload_n 0, 1) := by decide +kernel
theorem dX9_spare_32 : decode cX9_spare 32 = .ok (.getfield 7, 3) := by decide +kernel
theorem dX9_spare_35 : decode cX9_spare 35 = .ok (.bipush 20, 2) := by decide +kernel
theorem dX9_spare_37 : decode cX9_spare 37 = .ok (.iaload, 1) := by decide +kernel
theorem dX9_spare_38 : decode cX9_spare 38 = .ok (.iload_n 2, 1) := by decide +kernel
theorem dX9_spare_39 : decode cX9_spare 39 = .ok (.if_icmp .eq 23, 3) := by decide +kernel
theorem dX9_spare_42 : decode cX9_spare 42 = .ok (.iload_n 1, 1) := by decide +kernel
theorem dX9_spare_43 : decode cX9_spare 43 = .ok (.iconst (-1), 1) := by decide +kernel
theorem dX9_spare_44 : decode cX9_spare 44 = .ok (.if_icmp .eq 16, 3) := by decide +kernel
theorem dX9_spare_47 : decode cX9_spare 47 = .ok (.aload_n 0, 1) := by decide +kernel
theorem dX9_spare_48 : decode cX9_spare 48 = .ok (.iload_n 2, 1) := by decide +kernel
theorem dX9_spare_49 : decode cX9_spare 49 = .ok (.invokevirtual 275, 3) := by decide +kernel
theorem dX9_spare_52 : decode cX9_spare 52 = .ok (.aload_n 0, 1) := by decide +kernel
theorem dX9_spare_53 : decode cX9_spare 53 = .ok (.iload_n 1, 1) := by decide +kernel
theorem dX9_spare_54 : decode cX9_spare 54 = .ok (.invokevirtual 275, 3) := by decide +kernel
theorem dX9_spare_57 : decode cX9_spare 57 = .ok (.if_icmp .ge 5, 3) := by decide +kernel
theorem dX9_spare_60 : decode cX9_spare 60 = .ok (.iload_n 2, 1) := by decide +kernel
theorem dX9_spare_61 : decode cX9_spare 61 = .ok (.istore_n 1, 1) := by decide +kernel
theorem dX9_spare_62 : decode cX9_spare 62 = .ok (.iinc 2 1, 3) := by decide +kernel
theorem dX9_spare_65 : decode cX9_spare 65 = .ok (.goto (-52), 3) := by decide +kernel
theorem dX9_spare_68 : decode cX9_spare 68 = .ok (.iload_n 1, 1) := by decide +kernel
theorem dX9_spare_69 : decode cX9_spare 69 = .ok (.ireturn, 1) := by decide +kernel
theorem dX9_sinking_0 : decode cX9_sinking 0 = .ok (.aload_n 0, 1) := by decide +kernel
theorem dX9_sinking_1 : decode cX9_sinking 1 = .ok (.invokevirtual 48, 3) := by decide +kernel
theorem dX9_sinking_4 : decode cX9_sinking 4 = .ok (.ifCond .eq 5, 3) := by decide +kernel
theorem dX9_sinking_7 : decode cX9_sinking 7 = .ok (.iconst 0, 1) := by decide +kernel
theorem dX9_sinking_8 : decode cX9_sinking 8 = .ok (.ireturn, 1) := by decide +kernel
theorem dX9_sinking_9 : decode cX9_sinking 9 = .ok (.iconst 0, 1) := by decide +kernel
theorem dX9_sinking_10 : decode cX9_sinking 10 = .ok (.istore_n 1, 1) := by decide +kernel
theorem dX9_sinking_11 : decode cX9_sinking 11 = .ok (.iconst 0, 1) := by decide +kernel
theorem dX9_sinking_12 : decode cX9_sinking 12 = .ok (.istore_n 2, 1) := by decide +kernel
theorem dX9_sinking_13 : decode cX9_sinking 13 = .ok (.iload_n 2, 1) := by decide +kernel
theorem dX9_sinking_14 : decode cX9_sinking 14 = .ok (.aload_n 0, 1) := by decide +kernel
theorem dX9_sinking_15 : decode cX9_sinking 15 = .ok (.getfield 7, 3) := by decide +kernel
theorem dX9_sinking_18 : decode cX9_sinking 18 = .ok (.iconst 0, 1) := by decide +kernel
theorem dX9_sinking_19 : decode cX9_sinking 19 = .ok (.iaload, 1) := by decide +kernel
theorem dX9_sinking_20 : decode cX9_sinking 20 = .ok (.if_icmp .ge 46, 3) := by decide +kernel
theorem dX9_sinking_23 : decode cX9_sinking 23 = .ok (.iload_n 1, 1) := by decide +kernel
theorem dX9_sinking_24 : decode cX9_sinking 24 = .ok (.aload_n 0, 1) := by decide +kernel
theorem dX9_sinking_25 : decode cX9_sinking 25 = .ok (.iload_n 2, 1) := by decide +kernel
theorem dX9_sinking_26 : decode cX9_sinking 26 = .ok (.invokevirtual 60, 3) := by decide +kernel
theorem dX9_sinking_29 : decode cX9_sinking 29 = .ok (.ifCond .eq 23, 3) := by decide +kernel
theorem dX9_sinking_32 : decode cX9_sinking 32 = .ok (.aload_n 0, 1) := by decide +kernel
theorem dX9_sinking_33 : decode cX9_sinking 33 = .ok (.iload_n 2, 1) := by decide +kernel
theorem dX9_sinking_34 : decode cX9_sinking 34 = .ok (.bipush 8, 2) := by decide +kernel
theorem dX9_sinking_36 : decode cX9_sinking 36 = .ok (.invokevirtual 56, 3) := by decide +kernel
theorem dX9_sinking_39 : decode cX9_sinking 39 = .ok (.aload_n 0, 1) := by decide +kernel
theorem dX9_sinking_40 : decode cX9_sinking 40 = .ok (.getfield 7, 3) := by decide +kernel
theorem dX9_sinking_43 : decode cX9_sinking 43 = .ok (.iconst 5, 1) := by decide +kernel
theorem dX9_sinking_44 : decode cX9_sinking 44 = .ok (.iaload, 1) := by decide +kernel
theorem dX9_sinking_45 : decode cX9_sinking 45 = .ok (.if_icmp .ge 7, 3) := by decide +kernel
theorem dX9_sinking_48 : decode cX9_sinking 48 = .ok (.iconst 1, 1) := by decide +kernel
theorem dX9_sinking_49 : decode cX9_sinking 49 = .ok (.goto 4, 3) := by decide +kernel
theorem dX9_sinking_52 : decode cX9_sinking 52 = .ok (.iconst 0, 1) := by decide +kernel
theorem dX9_sinking_53 : decode cX9_sinking 53 = .ok (.invokestatic 113, 3) := by decide +kernel
theorem dX9_sinking_56 : decode cX9_sinking 56 = .ok (.iload_n 2, 1) := by decide +kernel
theorem dX9_sinking_57 : decode cX9_sinking 57 = .ok (.ishl, 1) := by decide +kernel
theorem dX9_sinking_58 : decode cX9_sinking 58 = .ok (.ior, 1) := by decide +kernel
theorem dX9_sinking_59 : decode cX9_sinking 59 = .ok (.istore_n 1, 1) := by decide +kernel
theorem dX9_sinking_60 : decode cX9_sinking 60 = .ok (.iinc 2 1, 3) := by decide +kernel
theorem dX9_sinking_63 : decode cX9_sinking 63 = .ok (.goto (-50), 3) := by decide +kernel
theorem dX9_sinking_66 : decode cX9_sinking 66 = .ok (.iload_n 1, 1) := by decide +kernel
theorem dX9_sinking_67 : decode cX9_sinking 67 = .ok (.ireturn, 1) := by decide +kernel
theorem dX9_floorWith_0 : decode cX9_floorWith 0 = .ok (.aload_n 0, 1) := by decide +kernel
theorem dX9_floorWith_1 : decode cX9_floorWith 1 = .ok (.iload_n 1, 1) := by decide +kernel
theorem dX9_floorWith_2 : decode cX9_floorWith 2 = .ok (.invokevirtual 260, 3) := by decide +kernel
theorem dX9_floorWith_5 : decode cX9_floorWith 5 = .ok (.ifCond .eq 5, 3) := by decide +kernel
theorem dX9_floorWith_8 : decode cX9_floorWith 8 = .ok (.iconst 0, 1) := by decide +kernel
theorem dX9_floorWith_9 : decode cX9_floorWith 9 = .ok (.ireturn, 1) := by decide +kernel
theorem dX9_floorWith_10 : decode cX9_floorWith 10 = .ok (.aload_n 0, 1) := by decide +kernel
theorem dX9_floorWith_11 : decode cX9_floorWith 11 = .ok (.iload_n 1, 1) := by decide +kernel
theorem dX9_floorWith_12 : decode cX9_floorWith 12 = .ok (.invokevirtual 60, 3) := by decide +kernel
theorem dX9_floorWith_15 : decode cX9_floorWith 15 = .ok (.ifCond .eq 20, 3) := by decide +kernel
theorem dX9_floorWith_18 : decode cX9_floorWith 18 = .ok (.aload_n 0, 1) := by decide +kernel
theorem dX9_floorWith_19 : decode cX9_floorWith 19 = .ok (.getfield 7, 3) := by decide +kernel
theorem dX9_floorWith_22 : decode cX9_floorWith 22 = .ok (.iconst 5, 1) := by decide +kernel
theorem dX9_floorWith_23 : decode cX9_floorWith 23 = .ok (.iaload, 1) := by decide +kernel
theorem dX9_floorWith_24 : decode cX9_floorWith 24 = .ok (.aload_n 0, 1) := by decide +kernel
theorem dX9_floorWith_25 : decode cX9_floorWith 25 = .ok (.iload_n 1, 1) := by decide +kernel
theorem dX9_floorWith_26 : decode cX9_floorWith 26 = .ok (.invokevirtual 95, 3) := by decide +kernel
theorem dX9_floorWith_29 : decode cX9_floorWith 29 = .ok (.invokestatic 98, 3) := by decide +kernel
theorem dX9_floorWith_32 : decode cX9_floorWith 32 = .ok (.goto 9, 3) := by decide +kernel
theorem dX9_floorWith_35 : decode cX9_floorWith 35 = .ok (.aload_n 0, 1) := by decide +kernel
theorem dX9_floorWith_36 : decode cX9_floorWith 36 = .ok (.getfield 7, 3) := by decide +kernel
theorem dX9_floorWith_39 : decode cX9_floorWith 39 = .ok (.iconst 5, 1) := by decide +kernel
theorem dX9_floorWith_40 : decode cX9_floorWith 40 = .ok (.iaload, 1) := by decide +kernel
theorem dX9_floorWith_41 : decode cX9_floorWith 41 = .ok (.ireturn, 1) := by decide +kernel
theorem dX9_mayHold_0 : decode cX9_mayHold 0 = .ok (.aload_n 0, 1) := by decide +kernel
theorem dX9_mayHold_1 : decode cX9_mayHold 1 = .ok (.iload_n 1, 1) := by decide +kernel
theorem dX9_mayHold_2 : decode cX9_mayHold 2 = .ok (.invokevirtual 260, 3) := by decide +kernel
theorem dX9_mayHold_5 : decode cX9_mayHold 5 = .ok (.ifCond .ne 11, 3) := by decide +kernel
theorem dX9_mayHold_8 : decode cX9_mayHold 8 = .ok (.aload_n 0, 1) := by decide +kernel
theorem dX9_mayHold_9 : decode cX9_mayHold 9 = .ok (.iload_n 1, 1) := by decide +kernel
theorem dX9_mayHold_10 : decode cX9_mayHold 10 = .ok (.invokevirtual 60, 3) := by decide +kernel
theorem dX9_mayHold_13 : decode cX9_mayHold 13 = .ok (.ifCond .ne 5, 3) := by decide +kernel
theorem dX9_mayHold_16 : decode cX9_mayHold 16 = .ok (.iconst 0, 1) := by decide +kernel
theorem dX9_mayHold_17 : decode cX9_mayHold 17 = .ok (.ireturn, 1) := by decide +kernel
theorem dX9_mayHold_18 : decode cX9_mayHold 18 = .ok (.aload_n 0, 1) := by decide +kernel
theorem dX9_mayHold_19 : decode cX9_mayHold 19 = .ok (.iload_n 1, 1) := by decide +kernel
theorem dX9_mayHold_20 : decode cX9_mayHold 20 = .ok (.bipush 10, 2) := by decide +kernel
theorem dX9_mayHold_22 : decode cX9_mayHold 22 = .ok (.invokevirtual 56, 3) := by decide +kernel
theorem dX9_mayHold_25 : decode cX9_mayHold 25 = .ok (.ifCond .eq 20, 3) := by decide +kernel
theorem dX9_mayHold_28 : decode cX9_mayHold 28 = .ok (.aload_n 0, 1) := by decide +kernel
theorem dX9_mayHold_29 : decode cX9_mayHold 29 = .ok (.iload_n 1, 1) := by decide +kernel
theorem dX9_mayHold_30 : decode cX9_mayHold 30 = .ok (.bipush 10, 2) := by decide +kernel
theorem dX9_mayHold_32 : decode cX9_mayHold 32 = .ok (.invokevirtual 56, 3) := by decide +kernel
theorem dX9_mayHold_35 : decode cX9_mayHold 35 = .ok (.aload_n 0, 1) := by decide +kernel
theorem dX9_mayHold_36 : decode cX9_mayHold 36 = .ok (.iload_n 1, 1) := by decide +kernel
theorem dX9_mayHold_37 : decode cX9_mayHold 37 = .ok (.bipush 9, 2) := by decide +kernel
theorem dX9_mayHold_39 : decode cX9_mayHold 39 = .ok (.invokevirtual 56, 3) := by decide +kernel
theorem dX9_mayHold_42 : decode cX9_mayHold 42 = .ok (.if_icmp .le 31, 3) := by decide +kernel
theorem dX9_mayHold_45 : decode cX9_mayHold 45 = .ok (.aload_n 0, 1) := by decide +kernel
theorem dX9_mayHold_46 : decode cX9_mayHold 46 = .ok (.iload_n 1, 1) := by decide +kernel
theorem dX9_mayHold_47 : decode cX9_mayHold 47 = .ok (.invokevirtual 63, 3) := by decide +kernel
theorem dX9_mayHold_50 : decode cX9_mayHold 50 = .ok (.ifCond .ne 19, 3) := by decide +kernel
theorem dX9_mayHold_53 : decode cX9_mayHold 53 = .ok (.aload_n 0, 1) := by decide +kernel
theorem dX9_mayHold_54 : decode cX9_mayHold 54 = .ok (.iload_n 1, 1) := by decide +kernel
theorem dX9_mayHold_55 : decode cX9_mayHold 55 = .ok (.bipush 9, 2) := by decide +kernel
theorem dX9_mayHold_57 : decode cX9_mayHold 57 = .ok (.invokevirtual 56, 3) := by decide +kernel
theorem dX9_mayHold_60 : decode cX9_mayHold 60 = .ok (.aload_n 0, 1) := by decide +kernel
theorem dX9_mayHold_61 : decode cX9_mayHold 61 = .ok (.getfield 7, 3) := by decide +kernel
theorem dX9_mayHold_64 : decode cX9_mayHold 64 = .ok (.iconst 2, 1) := by decide +kernel
theorem dX9_mayHold_65 : decode cX9_mayHold 65 = .ok (.iaload, 1) := by decide +kernel
theorem dX9_mayHold_66 : decode cX9_mayHold 66 = .ok (.if_icmp .gt 7, 3) := by decide +kernel
theorem dX9_mayHold_69 : decode cX9_mayHold 69 = .ok (.iconst 1, 1) := by decide +kernel
theorem dX9_mayHold_70 : decode cX9_mayHold 70 = .ok (.goto 4, 3) := by decide +kernel
theorem dX9_mayHold_73 : decode cX9_mayHold 73 = .ok (.iconst 0, 1) := by decide +kernel
theorem dX9_mayHold_74 : decode cX9_mayHold 74 = .ok (.ireturn, 1) := by decide +kernel
theorem dX9_mostBoots_0 : decode cX9_mostBoots 0 = .ok (.aload_n 0, 1) := by decide +kernel
theorem dX9_mostBoots_1 : decode cX9_mostBoots 1 = .ok (.invokevirtual 48, 3) := by decide +kernel
theorem dX9_mostBoots_4 : decode cX9_mostBoots 4 = .ok (.ifCond .eq 5, 3) := by decide +kernel
theorem dX9_mostBoots_7 : decode cX9_mostBoots 7 = .ok (.iconst 0, 1) := by decide +kernel
theorem dX9_mostBoots_8 : decode cX9_mostBoots 8 = .ok (.ireturn, 1) := by decide +kernel
theorem dX9_mostBoots_9 : decode cX9_mostBoots 9 = .ok (.iconst 0, 1) := by decide +kernel
theorem dX9_mostBoots_10 : decode cX9_mostBoots 10 = .ok (.istore_n 1, 1) := by decide +kernel
theorem dX9_mostBoots_11 : decode cX9_mostBoots 11 = .ok (.iconst 0, 1) := by decide +kernel
theorem dX9_mostBoots_12 : decode cX9_mostBoots 12 = .ok (.istore_n 2, 1) := by decide +kernel
theorem dX9_mostBoots_13 : decode cX9_mostBoots 13 = .ok (.iload_n 2, 1) := by decide +kernel
theorem dX9_mostBoots_14 : decode cX9_mostBoots 14 = .ok (.aload_n 0, 1) := by decide +kernel
theorem dX9_mostBoots_15 : decode cX9_mostBoots 15 = .ok (.getfield 7, 3) := by decide +kernel
theorem dX9_mostBoots_18 : decode cX9_mostBoots 18 = .ok (.iconst 0, 1) := by decide +kernel
theorem dX9_mostBoots_19 : decode cX9_mostBoots 19 = .ok (.iaload, 1) := by decide +kernel
theorem dX9_mostBoots_20 : decode cX9_mostBoots 20 = .ok (.if_icmp .ge 30, 3) := by decide +kernel
theorem dX9_mostBoots_23 : decode cX9_mostBoots 23 = .ok (.iload_n 1, 1) := by decide +kernel
theorem dX9_mostBoots_24 : decode cX9_mostBoots 24 = .ok (.aload_n 0, 1) := by decide +kernel
theorem dX9_mostBoots_25 : decode cX9_mostBoots 25 = .ok (.iload_n 2, 1) := by decide +kernel
theorem dX9_mostBoots_26 : decode cX9_mostBoots 26 = .ok (.invokevirtual 70, 3) := by decide +kernel
theorem dX9_mostBoots_29 : decode cX9_mostBoots 29 = .ok (.ifCond .eq 12, 3) := by decide +kernel
theorem dX9_mostBoots_32 : decode cX9_mostBoots 32 = .ok (.aload_n 0, 1) := by decide +kernel
theorem dX9_mostBoots_33 : decode cX9_mostBoots 33 = .ok (.iload_n 2, 1) := by decide +kernel
theorem dX9_mostBoots_34 : decode cX9_mostBoots 34 = .ok (.iconst 2, 1) := by decide +kernel
theorem dX9_mostBoots_35 : decode cX9_mostBoots 35 = .ok (.invokevirtual 56, 3) := by decide +kernel
theorem dX9_mostBoots_38 : decode cX9_mostBoots 38 = .ok (.goto 4, 3) := by decide +kernel
theorem dX9_mostBoots_41 : decode cX9_mostBoots 41 = .ok (.iconst 0, 1) := by decide +kernel
theorem dX9_mostBoots_42 : decode cX9_mostBoots 42 = .ok (.iadd, 1) := by decide +kernel
theorem dX9_mostBoots_43 : decode cX9_mostBoots 43 = .ok (.istore_n 1, 1) := by decide +kernel
theorem dX9_mostBoots_44 : decode cX9_mostBoots 44 = .ok (.iinc 2 1, 3) := by decide +kernel
theorem dX9_mostBoots_47 : decode cX9_mostBoots 47 = .ok (.goto (-34), 3) := by decide +kernel
theorem dX9_mostBoots_50 : decode cX9_mostBoots 50 = .ok (.iload_n 1, 1) := by decide +kernel
theorem dX9_mostBoots_51 : decode cX9_mostBoots 51 = .ok (.ireturn, 1) := by decide +kernel
theorem dX9_bootsOf_0 : decode cX9_bootsOf 0 = .ok (.aload_n 0, 1) := by decide +kernel
theorem dX9_bootsOf_1 : decode cX9_bootsOf 1 = .ok (.iload_n 1, 1) := by decide +kernel
theorem dX9_bootsOf_2 : decode cX9_bootsOf 2 = .ok (.invokevirtual 260, 3) := by decide +kernel
theorem dX9_bootsOf_5 : decode cX9_bootsOf 5 = .ok (.ifCond .eq 5, 3) := by decide +kernel
theorem dX9_bootsOf_8 : decode cX9_bootsOf 8 = .ok (.iconst 0, 1) := by decide +kernel
theorem dX9_bootsOf_9 : decode cX9_bootsOf 9 = .ok (.ireturn, 1) := by decide +kernel
theorem dX9_bootsOf_10 : decode cX9_bootsOf 10 = .ok (.iconst 0, 1) := by decide +kernel
theorem dX9_bootsOf_11 : decode cX9_bootsOf 11 = .ok (.istore_n 2, 1) := by decide +kernel
theorem dX9_bootsOf_12 : decode cX9_bootsOf 12 = .ok (.iconst 0, 1) := by decide +kernel
theorem dX9_bootsOf_13 : decode cX9_bootsOf 13 = .ok (.istore_n 3, 1) := by decide +kernel
theorem dX9_bootsOf_14 : decode cX9_bootsOf 14 = .ok (.iload_n 3, 1) := by decide +kernel
theorem dX9_bootsOf_15 : decode cX9_bootsOf 15 = .ok (.aload_n 0, 1) := by decide +kernel
theorem dX9_bootsOf_16 : decode cX9_bootsOf 16 = .ok (.getfield 7, 3) := by decide +kernel
theorem dX9_bootsOf_19 : decode cX9_bootsOf 19 = .ok (.bipush 28, 2) := by decide +kernel
theorem dX9_bootsOf_21 : decode cX9_bootsOf 21 = .ok (.iaload, 1) := by decide +kernel
theorem dX9_bootsOf_22 : decode cX9_bootsOf 22 = .ok (.if_icmp .ge 37, 3) := by decide +kernel
theorem dX9_bootsOf_25 : decode cX9_bootsOf 25 = .ok (.iload_n 2, 1) := by decide +kernel
theorem dX9_bootsOf_26 : decode cX9_bootsOf 26 = .ok (.aload_n 0, 1) := by decide +kernel
theorem dX9_bootsOf_27 : decode cX9_bootsOf 27 = .ok (.getfield 7, 3) := by decide +kernel
theorem dX9_bootsOf_30 : decode cX9_bootsOf 30 = .ok (.bipush 29, 2) := by decide +kernel
theorem dX9_bootsOf_32 : decode cX9_bootsOf 32 = .ok (.iconst 4, 1) := by decide +kernel
theorem dX9_bootsOf_33 : decode cX9_bootsOf 33 = .ok (.iload_n 3, 1) := by decide +kernel
theorem dX9_bootsOf_34 : decode cX9_bootsOf 34 = .ok (.imul, 1) := by decide +kernel
theorem dX9_bootsOf_35 : decode cX9_bootsOf 35 = .ok (.iadd, 1) := by decide +kernel
theorem dX9_bootsOf_36 : decode cX9_bootsOf 36 = .ok (.iconst 3, 1) := by decide +kernel
theorem dX9_bootsOf_37 : decode cX9_bootsOf 37 = .ok (.iadd, 1) := by decide +kernel
theorem dX9_bootsOf_38 : decode cX9_bootsOf 38 = .ok (.iaload, 1) := by decide +kernel
theorem dX9_bootsOf_39 : decode cX9_bootsOf 39 = .ok (.iload_n 1, 1) := by decide +kernel
theorem dX9_bootsOf_40 : decode cX9_bootsOf 40 = .ok (.if_icmp .ne 7, 3) := by decide +kernel
theorem dX9_bootsOf_43 : decode cX9_bootsOf 43 = .ok (.iconst 1, 1) := by decide +kernel
theorem dX9_bootsOf_44 : decode cX9_bootsOf 44 = .ok (.goto 4, 3) := by decide +kernel
theorem dX9_bootsOf_47 : decode cX9_bootsOf 47 = .ok (.iconst 0, 1) := by decide +kernel
theorem dX9_bootsOf_48 : decode cX9_bootsOf 48 = .ok (.invokestatic 113, 3) := by decide +kernel
theorem dX9_bootsOf_51 : decode cX9_bootsOf 51 = .ok (.iadd, 1) := by decide +kernel
theorem dX9_bootsOf_52 : decode cX9_bootsOf 52 = .ok (.istore_n 2, 1) := by decide +kernel
theorem dX9_bootsOf_53 : decode cX9_bootsOf 53 = .ok (.iinc 3 1, 3) := by decide +kernel
theorem dX9_bootsOf_56 : decode cX9_bootsOf 56 = .ok (.goto (-42), 3) := by decide +kernel
theorem dX9_bootsOf_59 : decode cX9_bootsOf 59 = .ok (.iload_n 2, 1) := by decide +kernel
theorem dX9_bootsOf_60 : decode cX9_bootsOf 60 = .ok (.ireturn, 1) := by decide +kernel
theorem dX9_fallback_0 : decode cX9_fallback 0 = .ok (.aload_n 0, 1) := by decide +kernel
theorem dX9_fallback_1 : decode cX9_fallback 1 = .ok (.invokevirtual 48, 3) := by decide +kernel
theorem dX9_fallback_4 : decode cX9_fallback 4 = .ok (.ifCond .ne 14, 3) := by decide +kernel
theorem dX9_fallback_7 : decode cX9_fallback 7 = .ok (.aload_n 0, 1) := by decide +kernel
theorem dX9_fallback_8 : decode cX9_fallback 8 = .ok (.getfield 7, 3) := by decide +kernel
theorem dX9_fallback_11 : decode cX9_fallback 11 = .ok (.bipush 6, 2) := by decide +kernel
theorem dX9_fallback_13 : decode cX9_fallback 13 = .ok (.iaload, 1) := by decide +kernel
theorem dX9_fallback_14 : decode cX9_fallback 14 = .ok (.iconst 1, 1) := by decide +kernel
theorem dX9_fallback_15 : decode cX9_fallback 15 = .ok (.if_icmp .eq 16, 3) := by decide +kernel
theorem dX9_fallback_18 : decode cX9_fallback 18 = .ok (.aload_n 0, 1) := by decide +kernel
theorem dX9_fallback_19 : decode cX9_fallback 19 = .ok (.getfield 33, 3) := by decide +kernel
theorem dX9_fallback_22 : decode cX9_fallback 22 = .ok (.ifCond .eq 7, 3) := by decide +kernel
theorem dX9_fallback_25 : decode cX9_fallback 25 = .ok (.iconst 0, 1) := by decide +kernel
theorem dX9_fallback_26 : decode cX9_fallback 26 = .ok (.goto 4, 3) := by decide +kernel
theorem dX9_fallback_29 : decode cX9_fallback 29 = .ok (.iconst (-1), 1) := by decide +kernel
theorem dX9_fallback_30 : decode cX9_fallback 30 = .ok (.ireturn, 1) := by decide +kernel
theorem dX9_fallback_31 : decode cX9_fallback 31 = .ok (.iconst (-1), 1) := by decide +kernel
theorem dX9_fallback_32 : decode cX9_fallback 32 = .ok (.istore_n 1, 1) := by decide +kernel
theorem dX9_fallback_33 : decode cX9_fallback 33 = .ok (.iconst 0, 1) := by decide +kernel
theorem dX9_fallback_34 : decode cX9_fallback 34 = .ok (.istore_n 2, 1) := by decide +kernel
theorem dX9_fallback_35 : decode cX9_fallback 35 = .ok (.iload_n 2, 1) := by decide +kernel
theorem dX9_fallback_36 : decode cX9_fallback 36 = .ok (.aload_n 0, 1) := by decide +kernel
theorem dX9_fallback_37 : decode cX9_fallback 37 = .ok (.getfield 7, 3) := by decide +kernel
theorem dX9_fallback_40 : decode cX9_fallback 40 = .ok (.iconst 0, 1) := by decide +kernel
theorem dX9_fallback_41 : decode cX9_fallback 41 = .ok (.iaload, 1) := by decide +kernel
theorem dX9_fallback_42 : decode cX9_fallback 42 = .ok (.if_icmp .ge 44, 3) := by decide +kernel
theorem dX9_fallback_45 : decode cX9_fallback 45 = .ok (.iload_n 2, 1) := by decide +kernel
theorem dX9_fallback_46 : decode cX9_fallback 46 = .ok (.aload_n 0, 1) := by decide +kernel
theorem dX9_fallback_47 : decode cX9_fallback 47 = .ok (.getfield 7, 3) := by decide +kernel
theorem dX9_fallback_50 : decode cX9_fallback 50 = .ok (.bipush 7, 2) := by decide +kernel
theorem dX9_fallback_52 : decode cX9_fallback 52 = .ok (.iaload, 1) := by decide +kernel
theorem dX9_fallback_53 : decode cX9_fallback 53 = .ok (.if_icmp .eq 27, 3) := by decide +kernel
theorem dX9_fallback_56 : decode cX9_fallback 56 = .ok (.aload_n 0, 1) := by decide +kernel
theorem dX9_fallback_57 : decode cX9_fallback 57 = .ok (.iload_n 2, 1) := by decide +kernel
theorem dX9_fallback_58 : decode cX9_fallback 58 = .ok (.invokevirtual 70, 3) := by decide +kernel
theorem dX9_fallback_61 : decode cX9_fallback 61 = .ok (.ifCond .eq 19, 3) := by decide +kernel
theorem dX9_fallback_64 : decode cX9_fallback 64 = .ok (.iload_n 1, 1) := by decide +kernel
theorem dX9_fallback_65 : decode cX9_fallback 65 = .ok (.iconst (-1), 1) := by decide +kernel
theorem dX9_fallback_66 : decode cX9_fallback 66 = .ok (.if_icmp .eq 12, 3) := by decide +kernel
theorem dX9_fallback_69 : decode cX9_fallback 69 = .ok (.aload_n 0, 1) := by decide +kernel
theorem dX9_fallback_70 : decode cX9_fallback 70 = .ok (.iload_n 2, 1) := by decide +kernel
theorem dX9_fallback_71 : decode cX9_fallback 71 = .ok (.iload_n 1, 1) := by decide +kernel
theorem dX9_fallback_72 : decode cX9_fallback 72 = .ok (.invokevirtual 73, 3) := by decide +kernel
theorem dX9_fallback_75 : decode cX9_fallback 75 = .ok (.ifCond .eq 5, 3) := by decide +kernel
theorem dX9_fallback_78 : decode cX9_fallback 78 = .ok (.iload_n 2, 1) := by decide +kernel
theorem dX9_fallback_79 : decode cX9_fallback 79 = .ok (.istore_n 1, 1) := by decide +kernel
theorem dX9_fallback_80 : decode cX9_fallback 80 = .ok (.iinc 2 1, 3) := by decide +kernel
theorem dX9_fallback_83 : decode cX9_fallback 83 = .ok (.goto (-48), 3) := by decide +kernel
theorem dX9_fallback_86 : decode cX9_fallback 86 = .ok (.iload_n 1, 1) := by decide +kernel
theorem dX9_fallback_87 : decode cX9_fallback 87 = .ok (.ireturn, 1) := by decide +kernel
theorem dX9_weakest_0 : decode cX9_weakest 0 = .ok (.aload_n 0, 1) := by decide +kernel
theorem dX9_weakest_1 : decode cX9_weakest 1 = .ok (.invokevirtual 48, 3) := by decide +kernel
theorem dX9_weakest_4 : decode cX9_weakest 4 = .ok (.ifCond .eq 5, 3) := by decide +kernel
theorem dX9_weakest_7 : decode cX9_weakest 7 = .ok (.iconst 0, 1) := by decide +kernel
theorem dX9_weakest_8 : decode cX9_weakest 8 = .ok (.ireturn, 1) := by decide +kernel
theorem dX9_weakest_9 : decode cX9_weakest 9 = .ok (.iconst (-1), 1) := by decide +kernel
theorem dX9_weakest_10 : decode cX9_weakest 10 = .ok (.istore_n 1, 1) := by decide +kernel
theorem dX9_weakest_11 : decode cX9_weakest 11 = .ok (.iconst 0, 1) := by decide +kernel
theorem dX9_weakest_12 : decode cX9_weakest 12 = .ok (.istore_n 2, 1) := by decide +kernel
theorem dX9_weakest_13 : decode cX9_weakest 13 = .ok (.iload_n 2, 1) := by decide +kernel
theorem dX9_weakest_14 : decode cX9_weakest 14 = .ok (.aload_n 0, 1) := by decide +kernel
theorem dX9_weakest_15 : decode cX9_weakest 15 = .ok (.getfield 7, 3) := by decide +kernel
theorem dX9_weakest_18 : decode cX9_weakest 18 = .ok (.iconst 0, 1) := by decide +kernel
theorem dX9_weakest_19 : decode cX9_weakest 19 = .ok (.iaload, 1) := by decide +kernel
theorem dX9_weakest_20 : decode cX9_weakest 20 = .ok (.if_icmp .ge 47, 3) := by decide +kernel
theorem dX9_weakest_23 : decode cX9_weakest 23 = .ok (.aload_n 0, 1) := by decide +kernel
theorem dX9_weakest_24 : decode cX9_weakest 24 = .ok (.iload_n 2, 1) := by decide +kernel
theorem dX9_weakest_25 : decode cX9_weakest 25 = .ok (.invokevirtual 70, 3) := by decide +kernel
theorem dX9_weakest_28 : decode cX9_weakest 28 = .ok (.ifCond .eq 33, 3) := by decide +kernel
theorem dX9_weakest_31 : decode cX9_weakest 31 = .ok (.aload_n 0, 1) := by decide +kernel
theorem dX9_weakest_32 : decode cX9_weakest 32 = .ok (.iload_n 2, 1) := by decide +kernel
theorem dX9_weakest_33 : decode cX9_weakest 33 = .ok (.invokevirtual 63, 3) := by decide +kernel
theorem dX9_weakest_36 : decode cX9_weakest 36 = .ok (.ifCond .ne 25, 3) := by decide +kernel
theorem dX9_weakest_39 : decode cX9_weakest 39 = .ok (.iload_n 1, 1) := by decide +kernel
theorem dX9_weakest_40 : decode cX9_weakest 40 = .ok (.iconst (-1), 1) := by decide +kernel
theorem dX9_weakest_41 : decode cX9_weakest 41 = .ok (.if_icmp .eq 18, 3) := by decide +kernel
theorem dX9_weakest_44 : decode cX9_weakest 44 = .ok (.aload_n 0, 1) := by decide +kernel
theorem dX9_weakest_45 : decode cX9_weakest 45 = .ok (.iload_n 2, 1) := by decide +kernel
theorem dX9_weakest_46 : decode cX9_weakest 46 = .ok (.iconst 2, 1) := by decide +kernel
theorem dX9_weakest_47 : decode cX9_weakest 47 = .ok (.invokevirtual 56, 3) := by decide +kernel
theorem dX9_weakest_50 : decode cX9_weakest 50 = .ok (.aload_n 0, 1) := by decide +kernel
theorem dX9_weakest_51 : decode cX9_weakest 51 = .ok (.iload_n 1, 1) := by decide +kernel
theorem dX9_weakest_52 : decode cX9_weakest 52 = .ok (.iconst 2, 1) := by decide +kernel
theorem dX9_weakest_53 : decode cX9_weakest 53 = .ok (.invokevirtual 56, 3) := by decide +kernel
theorem dX9_weakest_56 : decode cX9_weakest 56 = .ok (.if_icmp .ge 5, 3) := by decide +kernel
theorem dX9_weakest_59 : decode cX9_weakest 59 = .ok (.iload_n 2, 1) := by decide +kernel
theorem dX9_weakest_60 : decode cX9_weakest 60 = .ok (.istore_n 1, 1) := by decide +kernel
theorem dX9_weakest_61 : decode cX9_weakest 61 = .ok (.iinc 2 1, 3) := by decide +kernel
theorem dX9_weakest_64 : decode cX9_weakest 64 = .ok (.goto (-51), 3) := by decide +kernel
theorem dX9_weakest_67 : decode cX9_weakest 67 = .ok (.iload_n 1, 1) := by decide +kernel
theorem dX9_weakest_68 : decode cX9_weakest 68 = .ok (.ireturn, 1) := by decide +kernel
theorem dX9_twins_0 : decode cX9_twins 0 = .ok (.aload_n 0, 1) := by decide +kernel
theorem dX9_twins_1 : decode cX9_twins 1 = .ok (.iload_n 1, 1) := by decide +kernel
theorem dX9_twins_2 : decode cX9_twins 2 = .ok (.invokevirtual 260, 3) := by decide +kernel
theorem dX9_twins_5 : decode cX9_twins 5 = .ok (.ifCond .eq 5, 3) := by decide +kernel
theorem dX9_twins_8 : decode cX9_twins 8 = .ok (.iconst 0, 1) := by decide +kernel
theorem dX9_twins_9 : decode cX9_twins 9 = .ok (.ireturn, 1) := by decide +kernel
theorem dX9_twins_10 : decode cX9_twins 10 = .ok (.iconst 0, 1) := by decide +kernel
theorem dX9_twins_11 : decode cX9_twins 11 = .ok (.istore_n 2, 1) := by decide +kernel
theorem dX9_twins_12 : decode cX9_twins 12 = .ok (.iconst 0, 1) := by decide +kernel
theorem dX9_twins_13 : decode cX9_twins 13 = .ok (.istore_n 3, 1) := by decide +kernel
theorem dX9_twins_14 : decode cX9_twins 14 = .ok (.iload_n 3, 1) := by decide +kernel
theorem dX9_twins_15 : decode cX9_twins 15 = .ok (.aload_n 0, 1) := by decide +kernel
theorem dX9_twins_16 : decode cX9_twins 16 = .ok (.getfield 7, 3) := by decide +kernel
theorem dX9_twins_19 : decode cX9_twins 19 = .ok (.iconst 0, 1) := by decide +kernel
theorem dX9_twins_20 : decode cX9_twins 20 = .ok (.iaload, 1) := by decide +kernel
theorem dX9_twins_21 : decode cX9_twins 21 = .ok (.if_icmp .ge 60, 3) := by decide +kernel
theorem dX9_twins_24 : decode cX9_twins 24 = .ok (.iload_n 2, 1) := by decide +kernel
theorem dX9_twins_25 : decode cX9_twins 25 = .ok (.iload_n 3, 1) := by decide +kernel
theorem dX9_twins_26 : decode cX9_twins 26 = .ok (.iload_n 1, 1) := by decide +kernel
theorem dX9_twins_27 : decode cX9_twins 27 = .ok (.if_icmp .eq 40, 3) := by decide +kernel
theorem dX9_twins_30 : decode cX9_twins 30 = .ok (.aload_n 0, 1) := by decide +kernel
theorem dX9_twins_31 : decode cX9_twins 31 = .ok (.iload_n 1, 1) := by decide +kernel
theorem dX9_twins_32 : decode cX9_twins 32 = .ok (.invokevirtual 60, 3) := by decide +kernel
theorem dX9_twins_35 : decode cX9_twins 35 = .ok (.ifCond .eq 32, 3) := by decide +kernel
theorem dX9_twins_38 : decode cX9_twins 38 = .ok (.aload_n 0, 1) := by decide +kernel
theorem dX9_twins_39 : decode cX9_twins 39 = .ok (.iload_n 3, 1) := by decide +kernel
theorem dX9_twins_40 : decode cX9_twins 40 = .ok (.invokevirtual 60, 3) := by decide +kernel
theorem dX9_twins_43 : decode cX9_twins 43 = .ok (.ifCond .eq 24, 3) := by decide +kernel
theorem dX9_twins_46 : decode cX9_twins 46 = .ok (.aload_n 0, 1) := by decide +kernel
theorem dX9_twins_47 : decode cX9_twins 47 = .ok (.iload_n 3, 1) := by decide +kernel
theorem dX9_twins_48 : decode cX9_twins 48 = .ok (.bipush 8, 2) := by decide +kernel
theorem dX9_twins_50 : decode cX9_twins 50 = .ok (.invokevirtual 56, 3) := by decide +kernel
theorem dX9_twins_53 : decode cX9_twins 53 = .ok (.aload_n 0, 1) := by decide +kernel
theorem dX9_twins_54 : decode cX9_twins 54 = .ok (.iload_n 1, 1) := by decide +kernel
theorem dX9_twins_55 : decode cX9_twins 55 = .ok (.bipush 8, 2) := by decide +kernel
theorem dX9_twins_57 : decode cX9_twins 57 = .ok (.invokevirtual 56, 3) := by decide +kernel
theorem dX9_twins_60 : decode cX9_twins 60 = .ok (.if_icmp .ne 7, 3) := by decide +kernel
theorem dX9_twins_63 : decode cX9_twins 63 = .ok (.iconst 1, 1) := by decide +kernel
theorem dX9_twins_64 : decode cX9_twins 64 = .ok (.goto 4, 3) := by decide +kernel
theorem dX9_twins_67 : decode cX9_twins 67 = .ok (.iconst 0, 1) := by decide +kernel
theorem dX9_twins_68 : decode cX9_twins 68 = .ok (.invokestatic 113, 3) := by decide +kernel
theorem dX9_twins_71 : decode cX9_twins 71 = .ok (.iload_n 3, 1) := by decide +kernel
theorem dX9_twins_72 : decode cX9_twins 72 = .ok (.ishl, 1) := by decide +kernel
theorem dX9_twins_73 : decode cX9_twins 73 = .ok (.ior, 1) := by decide +kernel
theorem dX9_twins_74 : decode cX9_twins 74 = .ok (.istore_n 2, 1) := by decide +kernel
theorem dX9_twins_75 : decode cX9_twins 75 = .ok (.iinc 3 1, 3) := by decide +kernel
theorem dX9_twins_78 : decode cX9_twins 78 = .ok (.goto (-64), 3) := by decide +kernel
theorem dX9_twins_81 : decode cX9_twins 81 = .ok (.iload_n 2, 1) := by decide +kernel
theorem dX9_twins_82 : decode cX9_twins 82 = .ok (.ireturn, 1) := by decide +kernel
theorem dX9_laysAside_0 : decode cX9_laysAside 0 = .ok (.aload_n 0, 1) := by decide +kernel
theorem dX9_laysAside_1 : decode cX9_laysAside 1 = .ok (.getfield 7, 3) := by decide +kernel
theorem dX9_laysAside_4 : decode cX9_laysAside 4 = .ok (.iconst 0, 1) := by decide +kernel
theorem dX9_laysAside_5 : decode cX9_laysAside 5 = .ok (.aload_n 0, 1) := by decide +kernel
theorem dX9_laysAside_6 : decode cX9_laysAside 6 = .ok (.getfield 13, 3) := by decide +kernel
theorem dX9_laysAside_9 : decode cX9_laysAside 9 = .ok (.sipush 1600, 3) := by decide +kernel
theorem dX9_laysAside_12 : decode cX9_laysAside 12 = .ok (.invokestatic 242, 3) := by decide +kernel
theorem dX9_laysAside_15 : decode cX9_laysAside 15 = .ok (.return_, 1) := by decide +kernel
theorem dX9_back_0 : decode cX9_back 0 = .ok (.aload_n 0, 1) := by decide +kernel
theorem dX9_back_1 : decode cX9_back 1 = .ok (.getfield 13, 3) := by decide +kernel
theorem dX9_back_4 : decode cX9_back 4 = .ok (.sipush 1600, 3) := by decide +kernel
theorem dX9_back_7 : decode cX9_back 7 = .ok (.aload_n 0, 1) := by decide +kernel
theorem dX9_back_8 : decode cX9_back 8 = .ok (.getfield 7, 3) := by decide +kernel
theorem dX9_back_11 : decode cX9_back 11 = .ok (.iconst 0, 1) := by decide +kernel
theorem dX9_back_12 : decode cX9_back 12 = .ok (.invokestatic 242, 3) := by decide +kernel
theorem dX9_back_15 : decode cX9_back 15 = .ok (.iload_n 1, 1) := by decide +kernel
theorem dX9_back_16 : decode cX9_back 16 = .ok (.ireturn, 1) := by decide +kernel
theorem dX9_noTicks_0 : decode cX9_noTicks 0 = .ok (.aload_n 0, 1) := by decide +kernel
theorem dX9_noTicks_1 : decode cX9_noTicks 1 = .ok (.iload_n 1, 1) := by decide +kernel
theorem dX9_noTicks_2 : decode cX9_noTicks 2 = .ok (.i2l, 1) := by decide +kernel
theorem dX9_noTicks_3 : decode cX9_noTicks 3 = .ok (.lconst 0, 1) := by decide +kernel
theorem dX9_noTicks_4 : decode cX9_noTicks 4 = .ok (.ldc2_w 278, 3) := by decide +kernel
theorem dX9_noTicks_7 : decode cX9_noTicks 7 = .ok (.invokestatic 44, 3) := by decide +kernel
theorem dX9_noTicks_10 : decode cX9_noTicks 10 = .ok (.ifCond .ne 7, 3) := by decide +kernel
theorem dX9_noTicks_13 : decode cX9_noTicks 13 = .ok (.iconst 1, 1) := by decide +kernel
theorem dX9_noTicks_14 : decode cX9_noTicks 14 = .ok (.goto 4, 3) := by decide +kernel
theorem dX9_noTicks_17 : decode cX9_noTicks 17 = .ok (.iconst 0, 1) := by decide +kernel
theorem dX9_noTicks_18 : decode cX9_noTicks 18 = .ok (.iload_n 2, 1) := by decide +kernel
theorem dX9_noTicks_19 : decode cX9_noTicks 19 = .ok (.invokevirtual 40, 3) := by decide +kernel
theorem dX9_noTicks_22 : decode cX9_noTicks 22 = .ok (.ireturn, 1) := by decide +kernel
theorem dX9_numberIn_0 : decode cX9_numberIn 0 = .ok (.aload_n 0, 1) := by decide +kernel
theorem dX9_numberIn_1 : decode cX9_numberIn 1 = .ok (.invokevirtual 280, 3) := by decide +kernel
theorem dX9_numberIn_4 : decode cX9_numberIn 4 = .ok (.aload_n 0, 1) := by decide +kernel
theorem dX9_numberIn_5 : decode cX9_numberIn 5 = .ok (.iload_n 2, 1) := by decide +kernel
theorem dX9_numberIn_6 : decode cX9_numberIn 6 = .ok (.invokevirtual 283, 3) := by decide +kernel
theorem dX9_numberIn_9 : decode cX9_numberIn 9 = .ok (.aload_n 0, 1) := by decide +kernel
theorem dX9_numberIn_10 : decode cX9_numberIn 10 = .ok (.aload_n 0, 1) := by decide +kernel
theorem dX9_numberIn_11 : decode cX9_numberIn 11 = .ok (.getfield 7, 3) := by decide +kernel
theorem dX9_numberIn_14 : decode cX9_numberIn 14 = .ok (.iload_n 1, 1) := by decide +kernel
theorem dX9_numberIn_15 : decode cX9_numberIn 15 = .ok (.iaload, 1) := by decide +kernel
theorem dX9_numberIn_16 : decode cX9_numberIn 16 = .ok (.invokevirtual 286, 3) := by decide +kernel
theorem dX9_numberIn_19 : decode cX9_numberIn 19 = .ok (.ireturn, 1) := by decide +kernel
theorem dX9_stateIn_0 : decode cX9_stateIn 0 = .ok (.aload_n 0, 1) := by decide +kernel
theorem dX9_stateIn_1 : decode cX9_stateIn 1 = .ok (.invokevirtual 48, 3) := by decide +kernel
theorem dX9_stateIn_4 : decode cX9_stateIn 4 = .ok (.ifCond .ne 12, 3) := by decide +kernel
theorem dX9_stateIn_7 : decode cX9_stateIn 7 = .ok (.aload_n 0, 1) := by decide +kernel
theorem dX9_stateIn_8 : decode cX9_stateIn 8 = .ok (.iload_n 1, 1) := by decide +kernel
theorem dX9_stateIn_9 : decode cX9_stateIn 9 = .ok (.iconst 2, 1) := by decide +kernel
theorem dX9_stateIn_10 : decode cX9_stateIn 10 = .ok (.invokevirtual 289, 3) := by decide +kernel
theorem dX9_stateIn_13 : decode cX9_stateIn 13 = .ok (.ifCond .eq 7, 3) := by decide +kernel
theorem dX9_stateIn_16 : decode cX9_stateIn 16 = .ok (.iconst 0, 1) := by decide +kernel
theorem dX9_stateIn_17 : decode cX9_stateIn 17 = .ok (.goto 10, 3) := by decide +kernel
theorem dX9_stateIn_20 : decode cX9_stateIn 20 = .ok (.aload_n 0, 1) := by decide +kernel
theorem dX9_stateIn_21 : decode cX9_stateIn 21 = .ok (.bipush 6, 2) := by decide +kernel
theorem dX9_stateIn_23 : decode cX9_stateIn 23 = .ok (.iload_n 1, 1) := by decide +kernel
theorem dX9_stateIn_24 : decode cX9_stateIn 24 = .ok (.invokevirtual 292, 3) := by decide +kernel
theorem dX9_stateIn_27 : decode cX9_stateIn 27 = .ok (.ireturn, 1) := by decide +kernel
theorem dX9_slotIn_0 : decode cX9_slotIn 0 = .ok (.aload_n 0, 1) := by decide +kernel
theorem dX9_slotIn_1 : decode cX9_slotIn 1 = .ok (.invokevirtual 48, 3) := by decide +kernel
theorem dX9_slotIn_4 : decode cX9_slotIn 4 = .ok (.ifCond .ne 12, 3) := by decide +kernel
theorem dX9_slotIn_7 : decode cX9_slotIn 7 = .ok (.aload_n 0, 1) := by decide +kernel
theorem dX9_slotIn_8 : decode cX9_slotIn 8 = .ok (.iload_n 1, 1) := by decide +kernel
theorem dX9_slotIn_9 : decode cX9_slotIn 9 = .ok (.iconst 2, 1) := by decide +kernel
theorem dX9_slotIn_10 : decode cX9_slotIn 10 = .ok (.invokevirtual 289, 3) := by decide +kernel
theorem dX9_slotIn_13 : decode cX9_slotIn 13 = .ok (.ifCond .eq 7, 3) := by decide +kernel
theorem dX9_slotIn_16 : decode cX9_slotIn 16 = .ok (.iconst 0, 1) := by decide +kernel
theorem dX9_slotIn_17 : decode cX9_slotIn 17 = .ok (.goto 10, 3) := by decide +kernel
theorem dX9_slotIn_20 : decode cX9_slotIn 20 = .ok (.aload_n 0, 1) := by decide +kernel
theorem dX9_slotIn_21 : decode cX9_slotIn 21 = .ok (.bipush 7, 2) := by decide +kernel
theorem dX9_slotIn_23 : decode cX9_slotIn 23 = .ok (.iload_n 1, 1) := by decide +kernel
theorem dX9_slotIn_24 : decode cX9_slotIn 24 = .ok (.invokevirtual 292, 3) := by decide +kernel
theorem dX9_slotIn_27 : decode cX9_slotIn 27 = .ok (.ireturn, 1) := by decide +kernel
theorem dX9_floorIn_0 : decode cX9_floorIn 0 = .ok (.aload_n 0, 1) := by decide +kernel
theorem dX9_floorIn_1 : decode cX9_floorIn 1 = .ok (.invokevirtual 48, 3) := by decide +kernel
theorem dX9_floorIn_4 : decode cX9_floorIn 4 = .ok (.ifCond .ne 12, 3) := by decide +kernel
theorem dX9_floorIn_7 : decode cX9_floorIn 7 = .ok (.aload_n 0, 1) := by decide +kernel
theorem dX9_floorIn_8 : decode cX9_floorIn 8 = .ok (.iload_n 1, 1) := by decide +kernel
theorem dX9_floorIn_9 : decode cX9_floorIn 9 = .ok (.iconst 2, 1) := by decide +kernel
theorem dX9_floorIn_10 : decode cX9_floorIn 10 = .ok (.invokevirtual 289, 3) := by decide +kernel
theorem dX9_floorIn_13 : decode cX9_floorIn 13 = .ok (.ifCond .eq 7, 3) := by decide +kernel
theorem dX9_floorIn_16 : decode cX9_floorIn 16 = .ok (.iconst 0, 1) := by decide +kernel
theorem dX9_floorIn_17 : decode cX9_floorIn 17 = .ok (.goto 9, 3) := by decide +kernel
theorem dX9_floorIn_20 : decode cX9_floorIn 20 = .ok (.aload_n 0, 1) := by decide +kernel
theorem dX9_floorIn_21 : decode cX9_floorIn 21 = .ok (.iconst 5, 1) := by decide +kernel
theorem dX9_floorIn_22 : decode cX9_floorIn 22 = .ok (.iload_n 1, 1) := by decide +kernel
theorem dX9_floorIn_23 : decode cX9_floorIn 23 = .ok (.invokevirtual 292, 3) := by decide +kernel
theorem dX9_floorIn_26 : decode cX9_floorIn 26 = .ok (.ireturn, 1) := by decide +kernel
theorem dX9_bootsIn_0 : decode cX9_bootsIn 0 = .ok (.aload_n 0, 1) := by decide +kernel
theorem dX9_bootsIn_1 : decode cX9_bootsIn 1 = .ok (.invokevirtual 48, 3) := by decide +kernel
theorem dX9_bootsIn_4 : decode cX9_bootsIn 4 = .ok (.ifCond .ne 12, 3) := by decide +kernel
theorem dX9_bootsIn_7 : decode cX9_bootsIn 7 = .ok (.aload_n 0, 1) := by decide +kernel
theorem dX9_bootsIn_8 : decode cX9_bootsIn 8 = .ok (.iload_n 1, 1) := by decide +kernel
theorem dX9_bootsIn_9 : decode cX9_bootsIn 9 = .ok (.iconst 2, 1) := by decide +kernel
theorem dX9_bootsIn_10 : decode cX9_bootsIn 10 = .ok (.invokevirtual 289, 3) := by decide +kernel
theorem dX9_bootsIn_13 : decode cX9_bootsIn 13 = .ok (.ifCond .eq 7, 3) := by decide +kernel
theorem dX9_bootsIn_16 : decode cX9_bootsIn 16 = .ok (.iconst 0, 1) := by decide +kernel
theorem dX9_bootsIn_17 : decode cX9_bootsIn 17 = .ok (.goto 18, 3) := by decide +kernel
theorem dX9_bootsIn_20 : decode cX9_bootsIn 20 = .ok (.aload_n 0, 1) := by decide +kernel
theorem dX9_bootsIn_21 : decode cX9_bootsIn 21 = .ok (.bipush 12, 2) := by decide +kernel
theorem dX9_bootsIn_23 : decode cX9_bootsIn 23 = .ok (.iload_n 1, 1) := by decide +kernel
theorem dX9_bootsIn_24 : decode cX9_bootsIn 24 = .ok (.invokevirtual 292, 3) := by decide +kernel
theorem dX9_bootsIn_27 : decode cX9_bootsIn 27 = .ok (.aload_n 0, 1) := by decide +kernel
theorem dX9_bootsIn_28 : decode cX9_bootsIn 28 = .ok (.getfield 7, 3) := by decide +kernel
theorem dX9_bootsIn_31 : decode cX9_bootsIn 31 = .ok (.bipush 12, 2) := by decide +kernel
theorem dX9_bootsIn_33 : decode cX9_bootsIn 33 = .ok (.iaload, 1) := by decide +kernel
theorem dX9_bootsIn_34 : decode cX9_bootsIn 34 = .ok (.isub, 1) := by decide +kernel
theorem dX9_bootsIn_35 : decode cX9_bootsIn 35 = .ok (.ireturn, 1) := by decide +kernel
theorem dX9_rescueNow_0 : decode cX9_rescueNow 0 = .ok (.iconst 0, 1) := by decide +kernel
theorem dX9_rescueNow_1 : decode cX9_rescueNow 1 = .ok (.istore_n 1, 1) := by decide +kernel
theorem dX9_rescueNow_2 : decode cX9_rescueNow 2 = .ok (.iload_n 1, 1) := by decide +kernel
theorem dX9_rescueNow_3 : decode cX9_rescueNow 3 = .ok (.sipush 300, 3) := by decide +kernel
theorem dX9_rescueNow_6 : decode cX9_rescueNow 6 = .ok (.if_icmp .gt 26, 3) := by decide +kernel
theorem dX9_rescueNow_9 : decode cX9_rescueNow 9 = .ok (.aload_n 0, 1) := by decide +kernel
theorem dX9_rescueNow_10 : decode cX9_rescueNow 10 = .ok (.getfield 7, 3) := by decide +kernel
theorem dX9_rescueNow_13 : decode cX9_rescueNow 13 = .ok (.bipush 6, 2) := by decide +kernel
theorem dX9_rescueNow_15 : decode cX9_rescueNow 15 = .ok (.iaload, 1) := by decide +kernel
theorem dX9_rescueNow_16 : decode cX9_rescueNow 16 = .ok (.iconst 2, 1) := by decide +kernel
theorem dX9_rescueNow_17 : decode cX9_rescueNow 17 = .ok (.if_icmp .ne 5, 3) := by decide +kernel
theorem dX9_rescueNow_20 : decode cX9_rescueNow 20 = .ok (.iload_n 1, 1) := by decide +kernel
theorem dX9_rescueNow_21 : decode cX9_rescueNow 21 = .ok (.ireturn, 1) := by decide +kernel
theorem dX9_rescueNow_22 : decode cX9_rescueNow 22 = .ok (.aload_n 0, 1) := by decide +kernel
theorem dX9_rescueNow_23 : decode cX9_rescueNow 23 = .ok (.invokevirtual 133, 3) := by decide +kernel
theorem dX9_rescueNow_26 : decode cX9_rescueNow 26 = .ok (.iinc 1 1, 3) := by decide +kernel
theorem dX9_rescueNow_29 : decode cX9_rescueNow 29 = .ok (.goto (-27), 3) := by decide +kernel
theorem dX9_rescueNow_32 : decode cX9_rescueNow 32 = .ok (.iconst (-1), 1) := by decide +kernel
theorem dX9_rescueNow_33 : decode cX9_rescueNow 33 = .ok (.ireturn, 1) := by decide +kernel
theorem dX9_rescueIn_0 : decode cX9_rescueIn 0 = .ok (.aload_n 0, 1) := by decide +kernel
theorem dX9_rescueIn_1 : decode cX9_rescueIn 1 = .ok (.invokevirtual 48, 3) := by decide +kernel
theorem dX9_rescueIn_4 : decode cX9_rescueIn 4 = .ok (.ifCond .eq 5, 3) := by decide +kernel
theorem dX9_rescueIn_7 : decode cX9_rescueIn 7 = .ok (.iconst 0, 1) := by decide +kernel
theorem dX9_rescueIn_8 : decode cX9_rescueIn 8 = .ok (.ireturn, 1) := by decide +kernel
theorem dX9_rescueIn_9 : decode cX9_rescueIn 9 = .ok (.aload_n 0, 1) := by decide +kernel
theorem dX9_rescueIn_10 : decode cX9_rescueIn 10 = .ok (.invokevirtual 280, 3) := by decide +kernel
theorem dX9_rescueIn_13 : decode cX9_rescueIn 13 = .ok (.aload_n 0, 1) := by decide +kernel
theorem dX9_rescueIn_14 : decode cX9_rescueIn 14 = .ok (.aload_n 0, 1) := by decide +kernel
theorem dX9_rescueIn_15 : decode cX9_rescueIn 15 = .ok (.invokevirtual 295, 3) := by decide +kernel
theorem dX9_rescueIn_18 : decode cX9_rescueIn 18 = .ok (.invokevirtual 286, 3) := by decide +kernel
theorem dX9_rescueIn_21 : decode cX9_rescueIn 21 = .ok (.ireturn, 1) := by decide +kernel
theorem dX9_goodNow_0 : decode cX9_goodNow 0 = .ok (.iconst 0, 1) := by decide +kernel
theorem dX9_goodNow_1 : decode cX9_goodNow 1 = .ok (.istore_n 2, 1) := by decide +kernel
theorem dX9_goodNow_2 : decode cX9_goodNow 2 = .ok (.iload_n 2, 1) := by decide +kernel
theorem dX9_goodNow_3 : decode cX9_goodNow 3 = .ok (.sipush 300, 3) := by decide +kernel
theorem dX9_goodNow_6 : decode cX9_goodNow 6 = .ok (.if_icmp .gt 23, 3) := by decide +kernel
theorem dX9_goodNow_9 : decode cX9_goodNow 9 = .ok (.aload_n 0, 1) := by decide +kernel
theorem dX9_goodNow_10 : decode cX9_goodNow 10 = .ok (.iload_n 1, 1) := by decide +kernel
theorem dX9_goodNow_11 : decode cX9_goodNow 11 = .ok (.invokevirtual 63, 3) := by decide +kernel
theorem dX9_goodNow_14 : decode cX9_goodNow 14 = .ok (.ifCond .eq 5, 3) := by decide +kernel
theorem dX9_goodNow_17 : decode cX9_goodNow 17 = .ok (.iload_n 2, 1) := by decide +kernel
theorem dX9_goodNow_18 : decode cX9_goodNow 18 = .ok (.ireturn, 1) := by decide +kernel
theorem dX9_goodNow_19 : decode cX9_goodNow 19 = .ok (.aload_n 0, 1) := by decide +kernel
theorem dX9_goodNow_20 : decode cX9_goodNow 20 = .ok (.invokevirtual 133, 3) := by decide +kernel
theorem dX9_goodNow_23 : decode cX9_goodNow 23 = .ok (.iinc 2 1, 3) := by decide +kernel
theorem dX9_goodNow_26 : decode cX9_goodNow 26 = .ok (.goto (-24), 3) := by decide +kernel
theorem dX9_goodNow_29 : decode cX9_goodNow 29 = .ok (.iconst (-1), 1) := by decide +kernel
theorem dX9_goodNow_30 : decode cX9_goodNow 30 = .ok (.ireturn, 1) := by decide +kernel
theorem dX9_goodIn_0 : decode cX9_goodIn 0 = .ok (.aload_n 0, 1) := by decide +kernel
theorem dX9_goodIn_1 : decode cX9_goodIn 1 = .ok (.iload_n 1, 1) := by decide +kernel
theorem dX9_goodIn_2 : decode cX9_goodIn 2 = .ok (.invokevirtual 260, 3) := by decide +kernel
theorem dX9_goodIn_5 : decode cX9_goodIn 5 = .ok (.ifCond .eq 5, 3) := by decide +kernel
theorem dX9_goodIn_8 : decode cX9_goodIn 8 = .ok (.iconst 0, 1) := by decide +kernel
theorem dX9_goodIn_9 : decode cX9_goodIn 9 = .ok (.ireturn, 1) := by decide +kernel
theorem dX9_goodIn_10 : decode cX9_goodIn 10 = .ok (.aload_n 0, 1) := by decide +kernel
theorem dX9_goodIn_11 : decode cX9_goodIn 11 = .ok (.invokevirtual 280, 3) := by decide +kernel
theorem dX9_goodIn_14 : decode cX9_goodIn 14 = .ok (.aload_n 0, 1) := by decide +kernel
theorem dX9_goodIn_15 : decode cX9_goodIn 15 = .ok (.aload_n 0, 1) := by decide +kernel
theorem dX9_goodIn_16 : decode cX9_goodIn 16 = .ok (.iload_n 1, 1) := by decide +kernel
theorem dX9_goodIn_17 : decode cX9_goodIn 17 = .ok (.invokevirtual 298, 3) := by decide +kernel
theorem dX9_goodIn_20 : decode cX9_goodIn 20 = .ok (.invokevirtual 286, 3) := by decide +kernel
theorem dX9_goodIn_23 : decode cX9_goodIn 23 = .ok (.ireturn, 1) := by decide +kernel
theorem dX9_calmNow_0 : decode cX9_calmNow 0 = .ok (.iconst 0, 1) := by decide +kernel
theorem dX9_calmNow_1 : decode cX9_calmNow 1 = .ok (.istore_n 1, 1) := by decide +kernel
theorem dX9_calmNow_2 : decode cX9_calmNow 2 = .ok (.iconst 1, 1) := by decide +kernel
theorem dX9_calmNow_3 : decode cX9_calmNow 3 = .ok (.istore_n 2, 1) := by decide +kernel
theorem dX9_calmNow_4 : decode cX9_calmNow 4 = .ok (.iload_n 2, 1) := by decide +kernel
theorem dX9_calmNow_5 : decode cX9_calmNow 5 = .ok (.sipush 300, 3) := by decide +kernel
theorem dX9_calmNow_8 : decode cX9_calmNow 8 = .ok (.if_icmp .gt 38, 3) := by decide +kernel
theorem dX9_calmNow_11 : decode cX9_calmNow 11 = .ok (.aload_n 0, 1) := by decide +kernel
theorem dX9_calmNow_12 : decode cX9_calmNow 12 = .ok (.getfield 7, 3) := by decide +kernel
theorem dX9_calmNow_15 : decode cX9_calmNow 15 = .ok (.bipush 12, 2) := by decide +kernel
theorem dX9_calmNow_17 : decode cX9_calmNow 17 = .ok (.iaload, 1) := by decide +kernel
theorem dX9_calmNow_18 : decode cX9_calmNow 18 = .ok (.istore_n 3, 1) := by decide +kernel
theorem dX9_calmNow_19 : decode cX9_calmNow 19 = .ok (.aload_n 0, 1) := by decide +kernel
theorem dX9_calmNow_20 : decode cX9_calmNow 20 = .ok (.invokevirtual 133, 3) := by decide +kernel
theorem dX9_calmNow_23 : decode cX9_calmNow 23 = .ok (.aload_n 0, 1) := by decide +kernel
theorem dX9_calmNow_24 : decode cX9_calmNow 24 = .ok (.getfield 7, 3) := by decide +kernel
theorem dX9_calmNow_27 : decode cX9_calmNow 27 = .ok (.bipush 12, 2) := by decide +kernel
theorem dX9_calmNow_29 : decode cX9_calmNow 29 = .ok (.iaload, 1) := by decide +kernel
theorem dX9_calmNow_30 : decode cX9_calmNow 30 = .ok (.iload_n 3, 1) := by decide +kernel
theorem dX9_calmNow_31 : decode cX9_calmNow 31 = .ok (.if_icmp .le 7, 3) := by decide +kernel
theorem dX9_calmNow_34 : decode cX9_calmNow 34 = .ok (.iload_n 2, 1) := by decide +kernel
theorem dX9_calmNow_35 : decode cX9_calmNow 35 = .ok (.goto 4, 3) := by decide +kernel
theorem dX9_calmNow_38 : decode cX9_calmNow 38 = .ok (.iload_n 1, 1) := by decide +kernel
theorem dX9_calmNow_39 : decode cX9_calmNow 39 = .ok (.istore_n 1, 1) := by decide +kernel
theorem dX9_calmNow_40 : decode cX9_calmNow 40 = .ok (.iinc 2 1, 3) := by decide +kernel
theorem dX9_calmNow_43 : decode cX9_calmNow 43 = .ok (.goto (-39), 3) := by decide +kernel
theorem dX9_calmNow_46 : decode cX9_calmNow 46 = .ok (.iload_n 1, 1) := by decide +kernel
theorem dX9_calmNow_47 : decode cX9_calmNow 47 = .ok (.ireturn, 1) := by decide +kernel
theorem dX9_calmIn_0 : decode cX9_calmIn 0 = .ok (.aload_n 0, 1) := by decide +kernel
theorem dX9_calmIn_1 : decode cX9_calmIn 1 = .ok (.invokevirtual 48, 3) := by decide +kernel
theorem dX9_calmIn_4 : decode cX9_calmIn 4 = .ok (.ifCond .eq 5, 3) := by decide +kernel
theorem dX9_calmIn_7 : decode cX9_calmIn 7 = .ok (.iconst 0, 1) := by decide +kernel
theorem dX9_calmIn_8 : decode cX9_calmIn 8 = .ok (.ireturn, 1) := by decide +kernel
theorem dX9_calmIn_9 : decode cX9_calmIn 9 = .ok (.aload_n 0, 1) := by decide +kernel
theorem dX9_calmIn_10 : decode cX9_calmIn 10 = .ok (.invokevirtual 280, 3) := by decide +kernel
theorem dX9_calmIn_13 : decode cX9_calmIn 13 = .ok (.aload_n 0, 1) := by decide +kernel
theorem dX9_calmIn_14 : decode cX9_calmIn 14 = .ok (.aload_n 0, 1) := by decide +kernel
theorem dX9_calmIn_15 : decode cX9_calmIn 15 = .ok (.invokevirtual 301, 3) := by decide +kernel
theorem dX9_calmIn_18 : decode cX9_calmIn 18 = .ok (.invokevirtual 286, 3) := by decide +kernel
theorem dX9_calmIn_21 : decode cX9_calmIn 21 = .ok (.ireturn, 1) := by decide +kernel
theorem dX9_triesIn_0 : decode cX9_triesIn 0 = .ok (.aload_n 0, 1) := by decide +kernel
theorem dX9_triesIn_1 : decode cX9_triesIn 1 = .ok (.iload_n 1, 1) := by decide +kernel
theorem dX9_triesIn_2 : decode cX9_triesIn 2 = .ok (.invokevirtual 260, 3) := by decide +kernel
theorem dX9_triesIn_5 : decode cX9_triesIn 5 = .ok (.ifCond .ne 12, 3) := by decide +kernel
theorem dX9_triesIn_8 : decode cX9_triesIn 8 = .ok (.aload_n 0, 1) := by decide +kernel
theorem dX9_triesIn_9 : decode cX9_triesIn 9 = .ok (.iload_n 2, 1) := by decide +kernel
theorem dX9_triesIn_10 : decode cX9_triesIn 10 = .ok (.iconst 3, 1) := by decide +kernel
theorem dX9_triesIn_11 : decode cX9_triesIn 11 = .ok (.invokevirtual 289, 3) := by decide +kernel
theorem dX9_triesIn_14 : decode cX9_triesIn 14 = .ok (.ifCond .eq 7, 3) := by decide +kernel
theorem dX9_triesIn_17 : decode cX9_triesIn 17 = .ok (.iconst 0, 1) := by decide +kernel
theorem dX9_triesIn_18 : decode cX9_triesIn 18 = .ok (.goto 17, 3) := by decide +kernel
theorem dX9_triesIn_21 : decode cX9_triesIn 21 = .ok (.aload_n 0, 1) := by decide +kernel
theorem dX9_triesIn_22 : decode cX9_triesIn 22 = .ok (.bipush 80, 2) := by decide +kernel
theorem dX9_triesIn_24 : decode cX9_triesIn 24 = .ok (.bipush 13, 2) := by decide +kernel
theorem dX9_triesIn_26 : decode cX9_triesIn 26 = .ok (.iload_n 1, 1) := by decide +kernel
theorem dX9_triesIn_27 : decode cX9_triesIn 27 = .ok (.imul, 1) := by decide +kernel
theorem dX9_triesIn_28 : decode cX9_triesIn 28 = .ok (.iadd, 1) := by decide +kernel
theorem dX9_triesIn_29 : decode cX9_triesIn 29 = .ok (.iconst 2, 1) := by decide +kernel
theorem dX9_triesIn_30 : decode cX9_triesIn 30 = .ok (.iadd, 1) := by decide +kernel
theorem dX9_triesIn_31 : decode cX9_triesIn 31 = .ok (.iload_n 2, 1) := by decide +kernel
theorem dX9_triesIn_32 : decode cX9_triesIn 32 = .ok (.invokevirtual 292, 3) := by decide +kernel
theorem dX9_triesIn_35 : decode cX9_triesIn 35 = .ok (.ireturn, 1) := by decide +kernel
theorem dX9_runsIn_0 : decode cX9_runsIn 0 = .ok (.aload_n 0, 1) := by decide +kernel
theorem dX9_runsIn_1 : decode cX9_runsIn 1 = .ok (.iload_n 1, 1) := by decide +kernel
theorem dX9_runsIn_2 : decode cX9_runsIn 2 = .ok (.invokevirtual 260, 3) := by decide +kernel
theorem dX9_runsIn_5 : decode cX9_runsIn 5 = .ok (.ifCond .ne 12, 3) := by decide +kernel
theorem dX9_runsIn_8 : decode cX9_runsIn 8 = .ok (.aload_n 0, 1) := by decide +kernel
theorem dX9_runsIn_9 : decode cX9_runsIn 9 = .ok (.iload_n 2, 1) := by decide +kernel
theorem dX9_runsIn_10 : decode cX9_runsIn 10 = .ok (.iconst 3, 1) := by decide +kernel
theorem dX9_runsIn_11 : decode cX9_runsIn 11 = .ok (.invokevirtual 289, 3) := by decide +kernel
theorem dX9_runsIn_14 : decode cX9_runsIn 14 = .ok (.ifCond .eq 5, 3) := by decide +kernel
theorem dX9_runsIn_17 : decode cX9_runsIn 17 = .ok (.iconst 0, 1) := by decide +kernel
theorem dX9_runsIn_18 : decode cX9_runsIn 18 = .ok (.ireturn, 1) := by decide +kernel
theorem dX9_runsIn_19 : decode cX9_runsIn 19 = .ok (.aload_n 0, 1) := by decide +kernel
theorem dX9_runsIn_20 : decode cX9_runsIn 20 = .ok (.bipush 80, 2) := by decide +kernel
theorem dX9_runsIn_22 : decode cX9_runsIn 22 = .ok (.bipush 13, 2) := by decide +kernel
theorem dX9_runsIn_24 : decode cX9_runsIn 24 = .ok (.iload_n 1, 1) := by decide +kernel
theorem dX9_runsIn_25 : decode cX9_runsIn 25 = .ok (.imul, 1) := by decide +kernel
theorem dX9_runsIn_26 : decode cX9_runsIn 26 = .ok (.iadd, 1) := by decide +kernel
theorem dX9_runsIn_27 : decode cX9_runsIn 27 = .ok (.iconst 5, 1) := by decide +kernel
theorem dX9_runsIn_28 : decode cX9_runsIn 28 = .ok (.iadd, 1) := by decide +kernel
theorem dX9_runsIn_29 : decode cX9_runsIn 29 = .ok (.iload_n 2, 1) := by decide +kernel
theorem dX9_runsIn_30 : decode cX9_runsIn 30 = .ok (.invokevirtual 292, 3) := by decide +kernel
theorem dX9_runsIn_33 : decode cX9_runsIn 33 = .ok (.aload_n 0, 1) := by decide +kernel
theorem dX9_runsIn_34 : decode cX9_runsIn 34 = .ok (.iload_n 1, 1) := by decide +kernel
theorem dX9_runsIn_35 : decode cX9_runsIn 35 = .ok (.iconst 5, 1) := by decide +kernel
theorem dX9_runsIn_36 : decode cX9_runsIn 36 = .ok (.invokevirtual 56, 3) := by decide +kernel
theorem dX9_runsIn_39 : decode cX9_runsIn 39 = .ok (.isub, 1) := by decide +kernel
theorem dX9_runsIn_40 : decode cX9_runsIn 40 = .ok (.ireturn, 1) := by decide +kernel
theorem dX9_crashesIn_0 : decode cX9_crashesIn 0 = .ok (.aload_n 0, 1) := by decide +kernel
theorem dX9_crashesIn_1 : decode cX9_crashesIn 1 = .ok (.invokevirtual 48, 3) := by decide +kernel
theorem dX9_crashesIn_4 : decode cX9_crashesIn 4 = .ok (.ifCond .ne 12, 3) := by decide +kernel
theorem dX9_crashesIn_7 : decode cX9_crashesIn 7 = .ok (.aload_n 0, 1) := by decide +kernel
theorem dX9_crashesIn_8 : decode cX9_crashesIn 8 = .ok (.iload_n 1, 1) := by decide +kernel
theorem dX9_crashesIn_9 : decode cX9_crashesIn 9 = .ok (.iconst 2, 1) := by decide +kernel
theorem dX9_crashesIn_10 : decode cX9_crashesIn 10 = .ok (.invokevirtual 289, 3) := by decide +kernel
theorem dX9_crashesIn_13 : decode cX9_crashesIn 13 = .ok (.ifCond .eq 7, 3) := by decide +kernel
theorem dX9_crashesIn_16 : decode cX9_crashesIn 16 = .ok (.iconst 0, 1) := by decide +kernel
theorem dX9_crashesIn_17 : decode cX9_crashesIn 17 = .ok (.goto 18, 3) := by decide +kernel
theorem dX9_crashesIn_20 : decode cX9_crashesIn 20 = .ok (.aload_n 0, 1) := by decide +kernel
theorem dX9_crashesIn_21 : decode cX9_crashesIn 21 = .ok (.bipush 15, 2) := by decide +kernel
theorem dX9_crashesIn_23 : decode cX9_crashesIn 23 = .ok (.iload_n 1, 1) := by decide +kernel
theorem dX9_crashesIn_24 : decode cX9_crashesIn 24 = .ok (.invokevirtual 292, 3) := by decide +kernel
theorem dX9_crashesIn_27 : decode cX9_crashesIn 27 = .ok (.aload_n 0, 1) := by decide +kernel
theorem dX9_crashesIn_28 : decode cX9_crashesIn 28 = .ok (.getfield 7, 3) := by decide +kernel
theorem dX9_crashesIn_31 : decode cX9_crashesIn 31 = .ok (.bipush 15, 2) := by decide +kernel
theorem dX9_crashesIn_33 : decode cX9_crashesIn 33 = .ok (.iaload, 1) := by decide +kernel
theorem dX9_crashesIn_34 : decode cX9_crashesIn 34 = .ok (.isub, 1) := by decide +kernel
theorem dX9_crashesIn_35 : decode cX9_crashesIn 35 = .ok (.ireturn, 1) := by decide +kernel
theorem dX9_newerNow_0 : decode cX9_newerNow 0 = .ok (.iconst 1, 1) := by decide +kernel
theorem dX9_newerNow_1 : decode cX9_newerNow 1 = .ok (.istore_n 2, 1) := by decide +kernel
theorem dX9_newerNow_2 : decode cX9_newerNow 2 = .ok (.iload_n 2, 1) := by decide +kernel
theorem dX9_newerNow_3 : decode cX9_newerNow 3 = .ok (.sipush 300, 3) := by decide +kernel
theorem dX9_newerNow_6 : decode cX9_newerNow 6 = .ok (.if_icmp .gt 43, 3) := by decide +kernel
theorem dX9_newerNow_9 : decode cX9_newerNow 9 = .ok (.aload_n 0, 1) := by decide +kernel
theorem dX9_newerNow_10 : decode cX9_newerNow 10 = .ok (.invokevirtual 133, 3) := by decide +kernel
theorem dX9_newerNow_13 : decode cX9_newerNow 13 = .ok (.aload_n 0, 1) := by decide +kernel
theorem dX9_newerNow_14 : decode cX9_newerNow 14 = .ok (.getfield 7, 3) := by decide +kernel
theorem dX9_newerNow_17 : decode cX9_newerNow 17 = .ok (.bipush 6, 2) := by decide +kernel
theorem dX9_newerNow_19 : decode cX9_newerNow 19 = .ok (.iaload, 1) := by decide +kernel
theorem dX9_newerNow_20 : decode cX9_newerNow 20 = .ok (.iconst 1, 1) := by decide +kernel
theorem dX9_newerNow_21 : decode cX9_newerNow 21 = .ok (.if_icmp .ne 22, 3) := by decide +kernel
theorem dX9_newerNow_24 : decode cX9_newerNow 24 = .ok (.aload_n 0, 1) := by decide +kernel
theorem dX9_newerNow_25 : decode cX9_newerNow 25 = .ok (.aload_n 0, 1) := by decide +kernel
theorem dX9_newerNow_26 : decode cX9_newerNow 26 = .ok (.getfield 7, 3) := by decide +kernel
theorem dX9_newerNow_29 : decode cX9_newerNow 29 = .ok (.bipush 7, 2) := by decide +kernel
theorem dX9_newerNow_31 : decode cX9_newerNow 31 = .ok (.iaload, 1) := by decide +kernel
theorem dX9_newerNow_32 : decode cX9_newerNow 32 = .ok (.bipush 8, 2) := by decide +kernel
theorem dX9_newerNow_34 : decode cX9_newerNow 34 = .ok (.invokevirtual 56, 3) := by decide +kernel
theorem dX9_newerNow_37 : decode cX9_newerNow 37 = .ok (.iload_n 1, 1) := by decide +kernel
theorem dX9_newerNow_38 : decode cX9_newerNow 38 = .ok (.if_icmp .le 5, 3) := by decide +kernel
theorem dX9_newerNow_41 : decode cX9_newerNow 41 = .ok (.iload_n 2, 1) := by decide +kernel
theorem dX9_newerNow_42 : decode cX9_newerNow 42 = .ok (.ireturn, 1) := by decide +kernel
theorem dX9_newerNow_43 : decode cX9_newerNow 43 = .ok (.iinc 2 1, 3) := by decide +kernel
theorem dX9_newerNow_46 : decode cX9_newerNow 46 = .ok (.goto (-44), 3) := by decide +kernel
theorem dX9_newerNow_49 : decode cX9_newerNow 49 = .ok (.iconst (-1), 1) := by decide +kernel
theorem dX9_newerNow_50 : decode cX9_newerNow 50 = .ok (.ireturn, 1) := by decide +kernel
theorem dX9_newerIn_0 : decode cX9_newerIn 0 = .ok (.aload_n 0, 1) := by decide +kernel
theorem dX9_newerIn_1 : decode cX9_newerIn 1 = .ok (.invokevirtual 48, 3) := by decide +kernel
theorem dX9_newerIn_4 : decode cX9_newerIn 4 = .ok (.ifCond .ne 14, 3) := by decide +kernel
theorem dX9_newerIn_7 : decode cX9_newerIn 7 = .ok (.aload_n 0, 1) := by decide +kernel
theorem dX9_newerIn_8 : decode cX9_newerIn 8 = .ok (.getfield 7, 3) := by decide +kernel
theorem dX9_newerIn_11 : decode cX9_newerIn 11 = .ok (.bipush 6, 2) := by decide +kernel
theorem dX9_newerIn_13 : decode cX9_newerIn 13 = .ok (.iaload, 1) := by decide +kernel
theorem dX9_newerIn_14 : decode cX9_newerIn 14 = .ok (.iconst 1, 1) := by decide +kernel
theorem dX9_newerIn_15 : decode cX9_newerIn 15 = .ok (.if_icmp .eq 16, 3) := by decide +kernel
theorem dX9_newerIn_18 : decode cX9_newerIn 18 = .ok (.aload_n 0, 1) := by decide +kernel
theorem dX9_newerIn_19 : decode cX9_newerIn 19 = .ok (.getfield 33, 3) := by decide +kernel
theorem dX9_newerIn_22 : decode cX9_newerIn 22 = .ok (.ifCond .eq 7, 3) := by decide +kernel
theorem dX9_newerIn_25 : decode cX9_newerIn 25 = .ok (.iconst 0, 1) := by decide +kernel
theorem dX9_newerIn_26 : decode cX9_newerIn 26 = .ok (.goto 4, 3) := by decide +kernel
theorem dX9_newerIn_29 : decode cX9_newerIn 29 = .ok (.iconst (-1), 1) := by decide +kernel
theorem dX9_newerIn_30 : decode cX9_newerIn 30 = .ok (.ireturn, 1) := by decide +kernel
theorem dX9_newerIn_31 : decode cX9_newerIn 31 = .ok (.aload_n 0, 1) := by decide +kernel
theorem dX9_newerIn_32 : decode cX9_newerIn 32 = .ok (.invokevirtual 280, 3) := by decide +kernel
theorem dX9_newerIn_35 : decode cX9_newerIn 35 = .ok (.aload_n 0, 1) := by decide +kernel
theorem dX9_newerIn_36 : decode cX9_newerIn 36 = .ok (.aload_n 0, 1) := by decide +kernel
theorem dX9_newerIn_37 : decode cX9_newerIn 37 = .ok (.aload_n 0, 1) := by decide +kernel
theorem dX9_newerIn_38 : decode cX9_newerIn 38 = .ok (.aload_n 0, 1) := by decide +kernel
theorem dX9_newerIn_39 : decode cX9_newerIn 39 = .ok (.getfield 7, 3) := by decide +kernel
theorem dX9_newerIn_42 : decode cX9_newerIn 42 = .ok (.bipush 7, 2) := by decide +kernel
theorem dX9_newerIn_44 : decode cX9_newerIn 44 = .ok (.iaload, 1) := by decide +kernel
theorem dX9_newerIn_45 : decode cX9_newerIn 45 = .ok (.bipush 8, 2) := by decide +kernel
theorem dX9_newerIn_47 : decode cX9_newerIn 47 = .ok (.invokevirtual 56, 3) := by decide +kernel
theorem dX9_newerIn_50 : decode cX9_newerIn 50 = .ok (.invokevirtual 304, 3) := by decide +kernel
theorem dX9_newerIn_53 : decode cX9_newerIn 53 = .ok (.invokevirtual 286, 3) := by decide +kernel
theorem dX9_newerIn_56 : decode cX9_newerIn 56 = .ok (.ireturn, 1) := by decide +kernel
theorem dX9_ifInstalled_0 : decode cX9_ifInstalled 0 = .ok (.aload_n 0, 1) := by decide +kernel
theorem dX9_ifInstalled_1 : decode cX9_ifInstalled 1 = .ok (.iload_n 1, 1) := by decide +kernel
theorem dX9_ifInstalled_2 : decode cX9_ifInstalled 2 = .ok (.invokevirtual 260, 3) := by decide +kernel
theorem dX9_ifInstalled_5 : decode cX9_ifInstalled 5 = .ok (.ifCond .ne 40, 3) := by decide +kernel
theorem dX9_ifInstalled_8 : decode cX9_ifInstalled 8 = .ok (.aload_n 0, 1) := by decide +kernel
theorem dX9_ifInstalled_9 : decode cX9_ifInstalled 9 = .ok (.iload_n 2, 1) := by decide +kernel
theorem dX9_ifInstalled_10 : decode cX9_ifInstalled 10 = .ok (.i2l, 1) := by decide +kernel
theorem dX9_ifInstalled_11 : decode cX9_ifInstalled 11 = .ok (.lconst 0, 1) := by decide +kernel
theorem dX9_ifInstalled_12 : decode cX9_ifInstalled 12 = .ok (.ldc2_w 307, 3) := by decide +kernel
theorem dX9_ifInstalled_15 : decode cX9_ifInstalled 15 = .ok (.invokestatic 44, 3) := by decide +kernel
theorem dX9_ifInstalled_18 : decode cX9_ifInstalled 18 = .ok (.ifCond .eq 15, 3) := by decide +kernel
theorem dX9_ifInstalled_21 : decode cX9_ifInstalled 21 = .ok (.iload_n 3, 1) := by decide +kernel
theorem dX9_ifInstalled_22 : decode cX9_ifInstalled 22 = .ok (.i2l, 1) := by decide +kernel
theorem dX9_ifInstalled_23 : decode cX9_ifInstalled 23 = .ok (.lconst 1, 1) := by decide +kernel
theorem dX9_ifInstalled_24 : decode cX9_ifInstalled 24 = .ok (.ldc2_w 307, 3) := by decide +kernel
theorem dX9_ifInstalled_27 : decode cX9_ifInstalled 27 = .ok (.invokestatic 44, 3) := by decide +kernel
theorem dX9_ifInstalled_30 : decode cX9_ifInstalled 30 = .ok (.ifCond .ne 7, 3) := by decide +kernel
theorem dX9_ifInstalled_33 : decode cX9_ifInstalled 33 = .ok (.iconst 1, 1) := by decide +kernel
theorem dX9_ifInstalled_34 : decode cX9_ifInstalled 34 = .ok (.goto 4, 3) := by decide +kernel
theorem dX9_ifInstalled_37 : decode cX9_ifInstalled 37 = .ok (.iconst 0, 1) := by decide +kernel
theorem dX9_ifInstalled_38 : decode cX9_ifInstalled 38 = .ok (.iconst 3, 1) := by decide +kernel
theorem dX9_ifInstalled_39 : decode cX9_ifInstalled 39 = .ok (.invokevirtual 40, 3) := by decide +kernel
theorem dX9_ifInstalled_42 : decode cX9_ifInstalled 42 = .ok (.ifCond .eq 5, 3) := by decide +kernel
theorem dX9_ifInstalled_45 : decode cX9_ifInstalled 45 = .ok (.iconst 0, 1) := by decide +kernel
theorem dX9_ifInstalled_46 : decode cX9_ifInstalled 46 = .ok (.ireturn, 1) := by decide +kernel
theorem dX9_ifInstalled_47 : decode cX9_ifInstalled 47 = .ok (.aload_n 0, 1) := by decide +kernel
theorem dX9_ifInstalled_48 : decode cX9_ifInstalled 48 = .ok (.invokevirtual 280, 3) := by decide +kernel
theorem dX9_ifInstalled_51 : decode cX9_ifInstalled 51 = .ok (.aload_n 0, 1) := by decide +kernel
theorem dX9_ifInstalled_52 : decode cX9_ifInstalled 52 = .ok (.iload_n 1, 1) := by decide +kernel
theorem dX9_ifInstalled_53 : decode cX9_ifInstalled 53 = .ok (.invokevirtual 309, 3) := by decide +kernel
theorem dX9_ifInstalled_56 : decode cX9_ifInstalled 56 = .ok (.aload_n 0, 1) := by decide +kernel
theorem dX9_ifInstalled_57 : decode cX9_ifInstalled 57 = .ok (.invokevirtual 121, 3) := by decide +kernel
theorem dX9_ifInstalled_60 : decode cX9_ifInstalled 60 = .ok (.aload_n 0, 1) := by decide +kernel
theorem dX9_ifInstalled_61 : decode cX9_ifInstalled 61 = .ok (.iload_n 1, 1) := by decide +kernel
theorem dX9_ifInstalled_62 : decode cX9_ifInstalled 62 = .ok (.iload_n 2, 1) := by decide +kernel
theorem dX9_ifInstalled_63 : decode cX9_ifInstalled 63 = .ok (.iload_n 3, 1) := by decide +kernel
theorem dX9_ifInstalled_64 : decode cX9_ifInstalled 64 = .ok (.iconst 0, 1) := by decide +kernel
theorem dX9_ifInstalled_65 : decode cX9_ifInstalled 65 = .ok (.invokevirtual 117, 3) := by decide +kernel
theorem dX9_ifInstalled_68 : decode cX9_ifInstalled 68 = .ok (.aload_n 0, 1) := by decide +kernel
theorem dX9_ifInstalled_69 : decode cX9_ifInstalled 69 = .ok (.aload_n 0, 1) := by decide +kernel
theorem dX9_ifInstalled_70 : decode cX9_ifInstalled 70 = .ok (.invokevirtual 312, 3) := by decide +kernel
theorem dX9_ifInstalled_73 : decode cX9_ifInstalled 73 = .ok (.invokevirtual 286, 3) := by decide +kernel
theorem dX9_ifInstalled_76 : decode cX9_ifInstalled 76 = .ok (.ireturn, 1) := by decide +kernel
theorem dX9_ifBooted_0 : decode cX9_ifBooted 0 = .ok (.aload_n 0, 1) := by decide +kernel
theorem dX9_ifBooted_1 : decode cX9_ifBooted 1 = .ok (.invokevirtual 48, 3) := by decide +kernel
theorem dX9_ifBooted_4 : decode cX9_ifBooted 4 = .ok (.ifCond .eq 5, 3) := by decide +kernel
theorem dX9_ifBooted_7 : decode cX9_ifBooted 7 = .ok (.iconst 0, 1) := by decide +kernel
theorem dX9_ifBooted_8 : decode cX9_ifBooted 8 = .ok (.ireturn, 1) := by decide +kernel
theorem dX9_ifBooted_9 : decode cX9_ifBooted 9 = .ok (.aload_n 0, 1) := by decide +kernel
theorem dX9_ifBooted_10 : decode cX9_ifBooted 10 = .ok (.invokevirtual 280, 3) := by decide +kernel
theorem dX9_ifBooted_13 : decode cX9_ifBooted 13 = .ok (.aload_n 0, 1) := by decide +kernel
theorem dX9_ifBooted_14 : decode cX9_ifBooted 14 = .ok (.iconst 1, 1) := by decide +kernel
theorem dX9_ifBooted_15 : decode cX9_ifBooted 15 = .ok (.invokevirtual 92, 3) := by decide +kernel
theorem dX9_ifBooted_18 : decode cX9_ifBooted 18 = .ok (.istore_n 1, 1) := by decide +kernel
theorem dX9_ifBooted_19 : decode cX9_ifBooted 19 = .ok (.aload_n 0, 1) := by decide +kernel
theorem dX9_ifBooted_20 : decode cX9_ifBooted 20 = .ok (.aload_n 0, 1) := by decide +kernel
theorem dX9_ifBooted_21 : decode cX9_ifBooted 21 = .ok (.getfield 7, 3) := by decide +kernel
theorem dX9_ifBooted_24 : decode cX9_ifBooted 24 = .ok (.bipush 7, 2) := by decide +kernel
theorem dX9_ifBooted_26 : decode cX9_ifBooted 26 = .ok (.iaload, 1) := by decide +kernel
theorem dX9_ifBooted_27 : decode cX9_ifBooted 27 = .ok (.invokevirtual 286, 3) := by decide +kernel
theorem dX9_ifBooted_30 : decode cX9_ifBooted 30 = .ok (.ireturn, 1) := by decide +kernel
theorem dX9_givenUpIf_0 : decode cX9_givenUpIf 0 = .ok (.aload_n 0, 1) := by decide +kernel
theorem dX9_givenUpIf_1 : decode cX9_givenUpIf 1 = .ok (.invokevirtual 48, 3) := by decide +kernel
theorem dX9_givenUpIf_4 : decode cX9_givenUpIf 4 = .ok (.ifCond .eq 5, 3) := by decide +kernel
theorem dX9_givenUpIf_7 : decode cX9_givenUpIf 7 = .ok (.iconst 0, 1) := by decide +kernel
theorem dX9_givenUpIf_8 : decode cX9_givenUpIf 8 = .ok (.ireturn, 1) := by decide +kernel
theorem dX9_givenUpIf_9 : decode cX9_givenUpIf 9 = .ok (.aload_n 0, 1) := by decide +kernel
theorem dX9_givenUpIf_10 : decode cX9_givenUpIf 10 = .ok (.invokevirtual 280, 3) := by decide +kernel
theorem dX9_givenUpIf_13 : decode cX9_givenUpIf 13 = .ok (.aload_n 0, 1) := by decide +kernel
theorem dX9_givenUpIf_14 : decode cX9_givenUpIf 14 = .ok (.aload_n 0, 1) := by decide +kernel
theorem dX9_givenUpIf_15 : decode cX9_givenUpIf 15 = .ok (.iconst 1, 1) := by decide +kernel
theorem dX9_givenUpIf_16 : decode cX9_givenUpIf 16 = .ok (.invokevirtual 92, 3) := by decide +kernel
theorem dX9_givenUpIf_19 : decode cX9_givenUpIf 19 = .ok (.invokevirtual 286, 3) := by decide +kernel
theorem dX9_givenUpIf_22 : decode cX9_givenUpIf 22 = .ok (.ireturn, 1) := by decide +kernel
theorem dX9_settles_0 : decode cX9_settles 0 = .ok (.aload_n 0, 1) := by decide +kernel
theorem dX9_settles_1 : decode cX9_settles 1 = .ok (.iconst 1, 1) := by decide +kernel
theorem dX9_settles_2 : decode cX9_settles 2 = .ok (.invokevirtual 92, 3) := by decide +kernel
theorem dX9_settles_5 : decode cX9_settles 5 = .ok (.istore_n 1, 1) := by decide +kernel
theorem dX9_settles_6 : decode cX9_settles 6 = .ok (.aload_n 0, 1) := by decide +kernel
theorem dX9_settles_7 : decode cX9_settles 7 = .ok (.sipush 300, 3) := by decide +kernel
theorem dX9_settles_10 : decode cX9_settles 10 = .ok (.invokevirtual 283, 3) := by decide +kernel
theorem dX9_settles_13 : decode cX9_settles 13 = .ok (.aload_n 0, 1) := by decide +kernel
theorem dX9_settles_14 : decode cX9_settles 14 = .ok (.getfield 7, 3) := by decide +kernel
theorem dX9_settles_17 : decode cX9_settles 17 = .ok (.bipush 7, 2) := by decide +kernel
theorem dX9_settles_19 : decode cX9_settles 19 = .ok (.iaload, 1) := by decide +kernel
theorem dX9_settles_20 : decode cX9_settles 20 = .ok (.ireturn, 1) := by decide +kernel
theorem dX9_settlesOn_0 : decode cX9_settlesOn 0 = .ok (.aload_n 0, 1) := by decide +kernel
theorem dX9_settlesOn_1 : decode cX9_settlesOn 1 = .ok (.invokevirtual 48, 3) := by decide +kernel
theorem dX9_settlesOn_4 : decode cX9_settlesOn 4 = .ok (.ifCond .eq 5, 3) := by decide +kernel
theorem dX9_settlesOn_7 : decode cX9_settlesOn 7 = .ok (.iconst 0, 1) := by decide +kernel
theorem dX9_settlesOn_8 : decode cX9_settlesOn 8 = .ok (.ireturn, 1) := by decide +kernel
theorem dX9_settlesOn_9 : decode cX9_settlesOn 9 = .ok (.aload_n 0, 1) := by decide +kernel
theorem dX9_settlesOn_10 : decode cX9_settlesOn 10 = .ok (.invokevirtual 280, 3) := by decide +kernel
theorem dX9_settlesOn_13 : decode cX9_settlesOn 13 = .ok (.aload_n 0, 1) := by decide +kernel
theorem dX9_settlesOn_14 : decode cX9_settlesOn 14 = .ok (.aload_n 0, 1) := by decide +kernel
theorem dX9_settlesOn_15 : decode cX9_settlesOn 15 = .ok (.invokevirtual 312, 3) := by decide +kernel
theorem dX9_settlesOn_18 : decode cX9_settlesOn 18 = .ok (.invokevirtual 286, 3) := by decide +kernel
theorem dX9_settlesOn_21 : decode cX9_settlesOn 21 = .ok (.ireturn, 1) := by decide +kernel
theorem dX9_settlesWithout_0 : decode cX9_settlesWithout 0 = .ok (.aload_n 0, 1) := by decide +kernel
theorem dX9_settlesWithout_1 : decode cX9_settlesWithout 1 = .ok (.iload_n 1, 1) := by decide +kernel
theorem dX9_settlesWithout_2 : decode cX9_settlesWithout 2 = .ok (.invokevirtual 260, 3) := by decide +kernel
theorem dX9_settlesWithout_5 : decode cX9_settlesWithout 5 = .ok (.ifCond .eq 5, 3) := by decide +kernel
theorem dX9_settlesWithout_8 : decode cX9_settlesWithout 8 = .ok (.iconst 0, 1) := by decide +kernel
theorem dX9_settlesWithout_9 : decode cX9_settlesWithout 9 = .ok (.ireturn, 1) := by decide +kernel
theorem dX9_settlesWithout_10 : decode cX9_settlesWithout 10 = .ok (.aload_n 0, 1) := by decide +kernel
theorem dX9_settlesWithout_11 : decode cX9_settlesWithout 11 = .ok (.invokevirtual 280, 3) := by decide +kernel
theorem dX9_settlesWithout_14 : decode cX9_settlesWithout 14 = .ok (.aload_n 0, 1) := by decide +kernel
theorem dX9_settlesWithout_15 : decode cX9_settlesWithout 15 = .ok (.iload_n 1, 1) := by decide +kernel
theorem dX9_settlesWithout_16 : decode cX9_settlesWithout 16 = .ok (.invokevirtual 309, 3) := by decide +kernel
theorem dX9_settlesWithout_19 : decode cX9_settlesWithout 19 = .ok (.aload_n 0, 1) := by decide +kernel
theorem dX9_settlesWithout_20 : decode cX9_settlesWithout 20 = .ok (.invokevirtual 121, 3) := by decide +kernel
theorem dX9_settlesWithout_23 : decode cX9_settlesWithout 23 = .ok (.aload_n 0, 1) := by decide +kernel
theorem dX9_settlesWithout_24 : decode cX9_settlesWithout 24 = .ok (.aload_n 0, 1) := by decide +kernel
theorem dX9_settlesWithout_25 : decode cX9_settlesWithout 25 = .ok (.invokevirtual 312, 3) := by decide +kernel
theorem dX9_settlesWithout_28 : decode cX9_settlesWithout 28 = .ok (.invokevirtual 286, 3) := by decide +kernel
theorem dX9_settlesWithout_31 : decode cX9_settlesWithout 31 = .ok (.ireturn, 1) := by decide +kernel
theorem dX9_becomesGood_0 : decode cX9_becomesGood 0 = .ok (.aload_n 0, 1) := by decide +kernel
theorem dX9_becomesGood_1 : decode cX9_becomesGood 1 = .ok (.iconst 1, 1) := by decide +kernel
theorem dX9_becomesGood_2 : decode cX9_becomesGood 2 = .ok (.invokevirtual 92, 3) := by decide +kernel
theorem dX9_becomesGood_5 : decode cX9_becomesGood 5 = .ok (.istore_n 2, 1) := by decide +kernel
theorem dX9_becomesGood_6 : decode cX9_becomesGood 6 = .ok (.aload_n 0, 1) := by decide +kernel
theorem dX9_becomesGood_7 : decode cX9_becomesGood 7 = .ok (.iload_n 1, 1) := by decide +kernel
theorem dX9_becomesGood_8 : decode cX9_becomesGood 8 = .ok (.invokevirtual 298, 3) := by decide +kernel
theorem dX9_becomesGood_11 : decode cX9_becomesGood 11 = .ok (.iconst (-1), 1) := by decide +kernel
theorem dX9_becomesGood_12 : decode cX9_becomesGood 12 = .ok (.if_icmp .eq 7, 3) := by decide +kernel
theorem dX9_becomesGood_15 : decode cX9_becomesGood 15 = .ok (.iconst 1, 1) := by decide +kernel
theorem dX9_becomesGood_16 : decode cX9_becomesGood 16 = .ok (.goto 4, 3) := by decide +kernel
theorem dX9_becomesGood_19 : decode cX9_becomesGood 19 = .ok (.iconst 0, 1) := by decide +kernel
theorem dX9_becomesGood_20 : decode cX9_becomesGood 20 = .ok (.ireturn, 1) := by decide +kernel
theorem dX9_triesFor_0 : decode cX9_triesFor 0 = .ok (.aload_n 0, 1) := by decide +kernel
theorem dX9_triesFor_1 : decode cX9_triesFor 1 = .ok (.iload_n 1, 1) := by decide +kernel
theorem dX9_triesFor_2 : decode cX9_triesFor 2 = .ok (.invokevirtual 260, 3) := by decide +kernel
theorem dX9_triesFor_5 : decode cX9_triesFor 5 = .ok (.ifCond .eq 5, 3) := by decide +kernel
theorem dX9_triesFor_8 : decode cX9_triesFor 8 = .ok (.iconst 0, 1) := by decide +kernel
theorem dX9_triesFor_9 : decode cX9_triesFor 9 = .ok (.ireturn, 1) := by decide +kernel
theorem dX9_triesFor_10 : decode cX9_triesFor 10 = .ok (.aload_n 0, 1) := by decide +kernel
theorem dX9_triesFor_11 : decode cX9_triesFor 11 = .ok (.iload_n 1, 1) := by decide +kernel
theorem dX9_triesFor_12 : decode cX9_triesFor 12 = .ok (.invokevirtual 60, 3) := by decide +kernel
theorem dX9_triesFor_15 : decode cX9_triesFor 15 = .ok (.ifCond .ne 5, 3) := by decide +kernel
theorem dX9_triesFor_18 : decode cX9_triesFor 18 = .ok (.iconst (-1), 1) := by decide +kernel
theorem dX9_triesFor_19 : decode cX9_triesFor 19 = .ok (.ireturn, 1) := by decide +kernel
theorem dX9_triesFor_20 : decode cX9_triesFor 20 = .ok (.iconst 0, 1) := by decide +kernel
theorem dX9_triesFor_21 : decode cX9_triesFor 21 = .ok (.istore_n 2, 1) := by decide +kernel
theorem dX9_triesFor_22 : decode cX9_triesFor 22 = .ok (.iload_n 2, 1) := by decide +kernel
theorem dX9_triesFor_23 : decode cX9_triesFor 23 = .ok (.bipush 7, 2) := by decide +kernel
theorem dX9_triesFor_25 : decode cX9_triesFor 25 = .ok (.if_icmp .gt 38, 3) := by decide +kernel
theorem dX9_triesFor_28 : decode cX9_triesFor 28 = .ok (.aload_n 0, 1) := by decide +kernel
theorem dX9_triesFor_29 : decode cX9_triesFor 29 = .ok (.invokevirtual 280, 3) := by decide +kernel
theorem dX9_triesFor_32 : decode cX9_triesFor 32 = .ok (.aload_n 0, 1) := by decide +kernel
theorem dX9_triesFor_33 : decode cX9_triesFor 33 = .ok (.iload_n 1, 1) := by decide +kernel
theorem dX9_triesFor_34 : decode cX9_triesFor 34 = .ok (.iconst 2, 1) := by decide +kernel
theorem dX9_triesFor_35 : decode cX9_triesFor 35 = .ok (.iload_n 2, 1) := by decide +kernel
theorem dX9_triesFor_36 : decode cX9_triesFor 36 = .ok (.invokevirtual 77, 3) := by decide +kernel
theorem dX9_triesFor_39 : decode cX9_triesFor 39 = .ok (.aload_n 0, 1) := by decide +kernel
theorem dX9_triesFor_40 : decode cX9_triesFor 40 = .ok (.aload_n 0, 1) := by decide +kernel
theorem dX9_triesFor_41 : decode cX9_triesFor 41 = .ok (.iload_n 1, 1) := by decide +kernel
theorem dX9_triesFor_42 : decode cX9_triesFor 42 = .ok (.invokevirtual 315, 3) := by decide +kernel
theorem dX9_triesFor_45 : decode cX9_triesFor 45 = .ok (.invokestatic 113, 3) := by decide +kernel
theorem dX9_triesFor_48 : decode cX9_triesFor 48 = .ok (.invokevirtual 286, 3) := by decide +kernel
theorem dX9_triesFor_51 : decode cX9_triesFor 51 = .ok (.iconst 1, 1) := by decide +kernel
theorem dX9_triesFor_52 : decode cX9_triesFor 52 = .ok (.if_icmp .ne 5, 3) := by decide +kernel
theorem dX9_triesFor_55 : decode cX9_triesFor 55 = .ok (.iload_n 2, 1) := by decide +kernel
theorem dX9_triesFor_56 : decode cX9_triesFor 56 = .ok (.ireturn, 1) := by decide +kernel
theorem dX9_triesFor_57 : decode cX9_triesFor 57 = .ok (.iinc 2 1, 3) := by decide +kernel
theorem dX9_triesFor_60 : decode cX9_triesFor 60 = .ok (.goto (-38), 3) := by decide +kernel
theorem dX9_triesFor_63 : decode cX9_triesFor 63 = .ok (.iconst (-1), 1) := by decide +kernel
theorem dX9_triesFor_64 : decode cX9_triesFor 64 = .ok (.ireturn, 1) := by decide +kernel
theorem dX9_bestWatch_0 : decode cX9_bestWatch 0 = .ok (.aload_n 0, 1) := by decide +kernel
theorem dX9_bestWatch_1 : decode cX9_bestWatch 1 = .ok (.iload_n 1, 1) := by decide +kernel
theorem dX9_bestWatch_2 : decode cX9_bestWatch 2 = .ok (.invokevirtual 260, 3) := by decide +kernel
theorem dX9_bestWatch_5 : decode cX9_bestWatch 5 = .ok (.ifCond .eq 5, 3) := by decide +kernel
theorem dX9_bestWatch_8 : decode cX9_bestWatch 8 = .ok (.iconst 0, 1) := by decide +kernel
theorem dX9_bestWatch_9 : decode cX9_bestWatch 9 = .ok (.ireturn, 1) := by decide +kernel
theorem dX9_bestWatch_10 : decode cX9_bestWatch 10 = .ok (.aload_n 0, 1) := by decide +kernel
theorem dX9_bestWatch_11 : decode cX9_bestWatch 11 = .ok (.iload_n 1, 1) := by decide +kernel
theorem dX9_bestWatch_12 : decode cX9_bestWatch 12 = .ok (.invokevirtual 60, 3) := by decide +kernel
theorem dX9_bestWatch_15 : decode cX9_bestWatch 15 = .ok (.ifCond .ne 5, 3) := by decide +kernel
theorem dX9_bestWatch_18 : decode cX9_bestWatch 18 = .ok (.iconst (-1), 1) := by decide +kernel
theorem dX9_bestWatch_19 : decode cX9_bestWatch 19 = .ok (.ireturn, 1) := by decide +kernel
theorem dX9_bestWatch_20 : decode cX9_bestWatch 20 = .ok (.iconst 1, 1) := by decide +kernel
theorem dX9_bestWatch_21 : decode cX9_bestWatch 21 = .ok (.istore_n 2, 1) := by decide +kernel
theorem dX9_bestWatch_22 : decode cX9_bestWatch 22 = .ok (.iload_n 2, 1) := by decide +kernel
theorem dX9_bestWatch_23 : decode cX9_bestWatch 23 = .ok (.bipush 99, 2) := by decide +kernel
theorem dX9_bestWatch_25 : decode cX9_bestWatch 25 = .ok (.if_icmp .gt 38, 3) := by decide +kernel
theorem dX9_bestWatch_28 : decode cX9_bestWatch 28 = .ok (.aload_n 0, 1) := by decide +kernel
theorem dX9_bestWatch_29 : decode cX9_bestWatch 29 = .ok (.invokevirtual 280, 3) := by decide +kernel
theorem dX9_bestWatch_32 : decode cX9_bestWatch 32 = .ok (.aload_n 0, 1) := by decide +kernel
theorem dX9_bestWatch_33 : decode cX9_bestWatch 33 = .ok (.getfield 7, 3) := by decide +kernel
theorem dX9_bestWatch_36 : decode cX9_bestWatch 36 = .ok (.iconst 2, 1) := by decide +kernel
theorem dX9_bestWatch_37 : decode cX9_bestWatch 37 = .ok (.iload_n 2, 1) := by decide +kernel
theorem dX9_bestWatch_38 : decode cX9_bestWatch 38 = .ok (.iastore, 1) := by decide +kernel
theorem dX9_bestWatch_39 : decode cX9_bestWatch 39 = .ok (.aload_n 0, 1) := by decide +kernel
theorem dX9_bestWatch_40 : decode cX9_bestWatch 40 = .ok (.aload_n 0, 1) := by decide +kernel
theorem dX9_bestWatch_41 : decode cX9_bestWatch 41 = .ok (.iload_n 1, 1) := by decide +kernel
theorem dX9_bestWatch_42 : decode cX9_bestWatch 42 = .ok (.invokevirtual 315, 3) := by decide +kernel
theorem dX9_bestWatch_45 : decode cX9_bestWatch 45 = .ok (.invokestatic 113, 3) := by decide +kernel
theorem dX9_bestWatch_48 : decode cX9_bestWatch 48 = .ok (.invokevirtual 286, 3) := by decide +kernel
theorem dX9_bestWatch_51 : decode cX9_bestWatch 51 = .ok (.iconst 1, 1) := by decide +kernel
theorem dX9_bestWatch_52 : decode cX9_bestWatch 52 = .ok (.if_icmp .ne 5, 3) := by decide +kernel
theorem dX9_bestWatch_55 : decode cX9_bestWatch 55 = .ok (.iload_n 2, 1) := by decide +kernel
theorem dX9_bestWatch_56 : decode cX9_bestWatch 56 = .ok (.ireturn, 1) := by decide +kernel
theorem dX9_bestWatch_57 : decode cX9_bestWatch 57 = .ok (.iinc 2 1, 3) := by decide +kernel
theorem dX9_bestWatch_60 : decode cX9_bestWatch 60 = .ok (.goto (-38), 3) := by decide +kernel
theorem dX9_bestWatch_63 : decode cX9_bestWatch 63 = .ok (.iconst (-1), 1) := by decide +kernel
theorem dX9_bestWatch_64 : decode cX9_bestWatch 64 = .ok (.ireturn, 1) := by decide +kernel
theorem dX9_highestFloor_0 : decode cX9_highestFloor 0 = .ok (.aload_n 0, 1) := by decide +kernel
theorem dX9_highestFloor_1 : decode cX9_highestFloor 1 = .ok (.invokevirtual 48, 3) := by decide +kernel
theorem dX9_highestFloor_4 : decode cX9_highestFloor 4 = .ok (.ifCond .eq 5, 3) := by decide +kernel
theorem dX9_highestFloor_7 : decode cX9_highestFloor 7 = .ok (.iconst 0, 1) := by decide +kernel
theorem dX9_highestFloor_8 : decode cX9_highestFloor 8 = .ok (.ireturn, 1) := by decide +kernel
theorem dX9_highestFloor_9 : decode cX9_highestFloor 9 = .ok (.iconst (-1), 1) := by decide +kernel
theorem dX9_highestFloor_10 : decode cX9_highestFloor 10 = .ok (.istore_n 1, 1) := by decide +kernel
theorem dX9_highestFloor_11 : decode cX9_highestFloor 11 = .ok (.iconst 0, 1) := by decide +kernel
theorem dX9_highestFloor_12 : decode cX9_highestFloor 12 = .ok (.istore_n 2, 1) := by decide +kernel
theorem dX9_highestFloor_13 : decode cX9_highestFloor 13 = .ok (.iload_n 2, 1) := by decide +kernel
theorem dX9_highestFloor_14 : decode cX9_highestFloor 14 = .ok (.aload_n 0, 1) := by decide +kernel
theorem dX9_highestFloor_15 : decode cX9_highestFloor 15 = .ok (.getfield 7, 3) := by decide +kernel
theorem dX9_highestFloor_18 : decode cX9_highestFloor 18 = .ok (.iconst 0, 1) := by decide +kernel
theorem dX9_highestFloor_19 : decode cX9_highestFloor 19 = .ok (.iaload, 1) := by decide +kernel
theorem dX9_highestFloor_20 : decode cX9_highestFloor 20 = .ok (.if_icmp .ge 79, 3) := by decide +kernel
theorem dX9_highestFloor_23 : decode cX9_highestFloor 23 = .ok (.aload_n 0, 1) := by decide +kernel
theorem dX9_highestFloor_24 : decode cX9_highestFloor 24 = .ok (.iload_n 2, 1) := by decide +kernel
theorem dX9_highestFloor_25 : decode cX9_highestFloor 25 = .ok (.invokevirtual 60, 3) := by decide +kernel
theorem dX9_highestFloor_28 : decode cX9_highestFloor 28 = .ok (.ifCond .eq 43, 3) := by decide +kernel
theorem dX9_highestFloor_31 : decode cX9_highestFloor 31 = .ok (.aload_n 0, 1) := by decide +kernel
theorem dX9_highestFloor_32 : decode cX9_highestFloor 32 = .ok (.iload_n 2, 1) := by decide +kernel
theorem dX9_highestFloor_33 : decode cX9_highestFloor 33 = .ok (.bipush 11, 2) := by decide +kernel
theorem dX9_highestFloor_35 : decode cX9_highestFloor 35 = .ok (.invokevirtual 56, 3) := by decide +kernel
theorem dX9_highestFloor_38 : decode cX9_highestFloor 38 = .ok (.ifCond .ne 33, 3) := by decide +kernel
theorem dX9_highestFloor_41 : decode cX9_highestFloor 41 = .ok (.aload_n 0, 1) := by decide +kernel
theorem dX9_highestFloor_42 : decode cX9_highestFloor 42 = .ok (.iload_n 2, 1) := by decide +kernel
theorem dX9_highestFloor_43 : decode cX9_highestFloor 43 = .ok (.iconst 1, 1) := by decide +kernel
theorem dX9_highestFloor_44 : decode cX9_highestFloor 44 = .ok (.invokevirtual 56, 3) := by decide +kernel
theorem dX9_highestFloor_47 : decode cX9_highestFloor 47 = .ok (.ifCond .le 24, 3) := by decide +kernel
theorem dX9_highestFloor_50 : decode cX9_highestFloor 50 = .ok (.aload_n 0, 1) := by decide +kernel
theorem dX9_highestFloor_51 : decode cX9_highestFloor 51 = .ok (.iload_n 2, 1) := by decide +kernel
theorem dX9_highestFloor_52 : decode cX9_highestFloor 52 = .ok (.invokevirtual 63, 3) := by decide +kernel
theorem dX9_highestFloor_55 : decode cX9_highestFloor 55 = .ok (.ifCond .ne 12, 3) := by decide +kernel
theorem dX9_highestFloor_58 : decode cX9_highestFloor 58 = .ok (.aload_n 0, 1) := by decide +kernel
theorem dX9_highestFloor_59 : decode cX9_highestFloor 59 = .ok (.iload_n 2, 1) := by decide +kernel
theorem dX9_highestFloor_60 : decode cX9_highestFloor 60 = .ok (.iconst 2, 1) := by decide +kernel
theorem dX9_highestFloor_61 : decode cX9_highestFloor 61 = .ok (.invokevirtual 56, 3) := by decide +kernel
theorem dX9_highestFloor_64 : decode cX9_highestFloor 64 = .ok (.ifCond .le 7, 3) := by decide +kernel
theorem dX9_highestFloor_67 : decode cX9_highestFloor 67 = .ok (.iconst 1, 1) := by decide +kernel
theorem dX9_highestFloor_68 : decode cX9_highestFloor 68 = .ok (.goto 4, 3) := by decide +kernel
theorem dX9_highestFloor_71 : decode cX9_highestFloor 71 = .ok (.iconst 0, 1) := by decide +kernel
theorem dX9_highestFloor_72 : decode cX9_highestFloor 72 = .ok (.istore_n 3, 1) := by decide +kernel
theorem dX9_highestFloor_73 : decode cX9_highestFloor 73 = .ok (.iload_n 3, 1) := by decide +kernel
theorem dX9_highestFloor_74 : decode cX9_highestFloor 74 = .ok (.ifCond .eq 17, 3) := by decide +kernel
theorem dX9_highestFloor_77 : decode cX9_highestFloor 77 = .ok (.iload_n 1, 1) := by decide +kernel
theorem dX9_highestFloor_78 : decode cX9_highestFloor 78 = .ok (.aload_n 0, 1) := by decide +kernel
theorem dX9_highestFloor_79 : decode cX9_highestFloor 79 = .ok (.iload_n 2, 1) := by decide +kernel
theorem dX9_highestFloor_80 : decode cX9_highestFloor 80 = .ok (.bipush 8, 2) := by decide +kernel
theorem dX9_highestFloor_82 : decode cX9_highestFloor 82 = .ok (.invokevirtual 56, 3) := by decide +kernel
theorem dX9_highestFloor_85 : decode cX9_highestFloor 85 = .ok (.invokestatic 98, 3) := by decide +kernel
theorem dX9_highestFloor_88 : decode cX9_highestFloor 88 = .ok (.goto 4, 3) := by decide +kernel
theorem dX9_highestFloor_91 : decode cX9_highestFloor 91 = .ok (.iload_n 1, 1) := by decide +kernel
theorem dX9_highestFloor_92 : decode cX9_highestFloor 92 = .ok (.istore_n 1, 1) := by decide +kernel
theorem dX9_highestFloor_93 : decode cX9_highestFloor 93 = .ok (.iinc 2 1, 3) := by decide +kernel
theorem dX9_highestFloor_96 : decode cX9_highestFloor 96 = .ok (.goto (-83), 3) := by decide +kernel
theorem dX9_highestFloor_99 : decode cX9_highestFloor 99 = .ok (.iload_n 1, 1) := by decide +kernel
theorem dX9_highestFloor_100 : decode cX9_highestFloor 100 = .ok (.ireturn, 1) := by decide +kernel
theorem dX9_rescueWithout_0 : decode cX9_rescueWithout 0 = .ok (.aload_n 0, 1) := by decide +kernel
theorem dX9_rescueWithout_1 : decode cX9_rescueWithout 1 = .ok (.invokevirtual 280, 3) := by decide +kernel
theorem dX9_rescueWithout_4 : decode cX9_rescueWithout 4 = .ok (.aload_n 0, 1) := by decide +kernel
theorem dX9_rescueWithout_5 : decode cX9_rescueWithout 5 = .ok (.iload_n 1, 1) := by decide +kernel
theorem dX9_rescueWithout_6 : decode cX9_rescueWithout 6 = .ok (.invokevirtual 309, 3) := by decide +kernel
theorem dX9_rescueWithout_9 : decode cX9_rescueWithout 9 = .ok (.aload_n 0, 1) := by decide +kernel
theorem dX9_rescueWithout_10 : decode cX9_rescueWithout 10 = .ok (.iconst 1, 1) := by decide +kernel
theorem dX9_rescueWithout_11 : decode cX9_rescueWithout 11 = .ok (.invokevirtual 92, 3) := by decide +kernel
theorem dX9_rescueWithout_14 : decode cX9_rescueWithout 14 = .ok (.istore_n 2, 1) := by decide +kernel
theorem dX9_rescueWithout_15 : decode cX9_rescueWithout 15 = .ok (.aload_n 0, 1) := by decide +kernel
theorem dX9_rescueWithout_16 : decode cX9_rescueWithout 16 = .ok (.aload_n 0, 1) := by decide +kernel
theorem dX9_rescueWithout_17 : decode cX9_rescueWithout 17 = .ok (.invokevirtual 295, 3) := by decide +kernel
theorem dX9_rescueWithout_20 : decode cX9_rescueWithout 20 = .ok (.invokevirtual 286, 3) := by decide +kernel
theorem dX9_rescueWithout_23 : decode cX9_rescueWithout 23 = .ok (.ireturn, 1) := by decide +kernel
theorem dX9_keySlot_0 : decode cX9_keySlot 0 = .ok (.aload_n 0, 1) := by decide +kernel
theorem dX9_keySlot_1 : decode cX9_keySlot 1 = .ok (.invokevirtual 48, 3) := by decide +kernel
theorem dX9_keySlot_4 : decode cX9_keySlot 4 = .ok (.ifCond .eq 5, 3) := by decide +kernel
theorem dX9_keySlot_7 : decode cX9_keySlot 7 = .ok (.iconst 0, 1) := by decide +kernel
theorem dX9_keySlot_8 : decode cX9_keySlot 8 = .ok (.ireturn, 1) := by decide +kernel
theorem dX9_keySlot_9 : decode cX9_keySlot 9 = .ok (.iconst (-1), 1) := by decide +kernel
theorem dX9_keySlot_10 : decode cX9_keySlot 10 = .ok (.istore_n 1, 1) := by decide +kernel
theorem dX9_keySlot_11 : decode cX9_keySlot 11 = .ok (.iconst 0, 1) := by decide +kernel
theorem dX9_keySlot_12 : decode cX9_keySlot 12 = .ok (.istore_n 2, 1) := by decide +kernel
theorem dX9_keySlot_13 : decode cX9_keySlot 13 = .ok (.iconst 0, 1) := by decide +kernel
theorem dX9_keySlot_14 : decode cX9_keySlot 14 = .ok (.istore_n 3, 1) := by decide +kernel
theorem dX9_keySlot_15 : decode cX9_keySlot 15 = .ok (.iload_n 3, 1) := by decide +kernel
theorem dX9_keySlot_16 : decode cX9_keySlot 16 = .ok (.aload_n 0, 1) := by decide +kernel
theorem dX9_keySlot_17 : decode cX9_keySlot 17 = .ok (.getfield 7, 3) := by decide +kernel
theorem dX9_keySlot_20 : decode cX9_keySlot 20 = .ok (.iconst 0, 1) := by decide +kernel
theorem dX9_keySlot_21 : decode cX9_keySlot 21 = .ok (.iaload, 1) := by decide +kernel
theorem dX9_keySlot_22 : decode cX9_keySlot 22 = .ok (.if_icmp .ge 50, 3) := by decide +kernel
theorem dX9_keySlot_25 : decode cX9_keySlot 25 = .ok (.aload_n 0, 1) := by decide +kernel
theorem dX9_keySlot_26 : decode cX9_keySlot 26 = .ok (.iload_n 3, 1) := by decide +kernel
theorem dX9_keySlot_27 : decode cX9_keySlot 27 = .ok (.invokevirtual 70, 3) := by decide +kernel
theorem dX9_keySlot_30 : decode cX9_keySlot 30 = .ok (.ifCond .eq 11, 3) := by decide +kernel
theorem dX9_keySlot_33 : decode cX9_keySlot 33 = .ok (.aload_n 0, 1) := by decide +kernel
theorem dX9_keySlot_34 : decode cX9_keySlot 34 = .ok (.iload_n 3, 1) := by decide +kernel
theorem dX9_keySlot_35 : decode cX9_keySlot 35 = .ok (.invokevirtual 318, 3) := by decide +kernel
theorem dX9_keySlot_38 : decode cX9_keySlot 38 = .ok (.goto 4, 3) := by decide +kernel
theorem dX9_keySlot_41 : decode cX9_keySlot 41 = .ok (.iconst (-1), 1) := by decide +kernel
theorem dX9_keySlot_42 : decode cX9_keySlot 42 = .ok (.istore 4, 2) := by decide +kernel
theorem dX9_keySlot_44 : decode cX9_keySlot 44 = .ok (.iload 4, 2) := by decide +kernel
theorem dX9_keySlot_46 : decode cX9_keySlot 46 = .ok (.iconst (-1), 1) := by decide +kernel
theorem dX9_keySlot_47 : decode cX9_keySlot 47 = .ok (.if_icmp .eq 19, 3) := by decide +kernel
theorem dX9_keySlot_50 : decode cX9_keySlot 50 = .ok (.iload_n 1, 1) := by decide +kernel
theorem dX9_keySlot_51 : decode cX9_keySlot 51 = .ok (.iconst (-1), 1) := by decide +kernel
theorem dX9_keySlot_52 : decode cX9_keySlot 52 = .ok (.if_icmp .eq 9, 3) := by decide +kernel
theorem dX9_keySlot_55 : decode cX9_keySlot 55 = .ok (.iload 4, 2) := by decide +kernel
theorem dX9_keySlot_57 : decode cX9_keySlot 57 = .ok (.iload_n 2, 1) := by decide +kernel
theorem dX9_keySlot_58 : decode cX9_keySlot 58 = .ok (.if_icmp .ge 8, 3) := by decide +kernel
theorem dX9_keySlot_61 : decode cX9_keySlot 61 = .ok (.iload_n 3, 1) := by decide +kernel
theorem dX9_keySlot_62 : decode cX9_keySlot 62 = .ok (.istore_n 1, 1) := by decide +kernel
theorem dX9_keySlot_63 : decode cX9_keySlot 63 = .ok (.iload 4, 2) := by decide +kernel
theorem dX9_keySlot_65 : decode cX9_keySlot 65 = .ok (.istore_n 2, 1) := by decide +kernel
theorem dX9_keySlot_66 : decode cX9_keySlot 66 = .ok (.iinc 3 1, 3) := by decide +kernel
theorem dX9_keySlot_69 : decode cX9_keySlot 69 = .ok (.goto (-54), 3) := by decide +kernel
theorem dX9_keySlot_72 : decode cX9_keySlot 72 = .ok (.iload_n 1, 1) := by decide +kernel
theorem dX9_keySlot_73 : decode cX9_keySlot 73 = .ok (.ireturn, 1) := by decide +kernel
theorem dX9_successShare_0 : decode cX9_successShare 0 = .ok (.aload_n 0, 1) := by decide +kernel
theorem dX9_successShare_1 : decode cX9_successShare 1 = .ok (.invokevirtual 48, 3) := by decide +kernel
theorem dX9_successShare_4 : decode cX9_successShare 4 = .ok (.ifCond .eq 5, 3) := by decide +kernel
theorem dX9_successShare_7 : decode cX9_successShare 7 = .ok (.fconst 0, 1) := by decide +kernel
theorem dX9_successShare_8 : decode cX9_successShare 8 = .ok (.freturn, 1) := by decide +kernel
theorem dX9_successShare_9 : decode cX9_successShare 9 = .ok (.aload_n 0, 1) := by decide +kernel
theorem dX9_successShare_10 : decode cX9_successShare 10 = .ok (.getfield 7, 3) := by decide +kernel
theorem dX9_successShare_13 : decode cX9_successShare 13 = .ok (.bipush 13, 2) := by decide +kernel
theorem dX9_successShare_15 : decode cX9_successShare 15 = .ok (.iaload, 1) := by decide +kernel
theorem dX9_successShare_16 : decode cX9_successShare 16 = .ok (.ifCond .ne 7, 3) := by decide +kernel
theorem dX9_successShare_19 : decode cX9_successShare 19 = .ok (.fconst 0, 1) := by decide +kernel
theorem dX9_successShare_20 : decode cX9_successShare 20 = .ok (.goto 20, 3) := by decide +kernel
theorem dX9_successShare_23 : decode cX9_successShare 23 = .ok (.aload_n 0, 1) := by decide +kernel
theorem dX9_successShare_24 : decode cX9_successShare 24 = .ok (.getfield 7, 3) := by decide +kernel
theorem dX9_successShare_27 : decode cX9_successShare 27 = .ok (.bipush 17, 2) := by decide +kernel
theorem dX9_successShare_29 : decode cX9_successShare 29 = .ok (.iaload, 1) := by decide +kernel
theorem dX9_successShare_30 : decode cX9_successShare 30 = .ok (.i2f, 1) := by decide +kernel
theorem dX9_successShare_31 : decode cX9_successShare 31 = .ok (.aload_n 0, 1) := by decide +kernel
theorem dX9_successShare_32 : decode cX9_successShare 32 = .ok (.getfield 7, 3) := by decide +kernel
theorem dX9_successShare_35 : decode cX9_successShare 35 = .ok (.bipush 13, 2) := by decide +kernel
theorem dX9_successShare_37 : decode cX9_successShare 37 = .ok (.iaload, 1) := by decide +kernel
theorem dX9_successShare_38 : decode cX9_successShare 38 = .ok (.i2f, 1) := by decide +kernel
theorem dX9_successShare_39 : decode cX9_successShare 39 = .ok (.fdiv, 1) := by decide +kernel
theorem dX9_successShare_40 : decode cX9_successShare 40 = .ok (.freturn, 1) := by decide +kernel
theorem dX9_meanBoot_0 : decode cX9_meanBoot 0 = .ok (.aload_n 0, 1) := by decide +kernel
theorem dX9_meanBoot_1 : decode cX9_meanBoot 1 = .ok (.invokevirtual 48, 3) := by decide +kernel
theorem dX9_meanBoot_4 : decode cX9_meanBoot 4 = .ok (.ifCond .eq 5, 3) := by decide +kernel
theorem dX9_meanBoot_7 : decode cX9_meanBoot 7 = .ok (.dconst 0, 1) := by decide +kernel
theorem dX9_meanBoot_8 : decode cX9_meanBoot 8 = .ok (.dreturn, 1) := by decide +kernel
theorem dX9_meanBoot_9 : decode cX9_meanBoot 9 = .ok (.aload_n 0, 1) := by decide +kernel
theorem dX9_meanBoot_10 : decode cX9_meanBoot 10 = .ok (.getfield 7, 3) := by decide +kernel
theorem dX9_meanBoot_13 : decode cX9_meanBoot 13 = .ok (.bipush 12, 2) := by decide +kernel
theorem dX9_meanBoot_15 : decode cX9_meanBoot 15 = .ok (.iaload, 1) := by decide +kernel
theorem dX9_meanBoot_16 : decode cX9_meanBoot 16 = .ok (.ifCond .ne 7, 3) := by decide +kernel
theorem dX9_meanBoot_19 : decode cX9_meanBoot 19 = .ok (.dconst 0, 1) := by decide +kernel
theorem dX9_meanBoot_20 : decode cX9_meanBoot 20 = .ok (.goto 19, 3) := by decide +kernel
theorem dX9_meanBoot_23 : decode cX9_meanBoot 23 = .ok (.aload_n 0, 1) := by decide +kernel
theorem dX9_meanBoot_24 : decode cX9_meanBoot 24 = .ok (.getfield 7, 3) := by decide +kernel
theorem dX9_meanBoot_27 : decode cX9_meanBoot 27 = .ok (.iconst 1, 1) := by decide +kernel
theorem dX9_meanBoot_28 : decode cX9_meanBoot 28 = .ok (.iaload, 1) := by decide +kernel
theorem dX9_meanBoot_29 : decode cX9_meanBoot 29 = .ok (.i2d, 1) := by decide +kernel
theorem dX9_meanBoot_30 : decode cX9_meanBoot 30 = .ok (.aload_n 0, 1) := by decide +kernel
theorem dX9_meanBoot_31 : decode cX9_meanBoot 31 = .ok (.getfield 7, 3) := by decide +kernel
theorem dX9_meanBoot_34 : decode cX9_meanBoot 34 = .ok (.bipush 12, 2) := by decide +kernel
theorem dX9_meanBoot_36 : decode cX9_meanBoot 36 = .ok (.iaload, 1) := by decide +kernel
theorem dX9_meanBoot_37 : decode cX9_meanBoot 37 = .ok (.i2d, 1) := by decide +kernel
theorem dX9_meanBoot_38 : decode cX9_meanBoot 38 = .ok (.ddiv, 1) := by decide +kernel
theorem dX9_meanBoot_39 : decode cX9_meanBoot 39 = .ok (.dreturn, 1) := by decide +kernel
theorem dX9_says_0 : decode cX9_says 0 = .ok (.aload_n 0, 1) := by decide +kernel
theorem dX9_says_1 : decode cX9_says 1 = .ok (.getfield 30, 3) := by decide +kernel
theorem dX9_says_4 : decode cX9_says 4 = .ok (.aload_n 0, 1) := by decide +kernel
theorem dX9_says_5 : decode cX9_says 5 = .ok (.getfield 321, 3) := by decide +kernel
theorem dX9_says_8 : decode cX9_says 8 = .ok (.iload_n 1, 1) := by decide +kernel
theorem dX9_says_9 : decode cX9_says 9 = .ok (.iastore, 1) := by decide +kernel
theorem dX9_says_10 : decode cX9_says 10 = .ok (.aload_n 0, 1) := by decide +kernel
theorem dX9_says_11 : decode cX9_says 11 = .ok (.dup, 1) := by decide +kernel
theorem dX9_says_12 : decode cX9_says 12 = .ok (.getfield 321, 3) := by decide +kernel
theorem dX9_says_15 : decode cX9_says 15 = .ok (.iconst 1, 1) := by decide +kernel
theorem dX9_says_16 : decode cX9_says 16 = .ok (.iadd, 1) := by decide +kernel
theorem dX9_says_17 : decode cX9_says 17 = .ok (.putfield 321, 3) := by decide +kernel
theorem dX9_says_20 : decode cX9_says 20 = .ok (.return_, 1) := by decide +kernel
theorem dX9_saysNumber_0 : decode cX9_saysNumber 0 = .ok (.iconst 1, 1) := by decide +kernel
theorem dX9_saysNumber_1 : decode cX9_saysNumber 1 = .ok (.istore_n 2, 1) := by decide +kernel
theorem dX9_saysNumber_2 : decode cX9_saysNumber 2 = .ok (.iload_n 1, 1) := by decide +kernel
theorem dX9_saysNumber_3 : decode cX9_saysNumber 3 = .ok (.iload_n 2, 1) := by decide +kernel
theorem dX9_saysNumber_4 : decode cX9_saysNumber 4 = .ok (.idiv, 1) := by decide +kernel
theorem dX9_saysNumber_5 : decode cX9_saysNumber 5 = .ok (.bipush 9, 2) := by decide +kernel
theorem dX9_saysNumber_7 : decode cX9_saysNumber 7 = .ok (.if_icmp .le 11, 3) := by decide +kernel
theorem dX9_saysNumber_10 : decode cX9_saysNumber 10 = .ok (.iload_n 2, 1) := by decide +kernel
theorem dX9_saysNumber_11 : decode cX9_saysNumber 11 = .ok (.bipush 10, 2) := by decide +kernel
theorem dX9_saysNumber_13 : decode cX9_saysNumber 13 = .ok (.imul, 1) := by decide +kernel
theorem dX9_saysNumber_14 : decode cX9_saysNumber 14 = .ok (.istore_n 2, 1) := by decide +kernel
theorem dX9_saysNumber_15 : decode cX9_saysNumber 15 = .ok (.goto (-13), 3) := by decide +kernel
theorem dX9_saysNumber_18 : decode cX9_saysNumber 18 = .ok (.iload_n 2, 1) := by decide +kernel
theorem dX9_saysNumber_19 : decode cX9_saysNumber 19 = .ok (.ifCond .le 24, 3) := by decide +kernel
theorem dX9_saysNumber_22 : decode cX9_saysNumber 22 = .ok (.aload_n 0, 1) := by decide +kernel
theorem dX9_saysNumber_23 : decode cX9_saysNumber 23 = .ok (.bipush 48, 2) := by decide +kernel
theorem dX9_saysNumber_25 : decode cX9_saysNumber 25 = .ok (.iload_n 1, 1) := by decide +kernel
theorem dX9_saysNumber_26 : decode cX9_saysNumber 26 = .ok (.iload_n 2, 1) := by decide +kernel
theorem dX9_saysNumber_27 : decode cX9_saysNumber 27 = .ok (.idiv, 1) := by decide +kernel
theorem dX9_saysNumber_28 : decode cX9_saysNumber 28 = .ok (.bipush 10, 2) := by decide +kernel
theorem dX9_saysNumber_30 : decode cX9_saysNumber 30 = .ok (.irem, 1) := by decide +kernel
theorem dX9_saysNumber_31 : decode cX9_saysNumber 31 = .ok (.iadd, 1) := by decide +kernel
theorem dX9_saysNumber_32 : decode cX9_saysNumber 32 = .ok (.invokevirtual 324, 3) := by decide +kernel
theorem dX9_saysNumber_35 : decode cX9_saysNumber 35 = .ok (.iload_n 2, 1) := by decide +kernel
theorem dX9_saysNumber_36 : decode cX9_saysNumber 36 = .ok (.bipush 10, 2) := by decide +kernel
theorem dX9_saysNumber_38 : decode cX9_saysNumber 38 = .ok (.idiv, 1) := by decide +kernel
theorem dX9_saysNumber_39 : decode cX9_saysNumber 39 = .ok (.istore_n 2, 1) := by decide +kernel
theorem dX9_saysNumber_40 : decode cX9_saysNumber 40 = .ok (.goto (-22), 3) := by decide +kernel
theorem dX9_saysNumber_43 : decode cX9_saysNumber 43 = .ok (.return_, 1) := by decide +kernel
theorem dX9_saysSlot_0 : decode cX9_saysSlot 0 = .ok (.aload_n 0, 1) := by decide +kernel
theorem dX9_saysSlot_1 : decode cX9_saysSlot 1 = .ok (.iload_n 1, 1) := by decide +kernel
theorem dX9_saysSlot_2 : decode cX9_saysSlot 2 = .ok (.invokevirtual 60, 3) := by decide +kernel
theorem dX9_saysSlot_5 : decode cX9_saysSlot 5 = .ok (.ifCond .ne 10, 3) := by decide +kernel
theorem dX9_saysSlot_8 : decode cX9_saysSlot 8 = .ok (.aload_n 0, 1) := by decide +kernel
theorem dX9_saysSlot_9 : decode cX9_saysSlot 9 = .ok (.bipush 45, 2) := by decide +kernel
theorem dX9_saysSlot_11 : decode cX9_saysSlot 11 = .ok (.invokevirtual 324, 3) := by decide +kernel
theorem dX9_saysSlot_14 : decode cX9_saysSlot 14 = .ok (.return_, 1) := by decide +kernel
theorem dX9_saysSlot_15 : decode cX9_saysSlot 15 = .ok (.aload_n 0, 1) := by decide +kernel
theorem dX9_saysSlot_16 : decode cX9_saysSlot 16 = .ok (.aload_n 0, 1) := by decide +kernel
theorem dX9_saysSlot_17 : decode cX9_saysSlot 17 = .ok (.iload_n 1, 1) := by decide +kernel
theorem dX9_saysSlot_18 : decode cX9_saysSlot 18 = .ok (.bipush 8, 2) := by decide +kernel
theorem dX9_saysSlot_20 : decode cX9_saysSlot 20 = .ok (.invokevirtual 56, 3) := by decide +kernel
theorem dX9_saysSlot_23 : decode cX9_saysSlot 23 = .ok (.invokevirtual 327, 3) := by decide +kernel
theorem dX9_saysSlot_26 : decode cX9_saysSlot 26 = .ok (.aload_n 0, 1) := by decide +kernel
theorem dX9_saysSlot_27 : decode cX9_saysSlot 27 = .ok (.bipush 58, 2) := by decide +kernel
theorem dX9_saysSlot_29 : decode cX9_saysSlot 29 = .ok (.invokevirtual 324, 3) := by decide +kernel
theorem dX9_saysSlot_32 : decode cX9_saysSlot 32 = .ok (.aload_n 0, 1) := by decide +kernel
theorem dX9_saysSlot_33 : decode cX9_saysSlot 33 = .ok (.aload_n 0, 1) := by decide +kernel
theorem dX9_saysSlot_34 : decode cX9_saysSlot 34 = .ok (.iload_n 1, 1) := by decide +kernel
theorem dX9_saysSlot_35 : decode cX9_saysSlot 35 = .ok (.iconst 1, 1) := by decide +kernel
theorem dX9_saysSlot_36 : decode cX9_saysSlot 36 = .ok (.invokevirtual 56, 3) := by decide +kernel
theorem dX9_saysSlot_39 : decode cX9_saysSlot 39 = .ok (.invokevirtual 327, 3) := by decide +kernel
theorem dX9_saysSlot_42 : decode cX9_saysSlot 42 = .ok (.aload_n 0, 1) := by decide +kernel
theorem dX9_saysSlot_43 : decode cX9_saysSlot 43 = .ok (.bipush 47, 2) := by decide +kernel
theorem dX9_saysSlot_45 : decode cX9_saysSlot 45 = .ok (.invokevirtual 324, 3) := by decide +kernel
theorem dX9_saysSlot_48 : decode cX9_saysSlot 48 = .ok (.aload_n 0, 1) := by decide +kernel
theorem dX9_saysSlot_49 : decode cX9_saysSlot 49 = .ok (.aload_n 0, 1) := by decide +kernel
theorem dX9_saysSlot_50 : decode cX9_saysSlot 50 = .ok (.iload_n 1, 1) := by decide +kernel
theorem dX9_saysSlot_51 : decode cX9_saysSlot 51 = .ok (.iconst 2, 1) := by decide +kernel
theorem dX9_saysSlot_52 : decode cX9_saysSlot 52 = .ok (.invokevirtual 56, 3) := by decide +kernel
theorem dX9_saysSlot_55 : decode cX9_saysSlot 55 = .ok (.invokevirtual 327, 3) := by decide +kernel
theorem dX9_saysSlot_58 : decode cX9_saysSlot 58 = .ok (.aload_n 0, 1) := by decide +kernel
theorem dX9_saysSlot_59 : decode cX9_saysSlot 59 = .ok (.iload_n 1, 1) := by decide +kernel
theorem dX9_saysSlot_60 : decode cX9_saysSlot 60 = .ok (.invokevirtual 63, 3) := by decide +kernel
theorem dX9_saysSlot_63 : decode cX9_saysSlot 63 = .ok (.ifCond .eq 9, 3) := by decide +kernel
theorem dX9_saysSlot_66 : decode cX9_saysSlot 66 = .ok (.aload_n 0, 1) := by decide +kernel
theorem dX9_saysSlot_67 : decode cX9_saysSlot 67 = .ok (.bipush 33, 2) := by decide +kernel
theorem dX9_saysSlot_69 : decode cX9_saysSlot 69 = .ok (.invokevirtual 324, 3) := by decide +kernel
theorem dX9_saysSlot_72 : decode cX9_saysSlot 72 = .ok (.aload_n 0, 1) := by decide +kernel
theorem dX9_saysSlot_73 : decode cX9_saysSlot 73 = .ok (.iload_n 1, 1) := by decide +kernel
theorem dX9_saysSlot_74 : decode cX9_saysSlot 74 = .ok (.invokevirtual 272, 3) := by decide +kernel
theorem dX9_saysSlot_77 : decode cX9_saysSlot 77 = .ok (.ifCond .eq 9, 3) := by decide +kernel
theorem dX9_saysSlot_80 : decode cX9_saysSlot 80 = .ok (.aload_n 0, 1) := by decide +kernel
theorem dX9_saysSlot_81 : decode cX9_saysSlot 81 = .ok (.bipush 42, 2) := by decide +kernel
theorem dX9_saysSlot_83 : decode cX9_saysSlot 83 = .ok (.invokevirtual 324, 3) := by decide +kernel
theorem dX9_saysSlot_86 : decode cX9_saysSlot 86 = .ok (.return_, 1) := by decide +kernel
theorem dX9_writeSlots_0 : decode cX9_writeSlots 0 = .ok (.aload_n 0, 1) := by decide +kernel
theorem dX9_writeSlots_1 : decode cX9_writeSlots 1 = .ok (.invokevirtual 48, 3) := by decide +kernel
theorem dX9_writeSlots_4 : decode cX9_writeSlots 4 = .ok (.ifCond .eq 5, 3) := by decide +kernel
theorem dX9_writeSlots_7 : decode cX9_writeSlots 7 = .ok (.iconst 0, 1) := by decide +kernel
theorem dX9_writeSlots_8 : decode cX9_writeSlots 8 = .ok (.ireturn, 1) := by decide +kernel
theorem dX9_writeSlots_9 : decode cX9_writeSlots 9 = .ok (.aload_n 0, 1) := by decide +kernel
theorem dX9_writeSlots_10 : decode cX9_writeSlots 10 = .ok (.iconst 0, 1) := by decide +kernel
theorem dX9_writeSlots_11 : decode cX9_writeSlots 11 = .ok (.putfield 321, 3) := by decide +kernel
theorem dX9_writeSlots_14 : decode cX9_writeSlots 14 = .ok (.iconst 0, 1) := by decide +kernel
theorem dX9_writeSlots_15 : decode cX9_writeSlots 15 = .ok (.istore_n 1, 1) := by decide +kernel
theorem dX9_writeSlots_16 : decode cX9_writeSlots 16 = .ok (.iload_n 1, 1) := by decide +kernel
theorem dX9_writeSlots_17 : decode cX9_writeSlots 17 = .ok (.aload_n 0, 1) := by decide +kernel
theorem dX9_writeSlots_18 : decode cX9_writeSlots 18 = .ok (.getfield 7, 3) := by decide +kernel
theorem dX9_writeSlots_21 : decode cX9_writeSlots 21 = .ok (.iconst 0, 1) := by decide +kernel
theorem dX9_writeSlots_22 : decode cX9_writeSlots 22 = .ok (.iaload, 1) := by decide +kernel
theorem dX9_writeSlots_23 : decode cX9_writeSlots 23 = .ok (.if_icmp .ge 24, 3) := by decide +kernel
theorem dX9_writeSlots_26 : decode cX9_writeSlots 26 = .ok (.iload_n 1, 1) := by decide +kernel
theorem dX9_writeSlots_27 : decode cX9_writeSlots 27 = .ok (.ifCond .le 9, 3) := by decide +kernel
theorem dX9_writeSlots_30 : decode cX9_writeSlots 30 = .ok (.aload_n 0, 1) := by decide +kernel
theorem dX9_writeSlots_31 : decode cX9_writeSlots 31 = .ok (.bipush 32, 2) := by decide +kernel
theorem dX9_writeSlots_33 : decode cX9_writeSlots 33 = .ok (.invokevirtual 324, 3) := by decide +kernel
theorem dX9_writeSlots_36 : decode cX9_writeSlots 36 = .ok (.aload_n 0, 1) := by decide +kernel
theorem dX9_writeSlots_37 : decode cX9_writeSlots 37 = .ok (.iload_n 1, 1) := by decide +kernel
theorem dX9_writeSlots_38 : decode cX9_writeSlots 38 = .ok (.invokevirtual 330, 3) := by decide +kernel
theorem dX9_writeSlots_41 : decode cX9_writeSlots 41 = .ok (.iinc 1 1, 3) := by decide +kernel
theorem dX9_writeSlots_44 : decode cX9_writeSlots 44 = .ok (.goto (-28), 3) := by decide +kernel
theorem dX9_writeSlots_47 : decode cX9_writeSlots 47 = .ok (.aload_n 0, 1) := by decide +kernel
theorem dX9_writeSlots_48 : decode cX9_writeSlots 48 = .ok (.getfield 321, 3) := by decide +kernel
theorem dX9_writeSlots_51 : decode cX9_writeSlots 51 = .ok (.ireturn, 1) := by decide +kernel
theorem dX9_writeBoots_0 : decode cX9_writeBoots 0 = .ok (.aload_n 0, 1) := by decide +kernel
theorem dX9_writeBoots_1 : decode cX9_writeBoots 1 = .ok (.invokevirtual 48, 3) := by decide +kernel
theorem dX9_writeBoots_4 : decode cX9_writeBoots 4 = .ok (.ifCond .eq 5, 3) := by decide +kernel
theorem dX9_writeBoots_7 : decode cX9_writeBoots 7 = .ok (.iconst 0, 1) := by decide +kernel
theorem dX9_writeBoots_8 : decode cX9_writeBoots 8 = .ok (.ireturn, 1) := by decide +kernel
theorem dX9_writeBoots_9 : decode cX9_writeBoots 9 = .ok (.aload_n 0, 1) := by decide +kernel
theorem dX9_writeBoots_10 : decode cX9_writeBoots 10 = .ok (.iconst 0, 1) := by decide +kernel
theorem dX9_writeBoots_11 : decode cX9_writeBoots 11 = .ok (.putfield 321, 3) := by decide +kernel
theorem dX9_writeBoots_14 : decode cX9_writeBoots 14 = .ok (.iconst 0, 1) := by decide +kernel
theorem dX9_writeBoots_15 : decode cX9_writeBoots 15 = .ok (.istore_n 1, 1) := by decide +kernel
theorem dX9_writeBoots_16 : decode cX9_writeBoots 16 = .ok (.iload_n 1, 1) := by decide +kernel
theorem dX9_writeBoots_17 : decode cX9_writeBoots 17 = .ok (.aload_n 0, 1) := by decide +kernel
theorem dX9_writeBoots_18 : decode cX9_writeBoots 18 = .ok (.getfield 7, 3) := by decide +kernel
theorem dX9_writeBoots_21 : decode cX9_writeBoots 21 = .ok (.bipush 28, 2) := by decide +kernel
theorem dX9_writeBoots_23 : decode cX9_writeBoots 23 = .ok (.iaload, 1) := by decide +kernel
theorem dX9_writeBoots_24 : decode cX9_writeBoots 24 = .ok (.if_icmp .ge 87, 3) := by decide +kernel
theorem dX9_writeBoots_27 : decode cX9_writeBoots 27 = .ok (.bipush 29, 2) := by decide +kernel
theorem dX9_writeBoots_29 : decode cX9_writeBoots 29 = .ok (.iconst 4, 1) := by decide +kernel
theorem dX9_writeBoots_30 : decode cX9_writeBoots 30 = .ok (.iload_n 1, 1) := by decide +kernel
theorem dX9_writeBoots_31 : decode cX9_writeBoots 31 = .ok (.imul, 1) := by decide +kernel
theorem dX9_writeBoots_32 : decode cX9_writeBoots 32 = .ok (.iadd, 1) := by decide +kernel
theorem dX9_writeBoots_33 : decode cX9_writeBoots 33 = .ok (.istore_n 2, 1) := by decide +kernel
theorem dX9_writeBoots_34 : decode cX9_writeBoots 34 = .ok (.iload_n 1, 1) := by decide +kernel
theorem dX9_writeBoots_35 : decode cX9_writeBoots 35 = .ok (.ifCond .le 9, 3) := by decide +kernel
theorem dX9_writeBoots_38 : decode cX9_writeBoots 38 = .ok (.aload_n 0, 1) := by decide +kernel
theorem dX9_writeBoots_39 : decode cX9_writeBoots 39 = .ok (.bipush 32, 2) := by decide +kernel
theorem dX9_writeBoots_41 : decode cX9_writeBoots 41 = .ok (.invokevirtual 324, 3) := by decide +kernel
theorem dX9_writeBoots_44 : decode cX9_writeBoots 44 = .ok (.aload_n 0, 1) := by decide +kernel
theorem dX9_writeBoots_45 : decode cX9_writeBoots 45 = .ok (.aload_n 0, 1) := by decide +kernel
theorem dX9_writeBoots_46 : decode cX9_writeBoots 46 = .ok (.getfield 7, 3) := by decide +kernel
theorem dX9_writeBoots_49 : decode cX9_writeBoots 49 = .ok (.iload_n 2, 1) := by decide +kernel
theorem dX9_writeBoots_50 : decode cX9_writeBoots 50 = .ok (.iaload, 1) := by decide +kernel
theorem dX9_writeBoots_51 : decode cX9_writeBoots 51 = .ok (.invokevirtual 327, 3) := by decide +kernel
theorem dX9_writeBoots_54 : decode cX9_writeBoots 54 = .ok (.aload_n 0, 1) := by decide +kernel
theorem dX9_writeBoots_55 : decode cX9_writeBoots 55 = .ok (.ldc_w 333, 3) := by decide +kernel
theorem dX9_writeBoots_58 : decode cX9_writeBoots 58 = .ok (.aload_n 0, 1) := by decide +kernel
theorem dX9_writeBoots_59 : decode cX9_writeBoots 59 = .ok (.getfield 7, 3) := by decide +kernel
theorem dX9_writeBoots_62 : decode cX9_writeBoots 62 = .ok (.iload_n 2, 1) := by decide +kernel
theorem dX9_writeBoots_63 : decode cX9_writeBoots 63 = .ok (.iconst 1, 1) := by decide +kernel
theorem dX9_writeBoots_64 : decode cX9_writeBoots 64 = .ok (.iadd, 1) := by decide +kernel
theorem dX9_writeBoots_65 : decode cX9_writeBoots 65 = .ok (.iaload, 1) := by decide +kernel
theorem dX9_writeBoots_66 : decode cX9_writeBoots 66 = .ok (.invokevirtual 182, 3) := by decide +kernel
theorem dX9_writeBoots_69 : decode cX9_writeBoots 69 = .ok (.invokevirtual 324, 3) := by decide +kernel
theorem dX9_writeBoots_72 : decode cX9_writeBoots 72 = .ok (.aload_n 0, 1) := by decide +kernel
theorem dX9_writeBoots_73 : decode cX9_writeBoots 73 = .ok (.getfield 7, 3) := by decide +kernel
theorem dX9_writeBoots_76 : decode cX9_writeBoots 76 = .ok (.iload_n 2, 1) := by decide +kernel
theorem dX9_writeBoots_77 : decode cX9_writeBoots 77 = .ok (.iconst 3, 1) := by decide +kernel
theorem dX9_writeBoots_78 : decode cX9_writeBoots 78 = .ok (.iadd, 1) := by decide +kernel
theorem dX9_writeBoots_79 : decode cX9_writeBoots 79 = .ok (.iaload, 1) := by decide +kernel
theorem dX9_writeBoots_80 : decode cX9_writeBoots 80 = .ok (.iconst (-1), 1) := by decide +kernel
theorem dX9_writeBoots_81 : decode cX9_writeBoots 81 = .ok (.if_icmp .ne 12, 3) := by decide +kernel
theorem dX9_writeBoots_84 : decode cX9_writeBoots 84 = .ok (.aload_n 0, 1) := by decide +kernel
theorem dX9_writeBoots_85 : decode cX9_writeBoots 85 = .ok (.bipush 114, 2) := by decide +kernel
theorem dX9_writeBoots_87 : decode cX9_writeBoots 87 = .ok (.invokevirtual 324, 3) := by decide +kernel
theorem dX9_writeBoots_90 : decode cX9_writeBoots 90 = .ok (.goto 15, 3) := by decide +kernel
theorem dX9_writeBoots_93 : decode cX9_writeBoots 93 = .ok (.aload_n 0, 1) := by decide +kernel
theorem dX9_writeBoots_94 : decode cX9_writeBoots 94 = .ok (.aload_n 0, 1) := by decide +kernel
theorem dX9_writeBoots_95 : decode cX9_writeBoots 95 = .ok (.getfield 7, 3) := by decide +kernel
theorem dX9_writeBoots_98 : decode cX9_writeBoots 98 = .ok (.iload_n 2, 1) := by decide +kernel
theorem dX9_writeBoots_99 : decode cX9_writeBoots 99 = .ok (.iconst 3, 1) := by decide +kernel
theorem dX9_writeBoots_100 : decode cX9_writeBoots 100 = .ok (.iadd, 1) := by decide +kernel
theorem dX9_writeBoots_101 : decode cX9_writeBoots 101 = .ok (.iaload, 1) := by decide +kernel
theorem dX9_writeBoots_102 : decode cX9_writeBoots 102 = .ok (.invokevirtual 327, 3) := by decide +kernel
theorem dX9_writeBoots_105 : decode cX9_writeBoots 105 = .ok (.iinc 1 1, 3) := by decide +kernel
theorem dX9_writeBoots_108 : decode cX9_writeBoots 108 = .ok (.goto (-92), 3) := by decide +kernel
theorem dX9_writeBoots_111 : decode cX9_writeBoots 111 = .ok (.aload_n 0, 1) := by decide +kernel
theorem dX9_writeBoots_112 : decode cX9_writeBoots 112 = .ok (.getfield 321, 3) := by decide +kernel
theorem dX9_writeBoots_115 : decode cX9_writeBoots 115 = .ok (.ifCond .ne 9, 3) := by decide +kernel
theorem dX9_writeBoots_118 : decode cX9_writeBoots 118 = .ok (.aload_n 0, 1) := by decide +kernel
theorem dX9_writeBoots_119 : decode cX9_writeBoots 119 = .ok (.bipush 45, 2) := by decide +kernel
theorem dX9_writeBoots_121 : decode cX9_writeBoots 121 = .ok (.invokevirtual 324, 3) := by decide +kernel
theorem dX9_writeBoots_124 : decode cX9_writeBoots 124 = .ok (.aload_n 0, 1) := by decide +kernel
theorem dX9_writeBoots_125 : decode cX9_writeBoots 125 = .ok (.getfield 321, 3) := by decide +kernel
theorem dX9_writeBoots_128 : decode cX9_writeBoots 128 = .ok (.ireturn, 1) := by decide +kernel
theorem dX9_saysWord_0 : decode cX9_saysWord 0 = .ok (.iconst 0, 1) := by decide +kernel
theorem dX9_saysWord_1 : decode cX9_saysWord 1 = .ok (.istore_n 2, 1) := by decide +kernel
theorem dX9_saysWord_2 : decode cX9_saysWord 2 = .ok (.iload_n 2, 1) := by decide +kernel
theorem dX9_saysWord_3 : decode cX9_saysWord 3 = .ok (.aload_n 1, 1) := by decide +kernel
theorem dX9_saysWord_4 : decode cX9_saysWord 4 = .ok (.invokevirtual 178, 3) := by decide +kernel
theorem dX9_saysWord_7 : decode cX9_saysWord 7 = .ok (.if_icmp .ge 18, 3) := by decide +kernel
theorem dX9_saysWord_10 : decode cX9_saysWord 10 = .ok (.aload_n 0, 1) := by decide +kernel
theorem dX9_saysWord_11 : decode cX9_saysWord 11 = .ok (.aload_n 1, 1) := by decide +kernel
theorem dX9_saysWord_12 : decode cX9_saysWord 12 = .ok (.iload_n 2, 1) := by decide +kernel
theorem dX9_saysWord_13 : decode cX9_saysWord 13 = .ok (.invokevirtual 182, 3) := by decide +kernel
theorem dX9_saysWord_16 : decode cX9_saysWord 16 = .ok (.invokevirtual 324, 3) := by decide +kernel
theorem dX9_saysWord_19 : decode cX9_saysWord 19 = .ok (.iinc 2 1, 3) := by decide +kernel
theorem dX9_saysWord_22 : decode cX9_saysWord 22 = .ok (.goto (-20), 3) := by decide +kernel
theorem dX9_saysWord_25 : decode cX9_saysWord 25 = .ok (.return_, 1) := by decide +kernel
theorem dX9_saysField_0 : decode cX9_saysField 0 = .ok (.aload_n 0, 1) := by decide +kernel
theorem dX9_saysField_1 : decode cX9_saysField 1 = .ok (.bipush 32, 2) := by decide +kernel
theorem dX9_saysField_3 : decode cX9_saysField 3 = .ok (.invokevirtual 324, 3) := by decide +kernel
theorem dX9_saysField_6 : decode cX9_saysField 6 = .ok (.aload_n 0, 1) := by decide +kernel
theorem dX9_saysField_7 : decode cX9_saysField 7 = .ok (.iload_n 1, 1) := by decide +kernel
theorem dX9_saysField_8 : decode cX9_saysField 8 = .ok (.invokevirtual 327, 3) := by decide +kernel
theorem dX9_saysField_11 : decode cX9_saysField 11 = .ok (.return_, 1) := by decide +kernel
theorem dX9_saysImage_0 : decode cX9_saysImage 0 = .ok (.aload_n 0, 1) := by decide +kernel
theorem dX9_saysImage_1 : decode cX9_saysImage 1 = .ok (.ldc_w 335, 3) := by decide +kernel
theorem dX9_saysImage_4 : decode cX9_saysImage 4 = .ok (.invokevirtual 337, 3) := by decide +kernel
theorem dX9_saysImage_7 : decode cX9_saysImage 7 = .ok (.aload_n 0, 1) := by decide +kernel
theorem dX9_saysImage_8 : decode cX9_saysImage 8 = .ok (.iload_n 1, 1) := by decide +kernel
theorem dX9_saysImage_9 : decode cX9_saysImage 9 = .ok (.invokevirtual 341, 3) := by decide +kernel
theorem dX9_saysImage_12 : decode cX9_saysImage 12 = .ok (.aload_n 0, 1) := by decide +kernel
theorem dX9_saysImage_13 : decode cX9_saysImage 13 = .ok (.aload_n 0, 1) := by decide +kernel
theorem dX9_saysImage_14 : decode cX9_saysImage 14 = .ok (.iload_n 1, 1) := by decide +kernel
theorem dX9_saysImage_15 : decode cX9_saysImage 15 = .ok (.bipush 8, 2) := by decide +kernel
theorem dX9_saysImage_17 : decode cX9_saysImage 17 = .ok (.invokevirtual 56, 3) := by decide +kernel
theorem dX9_saysImage_20 : decode cX9_saysImage 20 = .ok (.invokevirtual 341, 3) := by decide +kernel
theorem dX9_saysImage_23 : decode cX9_saysImage 23 = .ok (.aload_n 0, 1) := by decide +kernel
theorem dX9_saysImage_24 : decode cX9_saysImage 24 = .ok (.aload_n 0, 1) := by decide +kernel
theorem dX9_saysImage_25 : decode cX9_saysImage 25 = .ok (.iload_n 1, 1) := by decide +kernel
theorem dX9_saysImage_26 : decode cX9_saysImage 26 = .ok (.bipush 9, 2) := by decide +kernel
theorem dX9_saysImage_28 : decode cX9_saysImage 28 = .ok (.invokevirtual 56, 3) := by decide +kernel
theorem dX9_saysImage_31 : decode cX9_saysImage 31 = .ok (.invokevirtual 341, 3) := by decide +kernel
theorem dX9_saysImage_34 : decode cX9_saysImage 34 = .ok (.aload_n 0, 1) := by decide +kernel
theorem dX9_saysImage_35 : decode cX9_saysImage 35 = .ok (.aload_n 0, 1) := by decide +kernel
theorem dX9_saysImage_36 : decode cX9_saysImage 36 = .ok (.iload_n 1, 1) := by decide +kernel
theorem dX9_saysImage_37 : decode cX9_saysImage 37 = .ok (.bipush 10, 2) := by decide +kernel
theorem dX9_saysImage_39 : decode cX9_saysImage 39 = .ok (.invokevirtual 56, 3) := by decide +kernel
theorem dX9_saysImage_42 : decode cX9_saysImage 42 = .ok (.invokevirtual 341, 3) := by decide +kernel
theorem dX9_saysImage_45 : decode cX9_saysImage 45 = .ok (.aload_n 0, 1) := by decide +kernel
theorem dX9_saysImage_46 : decode cX9_saysImage 46 = .ok (.iload_n 1, 1) := by decide +kernel
theorem dX9_saysImage_47 : decode cX9_saysImage 47 = .ok (.bipush 11, 2) := by decide +kernel
theorem dX9_saysImage_49 : decode cX9_saysImage 49 = .ok (.invokevirtual 56, 3) := by decide +kernel
theorem dX9_saysImage_52 : decode cX9_saysImage 52 = .ok (.iconst 1, 1) := by decide +kernel
theorem dX9_saysImage_53 : decode cX9_saysImage 53 = .ok (.if_icmp .ne 10, 3) := by decide +kernel
theorem dX9_saysImage_56 : decode cX9_saysImage 56 = .ok (.aload_n 0, 1) := by decide +kernel
theorem dX9_saysImage_57 : decode cX9_saysImage 57 = .ok (.ldc_w 344, 3) := by decide +kernel
theorem dX9_saysImage_60 : decode cX9_saysImage 60 = .ok (.invokevirtual 337, 3) := by decide +kernel
theorem dX9_saysImage_63 : decode cX9_saysImage 63 = .ok (.aload_n 0, 1) := by decide +kernel
theorem dX9_saysImage_64 : decode cX9_saysImage 64 = .ok (.iload_n 1, 1) := by decide +kernel
theorem dX9_saysImage_65 : decode cX9_saysImage 65 = .ok (.bipush 12, 2) := by decide +kernel
theorem dX9_saysImage_67 : decode cX9_saysImage 67 = .ok (.invokevirtual 56, 3) := by decide +kernel
theorem dX9_saysImage_70 : decode cX9_saysImage 70 = .ok (.iconst 1, 1) := by decide +kernel
theorem dX9_saysImage_71 : decode cX9_saysImage 71 = .ok (.if_icmp .ne 10, 3) := by decide +kernel
theorem dX9_saysImage_74 : decode cX9_saysImage 74 = .ok (.aload_n 0, 1) := by decide +kernel
theorem dX9_saysImage_75 : decode cX9_saysImage 75 = .ok (.ldc_w 346, 3) := by decide +kernel
theorem dX9_saysImage_78 : decode cX9_saysImage 78 = .ok (.invokevirtual 337, 3) := by decide +kernel
theorem dX9_saysImage_81 : decode cX9_saysImage 81 = .ok (.aload_n 0, 1) := by decide +kernel
theorem dX9_saysImage_82 : decode cX9_saysImage 82 = .ok (.ldc_w 348, 3) := by decide +kernel
theorem dX9_saysImage_85 : decode cX9_saysImage 85 = .ok (.invokevirtual 337, 3) := by decide +kernel
theorem dX9_saysImage_88 : decode cX9_saysImage 88 = .ok (.aload_n 0, 1) := by decide +kernel
theorem dX9_saysImage_89 : decode cX9_saysImage 89 = .ok (.iload_n 1, 1) := by decide +kernel
theorem dX9_saysImage_90 : decode cX9_saysImage 90 = .ok (.invokevirtual 341, 3) := by decide +kernel
theorem dX9_saysImage_93 : decode cX9_saysImage 93 = .ok (.aload_n 0, 1) := by decide +kernel
theorem dX9_saysImage_94 : decode cX9_saysImage 94 = .ok (.aload_n 0, 1) := by decide +kernel
theorem dX9_saysImage_95 : decode cX9_saysImage 95 = .ok (.iload_n 1, 1) := by decide +kernel
theorem dX9_saysImage_96 : decode cX9_saysImage 96 = .ok (.iconst 1, 1) := by decide +kernel
theorem dX9_saysImage_97 : decode cX9_saysImage 97 = .ok (.invokevirtual 56, 3) := by decide +kernel
theorem dX9_saysImage_100 : decode cX9_saysImage 100 = .ok (.invokevirtual 341, 3) := by decide +kernel
theorem dX9_saysImage_103 : decode cX9_saysImage 103 = .ok (.aload_n 0, 1) := by decide +kernel
theorem dX9_saysImage_104 : decode cX9_saysImage 104 = .ok (.aload_n 0, 1) := by decide +kernel
theorem dX9_saysImage_105 : decode cX9_saysImage 105 = .ok (.iload_n 1, 1) := by decide +kernel
theorem dX9_saysImage_106 : decode cX9_saysImage 106 = .ok (.iconst 2, 1) := by decide +kernel
theorem dX9_saysImage_107 : decode cX9_saysImage 107 = .ok (.invokevirtual 56, 3) := by decide +kernel
theorem dX9_saysImage_110 : decode cX9_saysImage 110 = .ok (.invokevirtual 341, 3) := by decide +kernel
theorem dX9_saysImage_113 : decode cX9_saysImage 113 = .ok (.aload_n 0, 1) := by decide +kernel
theorem dX9_saysImage_114 : decode cX9_saysImage 114 = .ok (.iload_n 1, 1) := by decide +kernel
theorem dX9_saysImage_115 : decode cX9_saysImage 115 = .ok (.invokevirtual 63, 3) := by decide +kernel
theorem dX9_saysImage_118 : decode cX9_saysImage 118 = .ok (.ifCond .eq 10, 3) := by decide +kernel
theorem dX9_saysImage_121 : decode cX9_saysImage 121 = .ok (.aload_n 0, 1) := by decide +kernel
theorem dX9_saysImage_122 : decode cX9_saysImage 122 = .ok (.ldc_w 350, 3) := by decide +kernel
theorem dX9_saysImage_125 : decode cX9_saysImage 125 = .ok (.invokevirtual 337, 3) := by decide +kernel
theorem dX9_saysImage_128 : decode cX9_saysImage 128 = .ok (.return_, 1) := by decide +kernel
theorem dX9_writeMachine_0 : decode cX9_writeMachine 0 = .ok (.aload_n 0, 1) := by decide +kernel
theorem dX9_writeMachine_1 : decode cX9_writeMachine 1 = .ok (.invokevirtual 48, 3) := by decide +kernel
theorem dX9_writeMachine_4 : decode cX9_writeMachine 4 = .ok (.ifCond .eq 5, 3) := by decide +kernel
theorem dX9_writeMachine_7 : decode cX9_writeMachine 7 = .ok (.iconst 0, 1) := by decide +kernel
theorem dX9_writeMachine_8 : decode cX9_writeMachine 8 = .ok (.ireturn, 1) := by decide +kernel
theorem dX9_writeMachine_9 : decode cX9_writeMachine 9 = .ok (.aload_n 0, 1) := by decide +kernel
theorem dX9_writeMachine_10 : decode cX9_writeMachine 10 = .ok (.iconst 0, 1) := by decide +kernel
theorem dX9_writeMachine_11 : decode cX9_writeMachine 11 = .ok (.putfield 321, 3) := by decide +kernel
theorem dX9_writeMachine_14 : decode cX9_writeMachine 14 = .ok (.aload_n 0, 1) := by decide +kernel
theorem dX9_writeMachine_15 : decode cX9_writeMachine 15 = .ok (.ldc 231, 2) := by decide +kernel
theorem dX9_writeMachine_17 : decode cX9_writeMachine 17 = .ok (.invokevirtual 337, 3) := by decide +kernel
theorem dX9_writeMachine_20 : decode cX9_writeMachine 20 = .ok (.iconst 2, 1) := by decide +kernel
theorem dX9_writeMachine_21 : decode cX9_writeMachine 21 = .ok (.istore_n 1, 1) := by decide +kernel
theorem dX9_writeMachine_22 : decode cX9_writeMachine 22 = .ok (.iload_n 1, 1) := by decide +kernel
theorem dX9_writeMachine_23 : decode cX9_writeMachine 23 = .ok (.iconst 5, 1) := by decide +kernel
theorem dX9_writeMachine_24 : decode cX9_writeMachine 24 = .ok (.if_icmp .gt 19, 3) := by decide +kernel
theorem dX9_writeMachine_27 : decode cX9_writeMachine 27 = .ok (.aload_n 0, 1) := by decide +kernel
theorem dX9_writeMachine_28 : decode cX9_writeMachine 28 = .ok (.aload_n 0, 1) := by decide +kernel
theorem dX9_writeMachine_29 : decode cX9_writeMachine 29 = .ok (.getfield 7, 3) := by decide +kernel
theorem dX9_writeMachine_32 : decode cX9_writeMachine 32 = .ok (.iload_n 1, 1) := by decide +kernel
theorem dX9_writeMachine_33 : decode cX9_writeMachine 33 = .ok (.iaload, 1) := by decide +kernel
theorem dX9_writeMachine_34 : decode cX9_writeMachine 34 = .ok (.invokevirtual 341, 3) := by decide +kernel
theorem dX9_writeMachine_37 : decode cX9_writeMachine 37 = .ok (.iinc 1 1, 3) := by decide +kernel
theorem dX9_writeMachine_40 : decode cX9_writeMachine 40 = .ok (.goto (-18), 3) := by decide +kernel
theorem dX9_writeMachine_43 : decode cX9_writeMachine 43 = .ok (.iconst 0, 1) := by decide +kernel
theorem dX9_writeMachine_44 : decode cX9_writeMachine 44 = .ok (.istore_n 1, 1) := by decide +kernel
theorem dX9_writeMachine_45 : decode cX9_writeMachine 45 = .ok (.iload_n 1, 1) := by decide +kernel
theorem dX9_writeMachine_46 : decode cX9_writeMachine 46 = .ok (.aload_n 0, 1) := by decide +kernel
theorem dX9_writeMachine_47 : decode cX9_writeMachine 47 = .ok (.getfield 7, 3) := by decide +kernel
theorem dX9_writeMachine_50 : decode cX9_writeMachine 50 = .ok (.iconst 0, 1) := by decide +kernel
theorem dX9_writeMachine_51 : decode cX9_writeMachine 51 = .ok (.iaload, 1) := by decide +kernel
theorem dX9_writeMachine_52 : decode cX9_writeMachine 52 = .ok (.if_icmp .ge 16, 3) := by decide +kernel
theorem dX9_writeMachine_55 : decode cX9_writeMachine 55 = .ok (.aload_n 0, 1) := by decide +kernel
theorem dX9_writeMachine_56 : decode cX9_writeMachine 56 = .ok (.ldc_w 352, 3) := by decide +kernel
theorem dX9_writeMachine_59 : decode cX9_writeMachine 59 = .ok (.invokevirtual 337, 3) := by decide +kernel
theorem dX9_writeMachine_62 : decode cX9_writeMachine 62 = .ok (.iinc 1 1, 3) := by decide +kernel
theorem dX9_writeMachine_65 : decode cX9_writeMachine 65 = .ok (.goto (-20), 3) := by decide +kernel
theorem dX9_writeMachine_68 : decode cX9_writeMachine 68 = .ok (.iconst 0, 1) := by decide +kernel
theorem dX9_writeMachine_69 : decode cX9_writeMachine 69 = .ok (.istore_n 1, 1) := by decide +kernel
theorem dX9_writeMachine_70 : decode cX9_writeMachine 70 = .ok (.iload_n 1, 1) := by decide +kernel
theorem dX9_writeMachine_71 : decode cX9_writeMachine 71 = .ok (.aload_n 0, 1) := by decide +kernel
theorem dX9_writeMachine_72 : decode cX9_writeMachine 72 = .ok (.getfield 7, 3) := by decide +kernel
theorem dX9_writeMachine_75 : decode cX9_writeMachine 75 = .ok (.iconst 0, 1) := by decide +kernel
theorem dX9_writeMachine_76 : decode cX9_writeMachine 76 = .ok (.iaload, 1) := by decide +kernel
theorem dX9_writeMachine_77 : decode cX9_writeMachine 77 = .ok (.if_icmp .ge 22, 3) := by decide +kernel
theorem dX9_writeMachine_80 : decode cX9_writeMachine 80 = .ok (.aload_n 0, 1) := by decide +kernel
theorem dX9_writeMachine_81 : decode cX9_writeMachine 81 = .ok (.iload_n 1, 1) := by decide +kernel
theorem dX9_writeMachine_82 : decode cX9_writeMachine 82 = .ok (.invokevirtual 60, 3) := by decide +kernel
theorem dX9_writeMachine_85 : decode cX9_writeMachine 85 = .ok (.ifCond .eq 8, 3) := by decide +kernel
theorem dX9_writeMachine_88 : decode cX9_writeMachine 88 = .ok (.aload_n 0, 1) := by decide +kernel
theorem dX9_writeMachine_89 : decode cX9_writeMachine 89 = .ok (.iload_n 1, 1) := by decide +kernel
theorem dX9_writeMachine_90 : decode cX9_writeMachine 90 = .ok (.invokevirtual 354, 3) := by decide +kernel
theorem dX9_writeMachine_93 : decode cX9_writeMachine 93 = .ok (.iinc 1 1, 3) := by decide +kernel
theorem dX9_writeMachine_96 : decode cX9_writeMachine 96 = .ok (.goto (-26), 3) := by decide +kernel
theorem dX9_writeMachine_99 : decode cX9_writeMachine 99 = .ok (.aload_n 0, 1) := by decide +kernel
theorem dX9_writeMachine_100 : decode cX9_writeMachine 100 = .ok (.getfield 321, 3) := by decide +kernel
theorem dX9_writeMachine_103 : decode cX9_writeMachine 103 = .ok (.ireturn, 1) := by decide +kernel
theorem dX9_textByte_0 : decode cX9_textByte 0 = .ok (.aload_n 0, 1) := by decide +kernel
theorem dX9_textByte_1 : decode cX9_textByte 1 = .ok (.iconst 0, 1) := by decide +kernel
theorem dX9_textByte_2 : decode cX9_textByte 2 = .ok (.putfield 33, 3) := by decide +kernel
theorem dX9_textByte_5 : decode cX9_textByte 5 = .ok (.aload_n 0, 1) := by decide +kernel
theorem dX9_textByte_6 : decode cX9_textByte 6 = .ok (.iload_n 1, 1) := by decide +kernel
theorem dX9_textByte_7 : decode cX9_textByte 7 = .ok (.i2l, 1) := by decide +kernel
theorem dX9_textByte_8 : decode cX9_textByte 8 = .ok (.lconst 0, 1) := by decide +kernel
theorem dX9_textByte_9 : decode cX9_textByte 9 = .ok (.aload_n 0, 1) := by decide +kernel
theorem dX9_textByte_10 : decode cX9_textByte 10 = .ok (.getfield 321, 3) := by decide +kernel
theorem dX9_textByte_13 : decode cX9_textByte 13 = .ok (.iconst 1, 1) := by decide +kernel
theorem dX9_textByte_14 : decode cX9_textByte 14 = .ok (.isub, 1) := by decide +kernel
theorem dX9_textByte_15 : decode cX9_textByte 15 = .ok (.i2l, 1) := by decide +kernel
theorem dX9_textByte_16 : decode cX9_textByte 16 = .ok (.invokestatic 44, 3) := by decide +kernel
theorem dX9_textByte_19 : decode cX9_textByte 19 = .ok (.ifCond .ne 7, 3) := by decide +kernel
theorem dX9_textByte_22 : decode cX9_textByte 22 = .ok (.iconst 1, 1) := by decide +kernel
theorem dX9_textByte_23 : decode cX9_textByte 23 = .ok (.goto 4, 3) := by decide +kernel
theorem dX9_textByte_26 : decode cX9_textByte 26 = .ok (.iconst 0, 1) := by decide +kernel
theorem dX9_textByte_27 : decode cX9_textByte 27 = .ok (.iconst 1, 1) := by decide +kernel
theorem dX9_textByte_28 : decode cX9_textByte 28 = .ok (.invokevirtual 40, 3) := by decide +kernel
theorem dX9_textByte_31 : decode cX9_textByte 31 = .ok (.ifCond .eq 7, 3) := by decide +kernel
theorem dX9_textByte_34 : decode cX9_textByte 34 = .ok (.iconst 0, 1) := by decide +kernel
theorem dX9_textByte_35 : decode cX9_textByte 35 = .ok (.goto 9, 3) := by decide +kernel
theorem dX9_textByte_38 : decode cX9_textByte 38 = .ok (.aload_n 0, 1) := by decide +kernel
theorem dX9_textByte_39 : decode cX9_textByte 39 = .ok (.getfield 30, 3) := by decide +kernel
theorem dX9_textByte_42 : decode cX9_textByte 42 = .ok (.iload_n 1, 1) := by decide +kernel
theorem dX9_textByte_43 : decode cX9_textByte 43 = .ok (.iaload, 1) := by decide +kernel
theorem dX9_textByte_44 : decode cX9_textByte 44 = .ok (.ireturn, 1) := by decide +kernel
theorem dX9_keepsAll_0 : decode cX9_keepsAll 0 = .ok (.aload_n 0, 1) := by decide +kernel
theorem dX9_keepsAll_1 : decode cX9_keepsAll 1 = .ok (.getfield 249, 3) := by decide +kernel
theorem dX9_keepsAll_4 : decode cX9_keepsAll 4 = .ok (.bipush 8, 2) := by decide +kernel
theorem dX9_keepsAll_6 : decode cX9_keepsAll 6 = .ok (.if_icmp .ne 44, 3) := by decide +kernel
theorem dX9_keepsAll_9 : decode cX9_keepsAll 9 = .ok (.iconst 0, 1) := by decide +kernel
theorem dX9_keepsAll_10 : decode cX9_keepsAll 10 = .ok (.istore_n 1, 1) := by decide +kernel
theorem dX9_keepsAll_11 : decode cX9_keepsAll 11 = .ok (.iload_n 1, 1) := by decide +kernel
theorem dX9_keepsAll_12 : decode cX9_keepsAll 12 = .ok (.sipush 1120, 3) := by decide +kernel
theorem dX9_keepsAll_15 : decode cX9_keepsAll 15 = .ok (.if_icmp .ge 25, 3) := by decide +kernel
theorem dX9_keepsAll_18 : decode cX9_keepsAll 18 = .ok (.aload_n 0, 1) := by decide +kernel
theorem dX9_keepsAll_19 : decode cX9_keepsAll 19 = .ok (.getfield 13, 3) := by decide +kernel
theorem dX9_keepsAll_22 : decode cX9_keepsAll 22 = .ok (.iload_n 1, 1) := by decide +kernel
theorem dX9_keepsAll_23 : decode cX9_keepsAll 23 = .ok (.aload_n 0, 1) := by decide +kernel
theorem dX9_keepsAll_24 : decode cX9_keepsAll 24 = .ok (.getfield 13, 3) := by decide +kernel
theorem dX9_keepsAll_27 : decode cX9_keepsAll 27 = .ok (.iload_n 1, 1) := by decide +kernel
theorem dX9_keepsAll_28 : decode cX9_keepsAll 28 = .ok (.sipush 160, 3) := by decide +kernel
theorem dX9_keepsAll_31 : decode cX9_keepsAll 31 = .ok (.iadd, 1) := by decide +kernel
theorem dX9_keepsAll_32 : decode cX9_keepsAll 32 = .ok (.iaload, 1) := by decide +kernel
theorem dX9_keepsAll_33 : decode cX9_keepsAll 33 = .ok (.iastore, 1) := by decide +kernel
theorem dX9_keepsAll_34 : decode cX9_keepsAll 34 = .ok (.iinc 1 1, 3) := by decide +kernel
theorem dX9_keepsAll_37 : decode cX9_keepsAll 37 = .ok (.goto (-26), 3) := by decide +kernel
theorem dX9_keepsAll_40 : decode cX9_keepsAll 40 = .ok (.aload_n 0, 1) := by decide +kernel
theorem dX9_keepsAll_41 : decode cX9_keepsAll 41 = .ok (.dup, 1) := by decide +kernel
theorem dX9_keepsAll_42 : decode cX9_keepsAll 42 = .ok (.getfield 249, 3) := by decide +kernel
theorem dX9_keepsAll_45 : decode cX9_keepsAll 45 = .ok (.iconst 1, 1) := by decide +kernel
theorem dX9_keepsAll_46 : decode cX9_keepsAll 46 = .ok (.isub, 1) := by decide +kernel
theorem dX9_keepsAll_47 : decode cX9_keepsAll 47 = .ok (.putfield 249, 3) := by decide +kernel
theorem dX9_keepsAll_50 : decode cX9_keepsAll 50 = .ok (.aload_n 0, 1) := by decide +kernel
theorem dX9_keepsAll_51 : decode cX9_keepsAll 51 = .ok (.getfield 7, 3) := by decide +kernel
theorem dX9_keepsAll_54 : decode cX9_keepsAll 54 = .ok (.iconst 0, 1) := by decide +kernel
theorem dX9_keepsAll_55 : decode cX9_keepsAll 55 = .ok (.aload_n 0, 1) := by decide +kernel
theorem dX9_keepsAll_56 : decode cX9_keepsAll 56 = .ok (.getfield 13, 3) := by decide +kernel
theorem dX9_keepsAll_59 : decode cX9_keepsAll 59 = .ok (.sipush 160, 3) := by decide +kernel
theorem dX9_keepsAll_62 : decode cX9_keepsAll 62 = .ok (.iconst 0, 1) := by decide +kernel
theorem dX9_keepsAll_63 : decode cX9_keepsAll 63 = .ok (.aload_n 0, 1) := by decide +kernel
theorem dX9_keepsAll_64 : decode cX9_keepsAll 64 = .ok (.getfield 249, 3) := by decide +kernel
theorem dX9_keepsAll_67 : decode cX9_keepsAll 67 = .ok (.iadd, 1) := by decide +kernel
theorem dX9_keepsAll_68 : decode cX9_keepsAll 68 = .ok (.imul, 1) := by decide +kernel
theorem dX9_keepsAll_69 : decode cX9_keepsAll 69 = .ok (.invokestatic 242, 3) := by decide +kernel
theorem dX9_keepsAll_72 : decode cX9_keepsAll 72 = .ok (.aload_n 0, 1) := by decide +kernel
theorem dX9_keepsAll_73 : decode cX9_keepsAll 73 = .ok (.dup, 1) := by decide +kernel
theorem dX9_keepsAll_74 : decode cX9_keepsAll 74 = .ok (.getfield 249, 3) := by decide +kernel
theorem dX9_keepsAll_77 : decode cX9_keepsAll 77 = .ok (.iconst 1, 1) := by decide +kernel
theorem dX9_keepsAll_78 : decode cX9_keepsAll 78 = .ok (.iadd, 1) := by decide +kernel
theorem dX9_keepsAll_79 : decode cX9_keepsAll 79 = .ok (.putfield 249, 3) := by decide +kernel
theorem dX9_keepsAll_82 : decode cX9_keepsAll 82 = .ok (.return_, 1) := by decide +kernel
theorem dX9_power_0 : decode cX9_power 0 = .ok (.aload_n 0, 1) := by decide +kernel
theorem dX9_power_1 : decode cX9_power 1 = .ok (.invokevirtual 48, 3) := by decide +kernel
theorem dX9_power_4 : decode cX9_power 4 = .ok (.ifCond .ne 26, 3) := by decide +kernel
theorem dX9_power_7 : decode cX9_power 7 = .ok (.aload_n 0, 1) := by decide +kernel
theorem dX9_power_8 : decode cX9_power 8 = .ok (.aload_n 0, 1) := by decide +kernel
theorem dX9_power_9 : decode cX9_power 9 = .ok (.getfield 7, 3) := by decide +kernel
theorem dX9_power_12 : decode cX9_power 12 = .ok (.bipush 6, 2) := by decide +kernel
theorem dX9_power_14 : decode cX9_power 14 = .ok (.iaload, 1) := by decide +kernel
theorem dX9_power_15 : decode cX9_power 15 = .ok (.ifCond .eq 7, 3) := by decide +kernel
theorem dX9_power_18 : decode cX9_power 18 = .ok (.iconst 1, 1) := by decide +kernel
theorem dX9_power_19 : decode cX9_power 19 = .ok (.goto 4, 3) := by decide +kernel
theorem dX9_power_22 : decode cX9_power 22 = .ok (.iconst 0, 1) := by decide +kernel
theorem dX9_power_23 : decode cX9_power 23 = .ok (.iconst 2, 1) := by decide +kernel
theorem dX9_power_24 : decode cX9_power 24 = .ok (.invokevirtual 40, 3) := by decide +kernel
theorem dX9_power_27 : decode cX9_power 27 = .ok (.ifCond .eq 5, 3) := by decide +kernel
theorem dX9_power_30 : decode cX9_power 30 = .ok (.iconst 0, 1) := by decide +kernel
theorem dX9_power_31 : decode cX9_power 31 = .ok (.ireturn, 1) := by decide +kernel
theorem dX9_power_32 : decode cX9_power 32 = .ok (.aload_n 0, 1) := by decide +kernel
theorem dX9_power_33 : decode cX9_power 33 = .ok (.invokevirtual 357, 3) := by decide +kernel
theorem dX9_power_36 : decode cX9_power 36 = .ok (.aload_n 0, 1) := by decide +kernel
theorem dX9_power_37 : decode cX9_power 37 = .ok (.iconst 0, 1) := by decide +kernel
theorem dX9_power_38 : decode cX9_power 38 = .ok (.invokevirtual 92, 3) := by decide +kernel
theorem dX9_power_41 : decode cX9_power 41 = .ok (.istore_n 1, 1) := by decide +kernel
theorem dX9_power_42 : decode cX9_power 42 = .ok (.aload_n 0, 1) := by decide +kernel
theorem dX9_power_43 : decode cX9_power 43 = .ok (.getfield 7, 3) := by decide +kernel
theorem dX9_power_46 : decode cX9_power 46 = .ok (.bipush 7, 2) := by decide +kernel
theorem dX9_power_48 : decode cX9_power 48 = .ok (.iaload, 1) := by decide +kernel
theorem dX9_power_49 : decode cX9_power 49 = .ok (.ireturn, 1) := by decide +kernel
theorem dX9_cut_0 : decode cX9_cut 0 = .ok (.aload_n 0, 1) := by decide +kernel
theorem dX9_cut_1 : decode cX9_cut 1 = .ok (.invokevirtual 48, 3) := by decide +kernel
theorem dX9_cut_4 : decode cX9_cut 4 = .ok (.ifCond .ne 26, 3) := by decide +kernel
theorem dX9_cut_7 : decode cX9_cut 7 = .ok (.aload_n 0, 1) := by decide +kernel
theorem dX9_cut_8 : decode cX9_cut 8 = .ok (.aload_n 0, 1) := by decide +kernel
theorem dX9_cut_9 : decode cX9_cut 9 = .ok (.getfield 7, 3) := by decide +kernel
theorem dX9_cut_12 : decode cX9_cut 12 = .ok (.bipush 6, 2) := by decide +kernel
theorem dX9_cut_14 : decode cX9_cut 14 = .ok (.iaload, 1) := by decide +kernel
theorem dX9_cut_15 : decode cX9_cut 15 = .ok (.ifCond .ne 7, 3) := by decide +kernel
theorem dX9_cut_18 : decode cX9_cut 18 = .ok (.iconst 1, 1) := by decide +kernel
theorem dX9_cut_19 : decode cX9_cut 19 = .ok (.goto 4, 3) := by decide +kernel
theorem dX9_cut_22 : decode cX9_cut 22 = .ok (.iconst 0, 1) := by decide +kernel
theorem dX9_cut_23 : decode cX9_cut 23 = .ok (.iconst 2, 1) := by decide +kernel
theorem dX9_cut_24 : decode cX9_cut 24 = .ok (.invokevirtual 40, 3) := by decide +kernel
theorem dX9_cut_27 : decode cX9_cut 27 = .ok (.ifCond .eq 5, 3) := by decide +kernel
theorem dX9_cut_30 : decode cX9_cut 30 = .ok (.iconst 0, 1) := by decide +kernel
theorem dX9_cut_31 : decode cX9_cut 31 = .ok (.ireturn, 1) := by decide +kernel
theorem dX9_cut_32 : decode cX9_cut 32 = .ok (.aload_n 0, 1) := by decide +kernel
theorem dX9_cut_33 : decode cX9_cut 33 = .ok (.invokevirtual 357, 3) := by decide +kernel
theorem dX9_cut_36 : decode cX9_cut 36 = .ok (.aload_n 0, 1) := by decide +kernel
theorem dX9_cut_37 : decode cX9_cut 37 = .ok (.getfield 7, 3) := by decide +kernel
theorem dX9_cut_40 : decode cX9_cut 40 = .ok (.bipush 20, 2) := by decide +kernel
theorem dX9_cut_42 : decode cX9_cut 42 = .ok (.iaload, 1) := by decide +kernel
theorem dX9_cut_43 : decode cX9_cut 43 = .ok (.istore_n 1, 1) := by decide +kernel
theorem dX9_cut_44 : decode cX9_cut 44 = .ok (.aload_n 0, 1) := by decide +kernel
theorem dX9_cut_45 : decode cX9_cut 45 = .ok (.invokevirtual 121, 3) := by decide +kernel
theorem dX9_cut_48 : decode cX9_cut 48 = .ok (.aload_n 0, 1) := by decide +kernel
theorem dX9_cut_49 : decode cX9_cut 49 = .ok (.getfield 7, 3) := by decide +kernel
theorem dX9_cut_52 : decode cX9_cut 52 = .ok (.bipush 6, 2) := by decide +kernel
theorem dX9_cut_54 : decode cX9_cut 54 = .ok (.iconst 0, 1) := by decide +kernel
theorem dX9_cut_55 : decode cX9_cut 55 = .ok (.iastore, 1) := by decide +kernel
theorem dX9_cut_56 : decode cX9_cut 56 = .ok (.aload_n 0, 1) := by decide +kernel
theorem dX9_cut_57 : decode cX9_cut 57 = .ok (.getfield 7, 3) := by decide +kernel
theorem dX9_cut_60 : decode cX9_cut 60 = .ok (.bipush 7, 2) := by decide +kernel
theorem dX9_cut_62 : decode cX9_cut 62 = .ok (.iconst (-1), 1) := by decide +kernel
theorem dX9_cut_63 : decode cX9_cut 63 = .ok (.iastore, 1) := by decide +kernel
theorem dX9_cut_64 : decode cX9_cut 64 = .ok (.aload_n 0, 1) := by decide +kernel
theorem dX9_cut_65 : decode cX9_cut 65 = .ok (.getfield 7, 3) := by decide +kernel
theorem dX9_cut_68 : decode cX9_cut 68 = .ok (.bipush 8, 2) := by decide +kernel
theorem dX9_cut_70 : decode cX9_cut 70 = .ok (.iconst 0, 1) := by decide +kernel
theorem dX9_cut_71 : decode cX9_cut 71 = .ok (.iastore, 1) := by decide +kernel
theorem dX9_cut_72 : decode cX9_cut 72 = .ok (.iload_n 1, 1) := by decide +kernel
theorem dX9_cut_73 : decode cX9_cut 73 = .ok (.ireturn, 1) := by decide +kernel
theorem dX9_reboot_0 : decode cX9_reboot 0 = .ok (.aload_n 0, 1) := by decide +kernel
theorem dX9_reboot_1 : decode cX9_reboot 1 = .ok (.invokevirtual 48, 3) := by decide +kernel
theorem dX9_reboot_4 : decode cX9_reboot 4 = .ok (.ifCond .ne 26, 3) := by decide +kernel
theorem dX9_reboot_7 : decode cX9_reboot 7 = .ok (.aload_n 0, 1) := by decide +kernel
theorem dX9_reboot_8 : decode cX9_reboot 8 = .ok (.aload_n 0, 1) := by decide +kernel
theorem dX9_reboot_9 : decode cX9_reboot 9 = .ok (.getfield 7, 3) := by decide +kernel
theorem dX9_reboot_12 : decode cX9_reboot 12 = .ok (.bipush 6, 2) := by decide +kernel
theorem dX9_reboot_14 : decode cX9_reboot 14 = .ok (.iaload, 1) := by decide +kernel
theorem dX9_reboot_15 : decode cX9_reboot 15 = .ok (.ifCond .ne 7, 3) := by decide +kernel
theorem dX9_reboot_18 : decode cX9_reboot 18 = .ok (.iconst 1, 1) := by decide +kernel
theorem dX9_reboot_19 : decode cX9_reboot 19 = .ok (.goto 4, 3) := by decide +kernel
theorem dX9_reboot_22 : decode cX9_reboot 22 = .ok (.iconst 0, 1) := by decide +kernel
theorem dX9_reboot_23 : decode cX9_reboot 23 = .ok (.iconst 2, 1) := by decide +kernel
theorem dX9_reboot_24 : decode cX9_reboot 24 = .ok (.invokevirtual 40, 3) := by decide +kernel
theorem dX9_reboot_27 : decode cX9_reboot 27 = .ok (.ifCond .eq 5, 3) := by decide +kernel
theorem dX9_reboot_30 : decode cX9_reboot 30 = .ok (.iconst 0, 1) := by decide +kernel
theorem dX9_reboot_31 : decode cX9_reboot 31 = .ok (.ireturn, 1) := by decide +kernel
theorem dX9_reboot_32 : decode cX9_reboot 32 = .ok (.aload_n 0, 1) := by decide +kernel
theorem dX9_reboot_33 : decode cX9_reboot 33 = .ok (.invokevirtual 357, 3) := by decide +kernel
theorem dX9_reboot_36 : decode cX9_reboot 36 = .ok (.aload_n 0, 1) := by decide +kernel
theorem dX9_reboot_37 : decode cX9_reboot 37 = .ok (.iconst 1, 1) := by decide +kernel
theorem dX9_reboot_38 : decode cX9_reboot 38 = .ok (.invokevirtual 92, 3) := by decide +kernel
theorem dX9_reboot_41 : decode cX9_reboot 41 = .ok (.istore_n 1, 1) := by decide +kernel
theorem dX9_reboot_42 : decode cX9_reboot 42 = .ok (.aload_n 0, 1) := by decide +kernel
theorem dX9_reboot_43 : decode cX9_reboot 43 = .ok (.getfield 7, 3) := by decide +kernel
theorem dX9_reboot_46 : decode cX9_reboot 46 = .ok (.bipush 7, 2) := by decide +kernel
theorem dX9_reboot_48 : decode cX9_reboot 48 = .ok (.iaload, 1) := by decide +kernel
theorem dX9_reboot_49 : decode cX9_reboot 49 = .ok (.ireturn, 1) := by decide +kernel
theorem dX9_tick_0 : decode cX9_tick 0 = .ok (.aload_n 0, 1) := by decide +kernel
theorem dX9_tick_1 : decode cX9_tick 1 = .ok (.invokevirtual 48, 3) := by decide +kernel
theorem dX9_tick_4 : decode cX9_tick 4 = .ok (.ifCond .ne 42, 3) := by decide +kernel
theorem dX9_tick_7 : decode cX9_tick 7 = .ok (.aload_n 0, 1) := by decide +kernel
theorem dX9_tick_8 : decode cX9_tick 8 = .ok (.iload_n 1, 1) := by decide +kernel
theorem dX9_tick_9 : decode cX9_tick 9 = .ok (.i2l, 1) := by decide +kernel
theorem dX9_tick_10 : decode cX9_tick 10 = .ok (.lconst 1, 1) := by decide +kernel
theorem dX9_tick_11 : decode cX9_tick 11 = .ok (.ldc2_w 278, 3) := by decide +kernel
theorem dX9_tick_14 : decode cX9_tick 14 = .ok (.invokestatic 44, 3) := by decide +kernel
theorem dX9_tick_17 : decode cX9_tick 17 = .ok (.ifCond .eq 17, 3) := by decide +kernel
theorem dX9_tick_20 : decode cX9_tick 20 = .ok (.aload_n 0, 1) := by decide +kernel
theorem dX9_tick_21 : decode cX9_tick 21 = .ok (.getfield 7, 3) := by decide +kernel
theorem dX9_tick_24 : decode cX9_tick 24 = .ok (.iconst 1, 1) := by decide +kernel
theorem dX9_tick_25 : decode cX9_tick 25 = .ok (.iaload, 1) := by decide +kernel
theorem dX9_tick_26 : decode cX9_tick 26 = .ok (.iload_n 1, 1) := by decide +kernel
theorem dX9_tick_27 : decode cX9_tick 27 = .ok (.iadd, 1) := by decide +kernel
theorem dX9_tick_28 : decode cX9_tick 28 = .ok (.sipush 9999, 3) := by decide +kernel
theorem dX9_tick_31 : decode cX9_tick 31 = .ok (.if_icmp .le 7, 3) := by decide +kernel
theorem dX9_tick_34 : decode cX9_tick 34 = .ok (.iconst 1, 1) := by decide +kernel
theorem dX9_tick_35 : decode cX9_tick 35 = .ok (.goto 4, 3) := by decide +kernel
theorem dX9_tick_38 : decode cX9_tick 38 = .ok (.iconst 0, 1) := by decide +kernel
theorem dX9_tick_39 : decode cX9_tick 39 = .ok (.iconst 2, 1) := by decide +kernel
theorem dX9_tick_40 : decode cX9_tick 40 = .ok (.invokevirtual 40, 3) := by decide +kernel
theorem dX9_tick_43 : decode cX9_tick 43 = .ok (.ifCond .eq 5, 3) := by decide +kernel
theorem dX9_tick_46 : decode cX9_tick 46 = .ok (.iconst 0, 1) := by decide +kernel
theorem dX9_tick_47 : decode cX9_tick 47 = .ok (.ireturn, 1) := by decide +kernel
theorem dX9_tick_48 : decode cX9_tick 48 = .ok (.aload_n 0, 1) := by decide +kernel
theorem dX9_tick_49 : decode cX9_tick 49 = .ok (.invokevirtual 357, 3) := by decide +kernel
theorem dX9_tick_52 : decode cX9_tick 52 = .ok (.aload_n 0, 1) := by decide +kernel
theorem dX9_tick_53 : decode cX9_tick 53 = .ok (.getfield 7, 3) := by decide +kernel
theorem dX9_tick_56 : decode cX9_tick 56 = .ok (.bipush 12, 2) := by decide +kernel
theorem dX9_tick_58 : decode cX9_tick 58 = .ok (.iaload, 1) := by decide +kernel
theorem dX9_tick_59 : decode cX9_tick 59 = .ok (.istore_n 2, 1) := by decide +kernel
theorem dX9_tick_60 : decode cX9_tick 60 = .ok (.aload_n 0, 1) := by decide +kernel
theorem dX9_tick_61 : decode cX9_tick 61 = .ok (.iload_n 1, 1) := by decide +kernel
theorem dX9_tick_62 : decode cX9_tick 62 = .ok (.invokevirtual 283, 3) := by decide +kernel
theorem dX9_tick_65 : decode cX9_tick 65 = .ok (.aload_n 0, 1) := by decide +kernel
theorem dX9_tick_66 : decode cX9_tick 66 = .ok (.getfield 7, 3) := by decide +kernel
theorem dX9_tick_69 : decode cX9_tick 69 = .ok (.bipush 12, 2) := by decide +kernel
theorem dX9_tick_71 : decode cX9_tick 71 = .ok (.iaload, 1) := by decide +kernel
theorem dX9_tick_72 : decode cX9_tick 72 = .ok (.iload_n 2, 1) := by decide +kernel
theorem dX9_tick_73 : decode cX9_tick 73 = .ok (.isub, 1) := by decide +kernel
theorem dX9_tick_74 : decode cX9_tick 74 = .ok (.ireturn, 1) := by decide +kernel
theorem dX9_areNumbers_0 : decode cX9_areNumbers 0 = .ok (.iload_n 0, 1) := by decide +kernel
theorem dX9_areNumbers_1 : decode cX9_areNumbers 1 = .ok (.i2l, 1) := by decide +kernel
theorem dX9_areNumbers_2 : decode cX9_areNumbers 2 = .ok (.lconst 0, 1) := by decide +kernel
theorem dX9_areNumbers_3 : decode cX9_areNumbers 3 = .ok (.ldc2_w 307, 3) := by decide +kernel
theorem dX9_areNumbers_6 : decode cX9_areNumbers 6 = .ok (.invokestatic 44, 3) := by decide +kernel
theorem dX9_areNumbers_9 : decode cX9_areNumbers 9 = .ok (.ifCond .eq 43, 3) := by decide +kernel
theorem dX9_areNumbers_12 : decode cX9_areNumbers 12 = .ok (.iload_n 1, 1) := by decide +kernel
theorem dX9_areNumbers_13 : decode cX9_areNumbers 13 = .ok (.i2l, 1) := by decide +kernel
theorem dX9_areNumbers_14 : decode cX9_areNumbers 14 = .ok (.lconst 1, 1) := by decide +kernel
theorem dX9_areNumbers_15 : decode cX9_areNumbers 15 = .ok (.ldc2_w 307, 3) := by decide +kernel
theorem dX9_areNumbers_18 : decode cX9_areNumbers 18 = .ok (.invokestatic 44, 3) := by decide +kernel
theorem dX9_areNumbers_21 : decode cX9_areNumbers 21 = .ok (.ifCond .eq 31, 3) := by decide +kernel
theorem dX9_areNumbers_24 : decode cX9_areNumbers 24 = .ok (.iload_n 2, 1) := by decide +kernel
theorem dX9_areNumbers_25 : decode cX9_areNumbers 25 = .ok (.i2l, 1) := by decide +kernel
theorem dX9_areNumbers_26 : decode cX9_areNumbers 26 = .ok (.lconst 0, 1) := by decide +kernel
theorem dX9_areNumbers_27 : decode cX9_areNumbers 27 = .ok (.ldc2_w 307, 3) := by decide +kernel
theorem dX9_areNumbers_30 : decode cX9_areNumbers 30 = .ok (.invokestatic 44, 3) := by decide +kernel
theorem dX9_areNumbers_33 : decode cX9_areNumbers 33 = .ok (.ifCond .eq 19, 3) := by decide +kernel
theorem dX9_areNumbers_36 : decode cX9_areNumbers 36 = .ok (.iload_n 3, 1) := by decide +kernel
theorem dX9_areNumbers_37 : decode cX9_areNumbers 37 = .ok (.i2l, 1) := by decide +kernel
theorem dX9_areNumbers_38 : decode cX9_areNumbers 38 = .ok (.lconst 1, 1) := by decide +kernel
theorem dX9_areNumbers_39 : decode cX9_areNumbers 39 = .ok (.ldc2_w 307, 3) := by decide +kernel
theorem dX9_areNumbers_42 : decode cX9_areNumbers 42 = .ok (.invokestatic 44, 3) := by decide +kernel
theorem dX9_areNumbers_45 : decode cX9_areNumbers 45 = .ok (.ifCond .eq 7, 3) := by decide +kernel
theorem dX9_areNumbers_48 : decode cX9_areNumbers 48 = .ok (.iconst 1, 1) := by decide +kernel
theorem dX9_areNumbers_49 : decode cX9_areNumbers 49 = .ok (.goto 4, 3) := by decide +kernel
theorem dX9_areNumbers_52 : decode cX9_areNumbers 52 = .ok (.iconst 0, 1) := by decide +kernel
theorem dX9_areNumbers_53 : decode cX9_areNumbers 53 = .ok (.ireturn, 1) := by decide +kernel
theorem dX9_begin_0 : decode cX9_begin 0 = .ok (.aload_n 0, 1) := by decide +kernel
theorem dX9_begin_1 : decode cX9_begin 1 = .ok (.iload_n 1, 1) := by decide +kernel
theorem dX9_begin_2 : decode cX9_begin 2 = .ok (.invokevirtual 260, 3) := by decide +kernel
theorem dX9_begin_5 : decode cX9_begin 5 = .ok (.ifCond .ne 53, 3) := by decide +kernel
theorem dX9_begin_8 : decode cX9_begin 8 = .ok (.aload_n 0, 1) := by decide +kernel
theorem dX9_begin_9 : decode cX9_begin 9 = .ok (.iload_n 2, 1) := by decide +kernel
theorem dX9_begin_10 : decode cX9_begin 10 = .ok (.iload_n 3, 1) := by decide +kernel
theorem dX9_begin_11 : decode cX9_begin 11 = .ok (.iload 4, 2) := by decide +kernel
theorem dX9_begin_13 : decode cX9_begin 13 = .ok (.iload 5, 2) := by decide +kernel
theorem dX9_begin_15 : decode cX9_begin 15 = .ok (.invokestatic 360, 3) := by decide +kernel
theorem dX9_begin_18 : decode cX9_begin 18 = .ok (.ifCond .eq 28, 3) := by decide +kernel
theorem dX9_begin_21 : decode cX9_begin 21 = .ok (.aload_n 0, 1) := by decide +kernel
theorem dX9_begin_22 : decode cX9_begin 22 = .ok (.iload_n 1, 1) := by decide +kernel
theorem dX9_begin_23 : decode cX9_begin 23 = .ok (.invokevirtual 272, 3) := by decide +kernel
theorem dX9_begin_26 : decode cX9_begin 26 = .ok (.ifCond .ne 20, 3) := by decide +kernel
theorem dX9_begin_29 : decode cX9_begin 29 = .ok (.aload_n 0, 1) := by decide +kernel
theorem dX9_begin_30 : decode cX9_begin 30 = .ok (.invokevirtual 127, 3) := by decide +kernel
theorem dX9_begin_33 : decode cX9_begin 33 = .ok (.ifCond .ne 13, 3) := by decide +kernel
theorem dX9_begin_36 : decode cX9_begin 36 = .ok (.aload_n 0, 1) := by decide +kernel
theorem dX9_begin_37 : decode cX9_begin 37 = .ok (.getfield 7, 3) := by decide +kernel
theorem dX9_begin_40 : decode cX9_begin 40 = .ok (.bipush 6, 2) := by decide +kernel
theorem dX9_begin_42 : decode cX9_begin 42 = .ok (.iaload, 1) := by decide +kernel
theorem dX9_begin_43 : decode cX9_begin 43 = .ok (.ifCond .ne 7, 3) := by decide +kernel
theorem dX9_begin_46 : decode cX9_begin 46 = .ok (.iconst 1, 1) := by decide +kernel
theorem dX9_begin_47 : decode cX9_begin 47 = .ok (.goto 4, 3) := by decide +kernel
theorem dX9_begin_50 : decode cX9_begin 50 = .ok (.iconst 0, 1) := by decide +kernel
theorem dX9_begin_51 : decode cX9_begin 51 = .ok (.iconst 3, 1) := by decide +kernel
theorem dX9_begin_52 : decode cX9_begin 52 = .ok (.invokevirtual 40, 3) := by decide +kernel
theorem dX9_begin_55 : decode cX9_begin 55 = .ok (.ifCond .eq 5, 3) := by decide +kernel
theorem dX9_begin_58 : decode cX9_begin 58 = .ok (.iconst 0, 1) := by decide +kernel
theorem dX9_begin_59 : decode cX9_begin 59 = .ok (.ireturn, 1) := by decide +kernel
theorem dX9_begin_60 : decode cX9_begin 60 = .ok (.aload_n 0, 1) := by decide +kernel
theorem dX9_begin_61 : decode cX9_begin 61 = .ok (.invokevirtual 357, 3) := by decide +kernel
theorem dX9_begin_64 : decode cX9_begin 64 = .ok (.aload_n 0, 1) := by decide +kernel
theorem dX9_begin_65 : decode cX9_begin 65 = .ok (.iload_n 1, 1) := by decide +kernel
theorem dX9_begin_66 : decode cX9_begin 66 = .ok (.invokevirtual 309, 3) := by decide +kernel
theorem dX9_begin_69 : decode cX9_begin 69 = .ok (.aload_n 0, 1) := by decide +kernel
theorem dX9_begin_70 : decode cX9_begin 70 = .ok (.getfield 7, 3) := by decide +kernel
theorem dX9_begin_73 : decode cX9_begin 73 = .ok (.bipush 20, 2) := by decide +kernel
theorem dX9_begin_75 : decode cX9_begin 75 = .ok (.iload_n 1, 1) := by decide +kernel
theorem dX9_begin_76 : decode cX9_begin 76 = .ok (.iastore, 1) := by decide +kernel
theorem dX9_begin_77 : decode cX9_begin 77 = .ok (.aload_n 0, 1) := by decide +kernel
theorem dX9_begin_78 : decode cX9_begin 78 = .ok (.getfield 7, 3) := by decide +kernel
theorem dX9_begin_81 : decode cX9_begin 81 = .ok (.bipush 21, 2) := by decide +kernel
theorem dX9_begin_83 : decode cX9_begin 83 = .ok (.iload 5, 2) := by decide +kernel
theorem dX9_begin_85 : decode cX9_begin 85 = .ok (.iastore, 1) := by decide +kernel
theorem dX9_begin_86 : decode cX9_begin 86 = .ok (.aload_n 0, 1) := by decide +kernel
theorem dX9_begin_87 : decode cX9_begin 87 = .ok (.getfield 7, 3) := by decide +kernel
theorem dX9_begin_90 : decode cX9_begin 90 = .ok (.bipush 22, 2) := by decide +kernel
theorem dX9_begin_92 : decode cX9_begin 92 = .ok (.iload_n 2, 1) := by decide +kernel
theorem dX9_begin_93 : decode cX9_begin 93 = .ok (.iastore, 1) := by decide +kernel
theorem dX9_begin_94 : decode cX9_begin 94 = .ok (.aload_n 0, 1) := by decide +kernel
theorem dX9_begin_95 : decode cX9_begin 95 = .ok (.getfield 7, 3) := by decide +kernel
theorem dX9_begin_98 : decode cX9_begin 98 = .ok (.bipush 23, 2) := by decide +kernel
theorem dX9_begin_100 : decode cX9_begin 100 = .ok (.iload_n 3, 1) := by decide +kernel
theorem dX9_begin_101 : decode cX9_begin 101 = .ok (.iastore, 1) := by decide +kernel
theorem dX9_begin_102 : decode cX9_begin 102 = .ok (.aload_n 0, 1) := by decide +kernel
theorem dX9_begin_103 : decode cX9_begin 103 = .ok (.getfield 7, 3) := by decide +kernel
theorem dX9_begin_106 : decode cX9_begin 106 = .ok (.bipush 24, 2) := by decide +kernel
theorem dX9_begin_108 : decode cX9_begin 108 = .ok (.iload 4, 2) := by decide +kernel
theorem dX9_begin_110 : decode cX9_begin 110 = .ok (.iastore, 1) := by decide +kernel
theorem dX9_begin_111 : decode cX9_begin 111 = .ok (.aload_n 0, 1) := by decide +kernel
theorem dX9_begin_112 : decode cX9_begin 112 = .ok (.getfield 7, 3) := by decide +kernel
theorem dX9_begin_115 : decode cX9_begin 115 = .ok (.bipush 25, 2) := by decide +kernel
theorem dX9_begin_117 : decode cX9_begin 117 = .ok (.iconst 0, 1) := by decide +kernel
theorem dX9_begin_118 : decode cX9_begin 118 = .ok (.iastore, 1) := by decide +kernel
theorem dX9_begin_119 : decode cX9_begin 119 = .ok (.aload_n 0, 1) := by decide +kernel
theorem dX9_begin_120 : decode cX9_begin 120 = .ok (.getfield 7, 3) := by decide +kernel
theorem dX9_begin_123 : decode cX9_begin 123 = .ok (.bipush 26, 2) := by decide +kernel
theorem dX9_begin_125 : decode cX9_begin 125 = .ok (.iconst 0, 1) := by decide +kernel
theorem dX9_begin_126 : decode cX9_begin 126 = .ok (.iastore, 1) := by decide +kernel
theorem dX9_begin_127 : decode cX9_begin 127 = .ok (.aload_n 0, 1) := by decide +kernel
theorem dX9_begin_128 : decode cX9_begin 128 = .ok (.getfield 7, 3) := by decide +kernel
theorem dX9_begin_131 : decode cX9_begin 131 = .ok (.bipush 27, 2) := by decide +kernel
theorem dX9_begin_133 : decode cX9_begin 133 = .ok (.iconst 3, 1) := by decide +kernel
theorem dX9_begin_134 : decode cX9_begin 134 = .ok (.iastore, 1) := by decide +kernel
theorem dX9_begin_135 : decode cX9_begin 135 = .ok (.aload_n 0, 1) := by decide +kernel
theorem dX9_begin_136 : decode cX9_begin 136 = .ok (.getfield 7, 3) := by decide +kernel
theorem dX9_begin_139 : decode cX9_begin 139 = .ok (.iconst 1, 1) := by decide +kernel
theorem dX9_begin_140 : decode cX9_begin 140 = .ok (.iaload, 1) := by decide +kernel
theorem dX9_begin_141 : decode cX9_begin 141 = .ok (.iload 5, 2) := by decide +kernel
theorem dX9_begin_143 : decode cX9_begin 143 = .ok (.iadd, 1) := by decide +kernel
theorem dX9_begin_144 : decode cX9_begin 144 = .ok (.ireturn, 1) := by decide +kernel
theorem dX9_spoil_0 : decode cX9_spoil 0 = .ok (.aload_n 0, 1) := by decide +kernel
theorem dX9_spoil_1 : decode cX9_spoil 1 = .ok (.getfield 36, 3) := by decide +kernel
theorem dX9_spoil_4 : decode cX9_spoil 4 = .ok (.ifCond .eq 18, 3) := by decide +kernel
theorem dX9_spoil_7 : decode cX9_spoil 7 = .ok (.aload_n 0, 1) := by decide +kernel
theorem dX9_spoil_8 : decode cX9_spoil 8 = .ok (.getfield 7, 3) := by decide +kernel
theorem dX9_spoil_11 : decode cX9_spoil 11 = .ok (.bipush 20, 2) := by decide +kernel
theorem dX9_spoil_13 : decode cX9_spoil 13 = .ok (.iaload, 1) := by decide +kernel
theorem dX9_spoil_14 : decode cX9_spoil 14 = .ok (.iload_n 1, 1) := by decide +kernel
theorem dX9_spoil_15 : decode cX9_spoil 15 = .ok (.if_icmp .ne 7, 3) := by decide +kernel
theorem dX9_spoil_18 : decode cX9_spoil 18 = .ok (.iconst 1, 1) := by decide +kernel
theorem dX9_spoil_19 : decode cX9_spoil 19 = .ok (.goto 4, 3) := by decide +kernel
theorem dX9_spoil_22 : decode cX9_spoil 22 = .ok (.iconst 0, 1) := by decide +kernel
theorem dX9_spoil_23 : decode cX9_spoil 23 = .ok (.istore_n 3, 1) := by decide +kernel
theorem dX9_spoil_24 : decode cX9_spoil 24 = .ok (.aload_n 0, 1) := by decide +kernel
theorem dX9_spoil_25 : decode cX9_spoil 25 = .ok (.iload_n 1, 1) := by decide +kernel
theorem dX9_spoil_26 : decode cX9_spoil 26 = .ok (.invokevirtual 260, 3) := by decide +kernel
theorem dX9_spoil_29 : decode cX9_spoil 29 = .ok (.ifCond .ne 40, 3) := by decide +kernel
theorem dX9_spoil_32 : decode cX9_spoil 32 = .ok (.aload_n 0, 1) := by decide +kernel
theorem dX9_spoil_33 : decode cX9_spoil 33 = .ok (.iload_n 2, 1) := by decide +kernel
theorem dX9_spoil_34 : decode cX9_spoil 34 = .ok (.i2l, 1) := by decide +kernel
theorem dX9_spoil_35 : decode cX9_spoil 35 = .ok (.lconst 0, 1) := by decide +kernel
theorem dX9_spoil_36 : decode cX9_spoil 36 = .ok (.ldc2_w 364, 3) := by decide +kernel
theorem dX9_spoil_39 : decode cX9_spoil 39 = .ok (.invokestatic 44, 3) := by decide +kernel
theorem dX9_spoil_42 : decode cX9_spoil 42 = .ok (.ifCond .eq 15, 3) := by decide +kernel
theorem dX9_spoil_45 : decode cX9_spoil 45 = .ok (.aload_n 0, 1) := by decide +kernel
theorem dX9_spoil_46 : decode cX9_spoil 46 = .ok (.iload_n 1, 1) := by decide +kernel
theorem dX9_spoil_47 : decode cX9_spoil 47 = .ok (.invokevirtual 60, 3) := by decide +kernel
theorem dX9_spoil_50 : decode cX9_spoil 50 = .ok (.ifCond .ne 11, 3) := by decide +kernel
theorem dX9_spoil_53 : decode cX9_spoil 53 = .ok (.iload_n 3, 1) := by decide +kernel
theorem dX9_spoil_54 : decode cX9_spoil 54 = .ok (.ifCond .ne 7, 3) := by decide +kernel
theorem dX9_spoil_57 : decode cX9_spoil 57 = .ok (.iconst 1, 1) := by decide +kernel
theorem dX9_spoil_58 : decode cX9_spoil 58 = .ok (.goto 4, 3) := by decide +kernel
theorem dX9_spoil_61 : decode cX9_spoil 61 = .ok (.iconst 0, 1) := by decide +kernel
theorem dX9_spoil_62 : decode cX9_spoil 62 = .ok (.iconst 3, 1) := by decide +kernel
theorem dX9_spoil_63 : decode cX9_spoil 63 = .ok (.invokevirtual 40, 3) := by decide +kernel
theorem dX9_spoil_66 : decode cX9_spoil 66 = .ok (.ifCond .eq 5, 3) := by decide +kernel
theorem dX9_spoil_69 : decode cX9_spoil 69 = .ok (.iconst 0, 1) := by decide +kernel
theorem dX9_spoil_70 : decode cX9_spoil 70 = .ok (.ireturn, 1) := by decide +kernel
theorem dX9_spoil_71 : decode cX9_spoil 71 = .ok (.aload_n 0, 1) := by decide +kernel
theorem dX9_spoil_72 : decode cX9_spoil 72 = .ok (.invokevirtual 357, 3) := by decide +kernel
theorem dX9_spoil_75 : decode cX9_spoil 75 = .ok (.iload_n 3, 1) := by decide +kernel
theorem dX9_spoil_76 : decode cX9_spoil 76 = .ok (.ifCond .eq 8, 3) := by decide +kernel
theorem dX9_spoil_79 : decode cX9_spoil 79 = .ok (.bipush 25, 2) := by decide +kernel
theorem dX9_spoil_81 : decode cX9_spoil 81 = .ok (.goto 13, 3) := by decide +kernel
theorem dX9_spoil_84 : decode cX9_spoil 84 = .ok (.bipush 80, 2) := by decide +kernel
theorem dX9_spoil_86 : decode cX9_spoil 86 = .ok (.bipush 13, 2) := by decide +kernel
theorem dX9_spoil_88 : decode cX9_spoil 88 = .ok (.iload_n 1, 1) := by decide +kernel
theorem dX9_spoil_89 : decode cX9_spoil 89 = .ok (.imul, 1) := by decide +kernel
theorem dX9_spoil_90 : decode cX9_spoil 90 = .ok (.iadd, 1) := by decide +kernel
theorem dX9_spoil_91 : decode cX9_spoil 91 = .ok (.bipush 11, 2) := by decide +kernel
theorem dX9_spoil_93 : decode cX9_spoil 93 = .ok (.iadd, 1) := by decide +kernel
theorem dX9_spoil_94 : decode cX9_spoil 94 = .ok (.istore 4, 2) := by decide +kernel
theorem dX9_spoil_96 : decode cX9_spoil 96 = .ok (.aload_n 0, 1) := by decide +kernel
theorem dX9_spoil_97 : decode cX9_spoil 97 = .ok (.getfield 7, 3) := by decide +kernel
theorem dX9_spoil_100 : decode cX9_spoil 100 = .ok (.iload 4, 2) := by decide +kernel
theorem dX9_spoil_102 : decode cX9_spoil 102 = .ok (.iload_n 2, 1) := by decide +kernel
theorem dX9_spoil_103 : decode cX9_spoil 103 = .ok (.iconst 1, 1) := by decide +kernel
theorem dX9_spoil_104 : decode cX9_spoil 104 = .ok (.if_icmp .ne 13, 3) := by decide +kernel
theorem dX9_spoil_107 : decode cX9_spoil 107 = .ok (.aload_n 0, 1) := by decide +kernel
theorem dX9_spoil_108 : decode cX9_spoil 108 = .ok (.getfield 7, 3) := by decide +kernel
theorem dX9_spoil_111 : decode cX9_spoil 111 = .ok (.iload 4, 2) := by decide +kernel
theorem dX9_spoil_113 : decode cX9_spoil 113 = .ok (.iaload, 1) := by decide +kernel
theorem dX9_spoil_114 : decode cX9_spoil 114 = .ok (.goto 4, 3) := by decide +kernel
theorem dX9_spoil_117 : decode cX9_spoil 117 = .ok (.iconst 1, 1) := by decide +kernel
theorem dX9_spoil_118 : decode cX9_spoil 118 = .ok (.iastore, 1) := by decide +kernel
theorem dX9_spoil_119 : decode cX9_spoil 119 = .ok (.aload_n 0, 1) := by decide +kernel
theorem dX9_spoil_120 : decode cX9_spoil 120 = .ok (.getfield 7, 3) := by decide +kernel
theorem dX9_spoil_123 : decode cX9_spoil 123 = .ok (.iload 4, 2) := by decide +kernel
theorem dX9_spoil_125 : decode cX9_spoil 125 = .ok (.iconst 1, 1) := by decide +kernel
theorem dX9_spoil_126 : decode cX9_spoil 126 = .ok (.iadd, 1) := by decide +kernel
theorem dX9_spoil_127 : decode cX9_spoil 127 = .ok (.iload_n 2, 1) := by decide +kernel
theorem dX9_spoil_128 : decode cX9_spoil 128 = .ok (.ifCond .ne 15, 3) := by decide +kernel
theorem dX9_spoil_131 : decode cX9_spoil 131 = .ok (.aload_n 0, 1) := by decide +kernel
theorem dX9_spoil_132 : decode cX9_spoil 132 = .ok (.getfield 7, 3) := by decide +kernel
theorem dX9_spoil_135 : decode cX9_spoil 135 = .ok (.iload 4, 2) := by decide +kernel
theorem dX9_spoil_137 : decode cX9_spoil 137 = .ok (.iconst 1, 1) := by decide +kernel
theorem dX9_spoil_138 : decode cX9_spoil 138 = .ok (.iadd, 1) := by decide +kernel
theorem dX9_spoil_139 : decode cX9_spoil 139 = .ok (.iaload, 1) := by decide +kernel
theorem dX9_spoil_140 : decode cX9_spoil 140 = .ok (.goto 4, 3) := by decide +kernel
theorem dX9_spoil_143 : decode cX9_spoil 143 = .ok (.iconst 1, 1) := by decide +kernel
theorem dX9_spoil_144 : decode cX9_spoil 144 = .ok (.iastore, 1) := by decide +kernel
theorem dX9_spoil_145 : decode cX9_spoil 145 = .ok (.aload_n 0, 1) := by decide +kernel
theorem dX9_spoil_146 : decode cX9_spoil 146 = .ok (.getfield 7, 3) := by decide +kernel
theorem dX9_spoil_149 : decode cX9_spoil 149 = .ok (.iload 4, 2) := by decide +kernel
theorem dX9_spoil_151 : decode cX9_spoil 151 = .ok (.iaload, 1) := by decide +kernel
theorem dX9_spoil_152 : decode cX9_spoil 152 = .ok (.iconst 2, 1) := by decide +kernel
theorem dX9_spoil_153 : decode cX9_spoil 153 = .ok (.aload_n 0, 1) := by decide +kernel
theorem dX9_spoil_154 : decode cX9_spoil 154 = .ok (.getfield 7, 3) := by decide +kernel
theorem dX9_spoil_157 : decode cX9_spoil 157 = .ok (.iload 4, 2) := by decide +kernel
theorem dX9_spoil_159 : decode cX9_spoil 159 = .ok (.iconst 1, 1) := by decide +kernel
theorem dX9_spoil_160 : decode cX9_spoil 160 = .ok (.iadd, 1) := by decide +kernel
theorem dX9_spoil_161 : decode cX9_spoil 161 = .ok (.iaload, 1) := by decide +kernel
theorem dX9_spoil_162 : decode cX9_spoil 162 = .ok (.imul, 1) := by decide +kernel
theorem dX9_spoil_163 : decode cX9_spoil 163 = .ok (.iadd, 1) := by decide +kernel
theorem dX9_spoil_164 : decode cX9_spoil 164 = .ok (.ireturn, 1) := by decide +kernel
theorem dX9_mark_0 : decode cX9_mark 0 = .ok (.aload_n 0, 1) := by decide +kernel
theorem dX9_mark_1 : decode cX9_mark 1 = .ok (.iload_n 1, 1) := by decide +kernel
theorem dX9_mark_2 : decode cX9_mark 2 = .ok (.invokevirtual 260, 3) := by decide +kernel
theorem dX9_mark_5 : decode cX9_mark 5 = .ok (.ifCond .ne 48, 3) := by decide +kernel
theorem dX9_mark_8 : decode cX9_mark 8 = .ok (.aload_n 0, 1) := by decide +kernel
theorem dX9_mark_9 : decode cX9_mark 9 = .ok (.iload_n 2, 1) := by decide +kernel
theorem dX9_mark_10 : decode cX9_mark 10 = .ok (.i2l, 1) := by decide +kernel
theorem dX9_mark_11 : decode cX9_mark 11 = .ok (.lconst 0, 1) := by decide +kernel
theorem dX9_mark_12 : decode cX9_mark 12 = .ok (.ldc2_w 366, 3) := by decide +kernel
theorem dX9_mark_15 : decode cX9_mark 15 = .ok (.invokestatic 44, 3) := by decide +kernel
theorem dX9_mark_18 : decode cX9_mark 18 = .ok (.ifCond .eq 23, 3) := by decide +kernel
theorem dX9_mark_21 : decode cX9_mark 21 = .ok (.iload_n 3, 1) := by decide +kernel
theorem dX9_mark_22 : decode cX9_mark 22 = .ok (.i2l, 1) := by decide +kernel
theorem dX9_mark_23 : decode cX9_mark 23 = .ok (.lconst 0, 1) := by decide +kernel
theorem dX9_mark_24 : decode cX9_mark 24 = .ok (.ldc2_w 368, 3) := by decide +kernel
theorem dX9_mark_27 : decode cX9_mark 27 = .ok (.invokestatic 44, 3) := by decide +kernel
theorem dX9_mark_30 : decode cX9_mark 30 = .ok (.ifCond .eq 11, 3) := by decide +kernel
theorem dX9_mark_33 : decode cX9_mark 33 = .ok (.aload_n 0, 1) := by decide +kernel
theorem dX9_mark_34 : decode cX9_mark 34 = .ok (.iload_n 1, 1) := by decide +kernel
theorem dX9_mark_35 : decode cX9_mark 35 = .ok (.invokevirtual 60, 3) := by decide +kernel
theorem dX9_mark_38 : decode cX9_mark 38 = .ok (.ifCond .ne 7, 3) := by decide +kernel
theorem dX9_mark_41 : decode cX9_mark 41 = .ok (.iconst 1, 1) := by decide +kernel
theorem dX9_mark_42 : decode cX9_mark 42 = .ok (.goto 4, 3) := by decide +kernel
theorem dX9_mark_45 : decode cX9_mark 45 = .ok (.iconst 0, 1) := by decide +kernel
theorem dX9_mark_46 : decode cX9_mark 46 = .ok (.iconst 3, 1) := by decide +kernel
theorem dX9_mark_47 : decode cX9_mark 47 = .ok (.invokevirtual 40, 3) := by decide +kernel
theorem dX9_mark_50 : decode cX9_mark 50 = .ok (.ifCond .eq 5, 3) := by decide +kernel
theorem dX9_mark_53 : decode cX9_mark 53 = .ok (.iconst 0, 1) := by decide +kernel
theorem dX9_mark_54 : decode cX9_mark 54 = .ok (.ireturn, 1) := by decide +kernel
theorem dX9_mark_55 : decode cX9_mark 55 = .ok (.aload_n 0, 1) := by decide +kernel
theorem dX9_mark_56 : decode cX9_mark 56 = .ok (.invokevirtual 357, 3) := by decide +kernel
theorem dX9_mark_59 : decode cX9_mark 59 = .ok (.aload_n 0, 1) := by decide +kernel
theorem dX9_mark_60 : decode cX9_mark 60 = .ok (.iload_n 1, 1) := by decide +kernel
theorem dX9_mark_61 : decode cX9_mark 61 = .ok (.iconst 1, 1) := by decide +kernel
theorem dX9_mark_62 : decode cX9_mark 62 = .ok (.invokevirtual 56, 3) := by decide +kernel
theorem dX9_mark_65 : decode cX9_mark 65 = .ok (.istore 4, 2) := by decide +kernel
theorem dX9_mark_67 : decode cX9_mark 67 = .ok (.aload_n 0, 1) := by decide +kernel
theorem dX9_mark_68 : decode cX9_mark 68 = .ok (.iload_n 1, 1) := by decide +kernel
theorem dX9_mark_69 : decode cX9_mark 69 = .ok (.iconst 1, 1) := by decide +kernel
theorem dX9_mark_70 : decode cX9_mark 70 = .ok (.iload_n 2, 1) := by decide +kernel
theorem dX9_mark_71 : decode cX9_mark 71 = .ok (.invokevirtual 77, 3) := by decide +kernel
theorem dX9_mark_74 : decode cX9_mark 74 = .ok (.aload_n 0, 1) := by decide +kernel
theorem dX9_mark_75 : decode cX9_mark 75 = .ok (.iload_n 1, 1) := by decide +kernel
theorem dX9_mark_76 : decode cX9_mark 76 = .ok (.iconst 2, 1) := by decide +kernel
theorem dX9_mark_77 : decode cX9_mark 77 = .ok (.iload_n 3, 1) := by decide +kernel
theorem dX9_mark_78 : decode cX9_mark 78 = .ok (.invokevirtual 77, 3) := by decide +kernel
theorem dX9_mark_81 : decode cX9_mark 81 = .ok (.iload 4, 2) := by decide +kernel
theorem dX9_mark_83 : decode cX9_mark 83 = .ok (.ireturn, 1) := by decide +kernel
theorem dX9_setNumber_0 : decode cX9_setNumber 0 = .ok (.aload_n 0, 1) := by decide +kernel
theorem dX9_setNumber_1 : decode cX9_setNumber 1 = .ok (.invokevirtual 48, 3) := by decide +kernel
theorem dX9_setNumber_4 : decode cX9_setNumber 4 = .ok (.ifCond .ne 63, 3) := by decide +kernel
theorem dX9_setNumber_7 : decode cX9_setNumber 7 = .ok (.aload_n 0, 1) := by decide +kernel
theorem dX9_setNumber_8 : decode cX9_setNumber 8 = .ok (.iload_n 1, 1) := by decide +kernel
theorem dX9_setNumber_9 : decode cX9_setNumber 9 = .ok (.i2l, 1) := by decide +kernel
theorem dX9_setNumber_10 : decode cX9_setNumber 10 = .ok (.ldc2_w 364, 3) := by decide +kernel
theorem dX9_setNumber_13 : decode cX9_setNumber 13 = .ok (.ldc2_w 370, 3) := by decide +kernel
theorem dX9_setNumber_16 : decode cX9_setNumber 16 = .ok (.invokestatic 44, 3) := by decide +kernel
theorem dX9_setNumber_19 : decode cX9_setNumber 19 = .ok (.ifCond .eq 36, 3) := by decide +kernel
theorem dX9_setNumber_22 : decode cX9_setNumber 22 = .ok (.iload_n 2, 1) := by decide +kernel
theorem dX9_setNumber_23 : decode cX9_setNumber 23 = .ok (.i2l, 1) := by decide +kernel
theorem dX9_setNumber_24 : decode cX9_setNumber 24 = .ok (.iload_n 1, 1) := by decide +kernel
theorem dX9_setNumber_25 : decode cX9_setNumber 25 = .ok (.invokestatic 233, 3) := by decide +kernel
theorem dX9_setNumber_28 : decode cX9_setNumber 28 = .ok (.i2l, 1) := by decide +kernel
theorem dX9_setNumber_29 : decode cX9_setNumber 29 = .ok (.iload_n 1, 1) := by decide +kernel
theorem dX9_setNumber_30 : decode cX9_setNumber 30 = .ok (.invokestatic 236, 3) := by decide +kernel
theorem dX9_setNumber_33 : decode cX9_setNumber 33 = .ok (.i2l, 1) := by decide +kernel
theorem dX9_setNumber_34 : decode cX9_setNumber 34 = .ok (.invokestatic 44, 3) := by decide +kernel
theorem dX9_setNumber_37 : decode cX9_setNumber 37 = .ok (.ifCond .eq 18, 3) := by decide +kernel
theorem dX9_setNumber_40 : decode cX9_setNumber 40 = .ok (.iload_n 1, 1) := by decide +kernel
theorem dX9_setNumber_41 : decode cX9_setNumber 41 = .ok (.iconst 5, 1) := by decide +kernel
theorem dX9_setNumber_42 : decode cX9_setNumber 42 = .ok (.if_icmp .ne 17, 3) := by decide +kernel
theorem dX9_setNumber_45 : decode cX9_setNumber 45 = .ok (.iload_n 2, 1) := by decide +kernel
theorem dX9_setNumber_46 : decode cX9_setNumber 46 = .ok (.aload_n 0, 1) := by decide +kernel
theorem dX9_setNumber_47 : decode cX9_setNumber 47 = .ok (.getfield 7, 3) := by decide +kernel
theorem dX9_setNumber_50 : decode cX9_setNumber 50 = .ok (.iconst 5, 1) := by decide +kernel
theorem dX9_setNumber_51 : decode cX9_setNumber 51 = .ok (.iaload, 1) := by decide +kernel
theorem dX9_setNumber_52 : decode cX9_setNumber 52 = .ok (.if_icmp .ge 7, 3) := by decide +kernel
theorem dX9_setNumber_55 : decode cX9_setNumber 55 = .ok (.iconst 1, 1) := by decide +kernel
theorem dX9_setNumber_56 : decode cX9_setNumber 56 = .ok (.goto 4, 3) := by decide +kernel
theorem dX9_setNumber_59 : decode cX9_setNumber 59 = .ok (.iconst 0, 1) := by decide +kernel
theorem dX9_setNumber_60 : decode cX9_setNumber 60 = .ok (.iconst 2, 1) := by decide +kernel
theorem dX9_setNumber_61 : decode cX9_setNumber 61 = .ok (.invokevirtual 40, 3) := by decide +kernel
theorem dX9_setNumber_64 : decode cX9_setNumber 64 = .ok (.ifCond .eq 5, 3) := by decide +kernel
theorem dX9_setNumber_67 : decode cX9_setNumber 67 = .ok (.iconst 0, 1) := by decide +kernel
theorem dX9_setNumber_68 : decode cX9_setNumber 68 = .ok (.ireturn, 1) := by decide +kernel
theorem dX9_setNumber_69 : decode cX9_setNumber 69 = .ok (.aload_n 0, 1) := by decide +kernel
theorem dX9_setNumber_70 : decode cX9_setNumber 70 = .ok (.invokevirtual 357, 3) := by decide +kernel
theorem dX9_setNumber_73 : decode cX9_setNumber 73 = .ok (.aload_n 0, 1) := by decide +kernel
theorem dX9_setNumber_74 : decode cX9_setNumber 74 = .ok (.getfield 7, 3) := by decide +kernel
theorem dX9_setNumber_77 : decode cX9_setNumber 77 = .ok (.iload_n 1, 1) := by decide +kernel
theorem dX9_setNumber_78 : decode cX9_setNumber 78 = .ok (.iaload, 1) := by decide +kernel
theorem dX9_setNumber_79 : decode cX9_setNumber 79 = .ok (.istore_n 3, 1) := by decide +kernel
theorem dX9_setNumber_80 : decode cX9_setNumber 80 = .ok (.aload_n 0, 1) := by decide +kernel
theorem dX9_setNumber_81 : decode cX9_setNumber 81 = .ok (.getfield 7, 3) := by decide +kernel
theorem dX9_setNumber_84 : decode cX9_setNumber 84 = .ok (.iload_n 1, 1) := by decide +kernel
theorem dX9_setNumber_85 : decode cX9_setNumber 85 = .ok (.iload_n 2, 1) := by decide +kernel
theorem dX9_setNumber_86 : decode cX9_setNumber 86 = .ok (.iastore, 1) := by decide +kernel
theorem dX9_setNumber_87 : decode cX9_setNumber 87 = .ok (.iload_n 3, 1) := by decide +kernel
theorem dX9_setNumber_88 : decode cX9_setNumber 88 = .ok (.ireturn, 1) := by decide +kernel
theorem dX9_undo_0 : decode cX9_undo 0 = .ok (.aload_n 0, 1) := by decide +kernel
theorem dX9_undo_1 : decode cX9_undo 1 = .ok (.iconst 0, 1) := by decide +kernel
theorem dX9_undo_2 : decode cX9_undo 2 = .ok (.putfield 33, 3) := by decide +kernel
theorem dX9_undo_5 : decode cX9_undo 5 = .ok (.aload_n 0, 1) := by decide +kernel
theorem dX9_undo_6 : decode cX9_undo 6 = .ok (.aload_n 0, 1) := by decide +kernel
theorem dX9_undo_7 : decode cX9_undo 7 = .ok (.getfield 249, 3) := by decide +kernel
theorem dX9_undo_10 : decode cX9_undo 10 = .ok (.ifCond .ne 7, 3) := by decide +kernel
theorem dX9_undo_13 : decode cX9_undo 13 = .ok (.iconst 1, 1) := by decide +kernel
theorem dX9_undo_14 : decode cX9_undo 14 = .ok (.goto 4, 3) := by decide +kernel
theorem dX9_undo_17 : decode cX9_undo 17 = .ok (.iconst 0, 1) := by decide +kernel
theorem dX9_undo_18 : decode cX9_undo 18 = .ok (.iconst 1, 1) := by decide +kernel
theorem dX9_undo_19 : decode cX9_undo 19 = .ok (.invokevirtual 40, 3) := by decide +kernel
theorem dX9_undo_22 : decode cX9_undo 22 = .ok (.ifCond .eq 5, 3) := by decide +kernel
theorem dX9_undo_25 : decode cX9_undo 25 = .ok (.iconst 0, 1) := by decide +kernel
theorem dX9_undo_26 : decode cX9_undo 26 = .ok (.ireturn, 1) := by decide +kernel
theorem dX9_undo_27 : decode cX9_undo 27 = .ok (.aload_n 0, 1) := by decide +kernel
theorem dX9_undo_28 : decode cX9_undo 28 = .ok (.dup, 1) := by decide +kernel
theorem dX9_undo_29 : decode cX9_undo 29 = .ok (.getfield 249, 3) := by decide +kernel
theorem dX9_undo_32 : decode cX9_undo 32 = .ok (.iconst 1, 1) := by decide +kernel
theorem dX9_undo_33 : decode cX9_undo 33 = .ok (.isub, 1) := by decide +kernel
theorem dX9_undo_34 : decode cX9_undo 34 = .ok (.putfield 249, 3) := by decide +kernel
theorem dX9_undo_37 : decode cX9_undo 37 = .ok (.aload_n 0, 1) := by decide +kernel
theorem dX9_undo_38 : decode cX9_undo 38 = .ok (.getfield 13, 3) := by decide +kernel
theorem dX9_undo_41 : decode cX9_undo 41 = .ok (.sipush 160, 3) := by decide +kernel
theorem dX9_undo_44 : decode cX9_undo 44 = .ok (.iconst 0, 1) := by decide +kernel
theorem dX9_undo_45 : decode cX9_undo 45 = .ok (.aload_n 0, 1) := by decide +kernel
theorem dX9_undo_46 : decode cX9_undo 46 = .ok (.getfield 249, 3) := by decide +kernel
theorem dX9_undo_49 : decode cX9_undo 49 = .ok (.iadd, 1) := by decide +kernel
theorem dX9_undo_50 : decode cX9_undo 50 = .ok (.imul, 1) := by decide +kernel
theorem dX9_undo_51 : decode cX9_undo 51 = .ok (.aload_n 0, 1) := by decide +kernel
theorem dX9_undo_52 : decode cX9_undo 52 = .ok (.getfield 7, 3) := by decide +kernel
theorem dX9_undo_55 : decode cX9_undo 55 = .ok (.iconst 0, 1) := by decide +kernel
theorem dX9_undo_56 : decode cX9_undo 56 = .ok (.invokestatic 242, 3) := by decide +kernel
theorem dX9_undo_59 : decode cX9_undo 59 = .ok (.aload_n 0, 1) := by decide +kernel
theorem dX9_undo_60 : decode cX9_undo 60 = .ok (.getfield 249, 3) := by decide +kernel
theorem dX9_undo_63 : decode cX9_undo 63 = .ok (.ireturn, 1) := by decide +kernel
theorem dX9_undoable_0 : decode cX9_undoable 0 = .ok (.aload_n 0, 1) := by decide +kernel
theorem dX9_undoable_1 : decode cX9_undoable 1 = .ok (.iconst 0, 1) := by decide +kernel
theorem dX9_undoable_2 : decode cX9_undoable 2 = .ok (.putfield 33, 3) := by decide +kernel
theorem dX9_undoable_5 : decode cX9_undoable 5 = .ok (.aload_n 0, 1) := by decide +kernel
theorem dX9_undoable_6 : decode cX9_undoable 6 = .ok (.getfield 249, 3) := by decide +kernel
theorem dX9_undoable_9 : decode cX9_undoable 9 = .ok (.ireturn, 1) := by decide +kernel
theorem dX9_save_0 : decode cX9_save 0 = .ok (.aload_n 0, 1) := by decide +kernel
theorem dX9_save_1 : decode cX9_save 1 = .ok (.invokevirtual 48, 3) := by decide +kernel
theorem dX9_save_4 : decode cX9_save 4 = .ok (.ifCond .ne 26, 3) := by decide +kernel
theorem dX9_save_7 : decode cX9_save 7 = .ok (.aload_n 0, 1) := by decide +kernel
theorem dX9_save_8 : decode cX9_save 8 = .ok (.iload_n 1, 1) := by decide +kernel
theorem dX9_save_9 : decode cX9_save 9 = .ok (.i2l, 1) := by decide +kernel
theorem dX9_save_10 : decode cX9_save 10 = .ok (.lconst 0, 1) := by decide +kernel
theorem dX9_save_11 : decode cX9_save 11 = .ok (.lconst 1, 1) := by decide +kernel
theorem dX9_save_12 : decode cX9_save 12 = .ok (.invokestatic 44, 3) := by decide +kernel
theorem dX9_save_15 : decode cX9_save 15 = .ok (.ifCond .ne 7, 3) := by decide +kernel
theorem dX9_save_18 : decode cX9_save 18 = .ok (.iconst 1, 1) := by decide +kernel
theorem dX9_save_19 : decode cX9_save 19 = .ok (.goto 4, 3) := by decide +kernel
theorem dX9_save_22 : decode cX9_save 22 = .ok (.iconst 0, 1) := by decide +kernel
theorem dX9_save_23 : decode cX9_save 23 = .ok (.iconst 2, 1) := by decide +kernel
theorem dX9_save_24 : decode cX9_save 24 = .ok (.invokevirtual 40, 3) := by decide +kernel
theorem dX9_save_27 : decode cX9_save 27 = .ok (.ifCond .eq 5, 3) := by decide +kernel
theorem dX9_save_30 : decode cX9_save 30 = .ok (.iconst 0, 1) := by decide +kernel
theorem dX9_save_31 : decode cX9_save 31 = .ok (.ireturn, 1) := by decide +kernel
theorem dX9_save_32 : decode cX9_save 32 = .ok (.aload_n 0, 1) := by decide +kernel
theorem dX9_save_33 : decode cX9_save 33 = .ok (.getfield 7, 3) := by decide +kernel
theorem dX9_save_36 : decode cX9_save 36 = .ok (.iconst 0, 1) := by decide +kernel
theorem dX9_save_37 : decode cX9_save 37 = .ok (.aload_n 0, 1) := by decide +kernel
theorem dX9_save_38 : decode cX9_save 38 = .ok (.getfield 13, 3) := by decide +kernel
theorem dX9_save_41 : decode cX9_save 41 = .ok (.sipush 160, 3) := by decide +kernel
theorem dX9_save_44 : decode cX9_save 44 = .ok (.bipush 8, 2) := by decide +kernel
theorem dX9_save_46 : decode cX9_save 46 = .ok (.iload_n 1, 1) := by decide +kernel
theorem dX9_save_47 : decode cX9_save 47 = .ok (.iadd, 1) := by decide +kernel
theorem dX9_save_48 : decode cX9_save 48 = .ok (.imul, 1) := by decide +kernel
theorem dX9_save_49 : decode cX9_save 49 = .ok (.invokestatic 242, 3) := by decide +kernel
theorem dX9_save_52 : decode cX9_save 52 = .ok (.aload_n 0, 1) := by decide +kernel
theorem dX9_save_53 : decode cX9_save 53 = .ok (.getfield 16, 3) := by decide +kernel
theorem dX9_save_56 : decode cX9_save 56 = .ok (.iload_n 1, 1) := by decide +kernel
theorem dX9_save_57 : decode cX9_save 57 = .ok (.iconst 1, 1) := by decide +kernel
theorem dX9_save_58 : decode cX9_save 58 = .ok (.bastore, 1) := by decide +kernel
theorem dX9_save_59 : decode cX9_save 59 = .ok (.aload_n 0, 1) := by decide +kernel
theorem dX9_save_60 : decode cX9_save 60 = .ok (.getfield 7, 3) := by decide +kernel
theorem dX9_save_63 : decode cX9_save 63 = .ok (.iconst 1, 1) := by decide +kernel
theorem dX9_save_64 : decode cX9_save 64 = .ok (.iaload, 1) := by decide +kernel
theorem dX9_save_65 : decode cX9_save 65 = .ok (.ireturn, 1) := by decide +kernel
theorem dX9_restore_0 : decode cX9_restore 0 = .ok (.aload_n 0, 1) := by decide +kernel
theorem dX9_restore_1 : decode cX9_restore 1 = .ok (.iconst 0, 1) := by decide +kernel
theorem dX9_restore_2 : decode cX9_restore 2 = .ok (.putfield 33, 3) := by decide +kernel
theorem dX9_restore_5 : decode cX9_restore 5 = .ok (.aload_n 0, 1) := by decide +kernel
theorem dX9_restore_6 : decode cX9_restore 6 = .ok (.iload_n 1, 1) := by decide +kernel
theorem dX9_restore_7 : decode cX9_restore 7 = .ok (.i2l, 1) := by decide +kernel
theorem dX9_restore_8 : decode cX9_restore 8 = .ok (.lconst 0, 1) := by decide +kernel
theorem dX9_restore_9 : decode cX9_restore 9 = .ok (.lconst 1, 1) := by decide +kernel
theorem dX9_restore_10 : decode cX9_restore 10 = .ok (.invokestatic 44, 3) := by decide +kernel
theorem dX9_restore_13 : decode cX9_restore 13 = .ok (.ifCond .ne 7, 3) := by decide +kernel
theorem dX9_restore_16 : decode cX9_restore 16 = .ok (.iconst 1, 1) := by decide +kernel
theorem dX9_restore_17 : decode cX9_restore 17 = .ok (.goto 4, 3) := by decide +kernel
theorem dX9_restore_20 : decode cX9_restore 20 = .ok (.iconst 0, 1) := by decide +kernel
theorem dX9_restore_21 : decode cX9_restore 21 = .ok (.iconst 1, 1) := by decide +kernel
theorem dX9_restore_22 : decode cX9_restore 22 = .ok (.invokevirtual 40, 3) := by decide +kernel
theorem dX9_restore_25 : decode cX9_restore 25 = .ok (.ifCond .ne 25, 3) := by decide +kernel
theorem dX9_restore_28 : decode cX9_restore 28 = .ok (.aload_n 0, 1) := by decide +kernel
theorem dX9_restore_29 : decode cX9_restore 29 = .ok (.aload_n 0, 1) := by decide +kernel
theorem dX9_restore_30 : decode cX9_restore 30 = .ok (.getfield 16, 3) := by decide +kernel
theorem dX9_restore_33 : decode cX9_restore 33 = .ok (.iload_n 1, 1) := by decide +kernel
theorem dX9_restore_34 : decode cX9_restore 34 = .ok (.baload, 1) := by decide +kernel
theorem dX9_restore_35 : decode cX9_restore 35 = .ok (.ifCond .ne 7, 3) := by decide +kernel
theorem dX9_restore_38 : decode cX9_restore 38 = .ok (.iconst 1, 1) := by decide +kernel
theorem dX9_restore_39 : decode cX9_restore 39 = .ok (.goto 4, 3) := by decide +kernel
theorem dX9_restore_42 : decode cX9_restore 42 = .ok (.iconst 0, 1) := by decide +kernel
theorem dX9_restore_43 : decode cX9_restore 43 = .ok (.iconst 2, 1) := by decide +kernel
theorem dX9_restore_44 : decode cX9_restore 44 = .ok (.invokevirtual 40, 3) := by decide +kernel
theorem dX9_restore_47 : decode cX9_restore 47 = .ok (.ifCond .eq 5, 3) := by decide +kernel
theorem dX9_restore_50 : decode cX9_restore 50 = .ok (.iconst 0, 1) := by decide +kernel
theorem dX9_restore_51 : decode cX9_restore 51 = .ok (.ireturn, 1) := by decide +kernel
theorem dX9_restore_52 : decode cX9_restore 52 = .ok (.aload_n 0, 1) := by decide +kernel
theorem dX9_restore_53 : decode cX9_restore 53 = .ok (.getfield 13, 3) := by decide +kernel
theorem dX9_restore_56 : decode cX9_restore 56 = .ok (.sipush 160, 3) := by decide +kernel
theorem dX9_restore_59 : decode cX9_restore 59 = .ok (.bipush 8, 2) := by decide +kernel
theorem dX9_restore_61 : decode cX9_restore 61 = .ok (.iload_n 1, 1) := by decide +kernel
theorem dX9_restore_62 : decode cX9_restore 62 = .ok (.iadd, 1) := by decide +kernel
theorem dX9_restore_63 : decode cX9_restore 63 = .ok (.imul, 1) := by decide +kernel
theorem dX9_restore_64 : decode cX9_restore 64 = .ok (.aload_n 0, 1) := by decide +kernel
theorem dX9_restore_65 : decode cX9_restore 65 = .ok (.getfield 7, 3) := by decide +kernel
theorem dX9_restore_68 : decode cX9_restore 68 = .ok (.iconst 0, 1) := by decide +kernel
theorem dX9_restore_69 : decode cX9_restore 69 = .ok (.invokestatic 242, 3) := by decide +kernel
theorem dX9_restore_72 : decode cX9_restore 72 = .ok (.aload_n 0, 1) := by decide +kernel
theorem dX9_restore_73 : decode cX9_restore 73 = .ok (.iconst 0, 1) := by decide +kernel
theorem dX9_restore_74 : decode cX9_restore 74 = .ok (.putfield 249, 3) := by decide +kernel
theorem dX9_restore_77 : decode cX9_restore 77 = .ok (.aload_n 0, 1) := by decide +kernel
theorem dX9_restore_78 : decode cX9_restore 78 = .ok (.getfield 7, 3) := by decide +kernel
theorem dX9_restore_81 : decode cX9_restore 81 = .ok (.iconst 1, 1) := by decide +kernel
theorem dX9_restore_82 : decode cX9_restore 82 = .ok (.iaload, 1) := by decide +kernel
theorem dX9_restore_83 : decode cX9_restore 83 = .ok (.ireturn, 1) := by decide +kernel
