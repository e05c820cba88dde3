theorem dX0_init_0 : decode cX0_init 0 = .ok (.aload_n 0, 1) := by decide +kernel
theorem dX0_init_1 : decode cX0_init 1 = .ok (.invokespecial 3, 3) := by decide +kernel
theorem dX0_init_4 : decode cX0_init 4 = .ok (.aload_n 0, 1) := by decide +kernel
theorem dX0_init_5 : decode cX0_init 5 = .ok (.bipush 12, 2) := by decide +kernel
theorem dX0_init_7 : decode cX0_init 7 = .ok (.newarray .int, 2) := by decide +kernel
theorem dX0_init_9 : decode cX0_init 9 = .ok (.putfield 9, 3) := by decide +kernel
theorem dX0_init_12 : decode cX0_init 12 = .ok (.aload_n 0, 1) := by decide +kernel
theorem dX0_init_13 : decode cX0_init 13 = .ok (.bipush 12, 2) := by decide +kernel
theorem dX0_init_15 : decode cX0_init 15 = .ok (.newarray .int, 2) := by decide +kernel
theorem dX0_init_17 : decode cX0_init 17 = .ok (.putfield 15, 3) := by decide +kernel
theorem dX0_init_20 : decode cX0_init 20 = .ok (.aload_n 0, 1) := by decide +kernel
theorem dX0_init_21 : decode cX0_init 21 = .ok (.bipush 12, 2) := by decide +kernel
theorem dX0_init_23 : decode cX0_init 23 = .ok (.newarray .int, 2) := by decide +kernel
theorem dX0_init_25 : decode cX0_init 25 = .ok (.putfield 18, 3) := by decide +kernel
theorem dX0_init_28 : decode cX0_init 28 = .ok (.aload_n 0, 1) := by decide +kernel
theorem dX0_init_29 : decode cX0_init 29 = .ok (.bipush 12, 2) := by decide +kernel
theorem dX0_init_31 : decode cX0_init 31 = .ok (.newarray .int, 2) := by decide +kernel
theorem dX0_init_33 : decode cX0_init 33 = .ok (.putfield 21, 3) := by decide +kernel
theorem dX0_init_36 : decode cX0_init 36 = .ok (.return_, 1) := by decide +kernel
theorem dX0_copyFrom_0 : decode cX0_copyFrom 0 = .ok (.iconst 0, 1) := by decide +kernel
theorem dX0_copyFrom_1 : decode cX0_copyFrom 1 = .ok (.istore_n 2, 1) := by decide +kernel
theorem dX0_copyFrom_2 : decode cX0_copyFrom 2 = .ok (.iload_n 2, 1) := by decide +kernel
theorem dX0_copyFrom_3 : decode cX0_copyFrom 3 = .ok (.bipush 12, 2) := by decide +kernel
theorem dX0_copyFrom_5 : decode cX0_copyFrom 5 = .ok (.if_icmp .ge 57, 3) := by decide +kernel
theorem dX0_copyFrom_8 : decode cX0_copyFrom 8 = .ok (.aload_n 0, 1) := by decide +kernel
theorem dX0_copyFrom_9 : decode cX0_copyFrom 9 = .ok (.getfield 9, 3) := by decide +kernel
theorem dX0_copyFrom_12 : decode cX0_copyFrom 12 = .ok (.iload_n 2, 1) := by decide +kernel
theorem dX0_copyFrom_13 : decode cX0_copyFrom 13 = .ok (.aload_n 1, 1) := by decide +kernel
theorem dX0_copyFrom_14 : decode cX0_copyFrom 14 = .ok (.getfield 9, 3) := by decide +kernel
theorem dX0_copyFrom_17 : decode cX0_copyFrom 17 = .ok (.iload_n 2, 1) := by decide +kernel
theorem dX0_copyFrom_18 : decode cX0_copyFrom 18 = .ok (.iaload, 1) := by decide +kernel
theorem dX0_copyFrom_19 : decode cX0_copyFrom 19 = .ok (.iastore, 1) := by decide +kernel
theorem dX0_copyFrom_20 : decode cX0_copyFrom 20 = .ok (.aload_n 0, 1) := by decide +kernel
theorem dX0_copyFrom_21 : decode cX0_copyFrom 21 = .ok (.getfield 15, 3) := by decide +kernel
theorem dX0_copyFrom_24 : decode cX0_copyFrom 24 = .ok (.iload_n 2, 1) := by decide +kernel
theorem dX0_copyFrom_25 : decode cX0_copyFrom 25 = .ok (.aload_n 1, 1) := by decide +kernel
theorem dX0_copyFrom_26 : decode cX0_copyFrom 26 = .ok (.getfield 15, 3) := by decide +kernel
theorem dX0_copyFrom_29 : decode cX0_copyFrom 29 = .ok (.iload_n 2, 1) := by decide +kernel
theorem dX0_copyFrom_30 : decode cX0_copyFrom 30 = .ok (.iaload, 1) := by decide +kernel
theorem dX0_copyFrom_31 : decode cX0_copyFrom 31 = .ok (.iastore, 1) := by decide +kernel
theorem dX0_copyFrom_32 : decode cX0_copyFrom 32 = .ok (.aload_n 0, 1) := by decide +kernel
theorem dX0_copyFrom_33 : decode cX0_copyFrom 33 = .ok (.getfield 18, 3) := by decide +kernel
theorem dX0_copyFrom_36 : decode cX0_copyFrom 36 = .ok (.iload_n 2, 1) := by decide +kernel
theorem dX0_copyFrom_37 : decode cX0_copyFrom 37 = .ok (.aload_n 1, 1) := by decide +kernel
theorem dX0_copyFrom_38 : decode cX0_copyFrom 38 = .ok (.getfield 18, 3) := by decide +kernel
theorem dX0_copyFrom_41 : decode cX0_copyFrom 41 = .ok (.iload_n 2, 1) := by decide +kernel
theorem dX0_copyFrom_42 : decode cX0_copyFrom 42 = .ok (.iaload, 1) := by decide +kernel
theorem dX0_copyFrom_43 : decode cX0_copyFrom 43 = .ok (.iastore, 1) := by decide +kernel
theorem dX0_copyFrom_44 : decode cX0_copyFrom 44 = .ok (.aload_n 0, 1) := by decide +kernel
theorem dX0_copyFrom_45 : decode cX0_copyFrom 45 = .ok (.getfield 21, 3) := by decide +kernel
theorem dX0_copyFrom_48 : decode cX0_copyFrom 48 = .ok (.iload_n 2, 1) := by decide +kernel
theorem dX0_copyFrom_49 : decode cX0_copyFrom 49 = .ok (.aload_n 1, 1) := by decide +kernel
theorem dX0_copyFrom_50 : decode cX0_copyFrom 50 = .ok (.getfield 21, 3) := by decide +kernel
theorem dX0_copyFrom_53 : decode cX0_copyFrom 53 = .ok (.iload_n 2, 1) := by decide +kernel
theorem dX0_copyFrom_54 : decode cX0_copyFrom 54 = .ok (.iaload, 1) := by decide +kernel
theorem dX0_copyFrom_55 : decode cX0_copyFrom 55 = .ok (.iastore, 1) := by decide +kernel
theorem dX0_copyFrom_56 : decode cX0_copyFrom 56 = .ok (.iinc 2 1, 3) := by decide +kernel
theorem dX0_copyFrom_59 : decode cX0_copyFrom 59 = .ok (.goto (-57), 3) := by decide +kernel
theorem dX0_copyFrom_62 : decode cX0_copyFrom 62 = .ok (.aload_n 0, 1) := by decide +kernel
theorem dX0_copyFrom_63 : decode cX0_copyFrom 63 = .ok (.aload_n 1, 1) := by decide +kernel
theorem dX0_copyFrom_64 : decode cX0_copyFrom 64 = .ok (.getfield 24, 3) := by decide +kernel
theorem dX0_copyFrom_67 : decode cX0_copyFrom 67 = .ok (.putfield 24, 3) := by decide +kernel
theorem dX0_copyFrom_70 : decode cX0_copyFrom 70 = .ok (.return_, 1) := by decide +kernel
theorem dX0_add_0 : decode cX0_add 0 = .ok (.aload_n 0, 1) := by decide +kernel
theorem dX0_add_1 : decode cX0_add 1 = .ok (.getfield 24, 3) := by decide +kernel
theorem dX0_add_4 : decode cX0_add 4 = .ok (.bipush 12, 2) := by decide +kernel
theorem dX0_add_6 : decode cX0_add 6 = .ok (.irem, 1) := by decide +kernel
theorem dX0_add_7 : decode cX0_add 7 = .ok (.istore 5, 2) := by decide +kernel
theorem dX0_add_9 : decode cX0_add 9 = .ok (.iload 5, 2) := by decide +kernel
theorem dX0_add_11 : decode cX0_add 11 = .ok (.ifCond .lt 43, 3) := by decide +kernel
theorem dX0_add_14 : decode cX0_add 14 = .ok (.iload 5, 2) := by decide +kernel
theorem dX0_add_16 : decode cX0_add 16 = .ok (.bipush 12, 2) := by decide +kernel
theorem dX0_add_18 : decode cX0_add 18 = .ok (.if_icmp .ge 36, 3) := by decide +kernel
theorem dX0_add_21 : decode cX0_add 21 = .ok (.aload_n 0, 1) := by decide +kernel
theorem dX0_add_22 : decode cX0_add 22 = .ok (.getfield 9, 3) := by decide +kernel
theorem dX0_add_25 : decode cX0_add 25 = .ok (.iload 5, 2) := by decide +kernel
theorem dX0_add_27 : decode cX0_add 27 = .ok (.iload_n 1, 1) := by decide +kernel
theorem dX0_add_28 : decode cX0_add 28 = .ok (.iastore, 1) := by decide +kernel
theorem dX0_add_29 : decode cX0_add 29 = .ok (.aload_n 0, 1) := by decide +kernel
theorem dX0_add_30 : decode cX0_add 30 = .ok (.getfield 15, 3) := by decide +kernel
theorem dX0_add_33 : decode cX0_add 33 = .ok (.iload 5, 2) := by decide +kernel
theorem dX0_add_35 : decode cX0_add 35 = .ok (.iload_n 2, 1) := by decide +kernel
theorem dX0_add_36 : decode cX0_add 36 = .ok (.iastore, 1) := by decide +kernel
theorem dX0_add_37 : decode cX0_add 37 = .ok (.aload_n 0, 1) := by decide +kernel
theorem dX0_add_38 : decode cX0_add 38 = .ok (.getfield 18, 3) := by decide +kernel
theorem dX0_add_41 : decode cX0_add 41 = .ok (.iload 5, 2) := by decide +kernel
theorem dX0_add_43 : decode cX0_add 43 = .ok (.iload_n 3, 1) := by decide +kernel
theorem dX0_add_44 : decode cX0_add 44 = .ok (.iastore, 1) := by decide +kernel
theorem dX0_add_45 : decode cX0_add 45 = .ok (.aload_n 0, 1) := by decide +kernel
theorem dX0_add_46 : decode cX0_add 46 = .ok (.getfield 21, 3) := by decide +kernel
theorem dX0_add_49 : decode cX0_add 49 = .ok (.iload 5, 2) := by decide +kernel
theorem dX0_add_51 : decode cX0_add 51 = .ok (.iload 4, 2) := by decide +kernel
theorem dX0_add_53 : decode cX0_add 53 = .ok (.iastore, 1) := by decide +kernel
theorem dX0_add_54 : decode cX0_add 54 = .ok (.aload_n 0, 1) := by decide +kernel
theorem dX0_add_55 : decode cX0_add 55 = .ok (.dup, 1) := by decide +kernel
theorem dX0_add_56 : decode cX0_add 56 = .ok (.getfield 24, 3) := by decide +kernel
theorem dX0_add_59 : decode cX0_add 59 = .ok (.iconst 1, 1) := by decide +kernel
theorem dX0_add_60 : decode cX0_add 60 = .ok (.iadd, 1) := by decide +kernel
theorem dX0_add_61 : decode cX0_add 61 = .ok (.putfield 24, 3) := by decide +kernel
theorem dX0_add_64 : decode cX0_add 64 = .ok (.return_, 1) := by decide +kernel
theorem dX0_kept_0 : decode cX0_kept 0 = .ok (.aload_n 0, 1) := by decide +kernel
theorem dX0_kept_1 : decode cX0_kept 1 = .ok (.getfield 24, 3) := by decide +kernel
theorem dX0_kept_4 : decode cX0_kept 4 = .ok (.bipush 12, 2) := by decide +kernel
theorem dX0_kept_6 : decode cX0_kept 6 = .ok (.invokestatic 28, 3) := by decide +kernel
theorem dX0_kept_9 : decode cX0_kept 9 = .ok (.ireturn, 1) := by decide +kernel
theorem dX0_rowOf_0 : decode cX0_rowOf 0 = .ok (.iload_n 1, 1) := by decide +kernel
theorem dX0_rowOf_1 : decode cX0_rowOf 1 = .ok (.ifCond .lt 11, 3) := by decide +kernel
theorem dX0_rowOf_4 : decode cX0_rowOf 4 = .ok (.iload_n 1, 1) := by decide +kernel
theorem dX0_rowOf_5 : decode cX0_rowOf 5 = .ok (.aload_n 0, 1) := by decide +kernel
theorem dX0_rowOf_6 : decode cX0_rowOf 6 = .ok (.invokevirtual 34, 3) := by decide +kernel
theorem dX0_rowOf_9 : decode cX0_rowOf 9 = .ok (.if_icmp .lt 5, 3) := by decide +kernel
theorem dX0_rowOf_12 : decode cX0_rowOf 12 = .ok (.iconst (-1), 1) := by decide +kernel
theorem dX0_rowOf_13 : decode cX0_rowOf 13 = .ok (.ireturn, 1) := by decide +kernel
theorem dX0_rowOf_14 : decode cX0_rowOf 14 = .ok (.aload_n 0, 1) := by decide +kernel
theorem dX0_rowOf_15 : decode cX0_rowOf 15 = .ok (.getfield 24, 3) := by decide +kernel
theorem dX0_rowOf_18 : decode cX0_rowOf 18 = .ok (.iconst 1, 1) := by decide +kernel
theorem dX0_rowOf_19 : decode cX0_rowOf 19 = .ok (.isub, 1) := by decide +kernel
theorem dX0_rowOf_20 : decode cX0_rowOf 20 = .ok (.iload_n 1, 1) := by decide +kernel
theorem dX0_rowOf_21 : decode cX0_rowOf 21 = .ok (.isub, 1) := by decide +kernel
theorem dX0_rowOf_22 : decode cX0_rowOf 22 = .ok (.bipush 12, 2) := by decide +kernel
theorem dX0_rowOf_24 : decode cX0_rowOf 24 = .ok (.irem, 1) := by decide +kernel
theorem dX0_rowOf_25 : decode cX0_rowOf 25 = .ok (.ireturn, 1) := by decide +kernel
theorem dX1_init_0 : decode cX1_init 0 = .ok (.aload_n 0, 1) := by decide +kernel
theorem dX1_init_1 : decode cX1_init 1 = .ok (.invokespecial 1, 3) := by decide +kernel
theorem dX1_init_4 : decode cX1_init 4 = .ok (.return_, 1) := by decide +kernel
theorem dX1_copyFrom_0 : decode cX1_copyFrom 0 = .ok (.aload_n 0, 1) := by decide +kernel
theorem dX1_copyFrom_1 : decode cX1_copyFrom 1 = .ok (.aload_n 1, 1) := by decide +kernel
theorem dX1_copyFrom_2 : decode cX1_copyFrom 2 = .ok (.getfield 7, 3) := by decide +kernel
theorem dX1_copyFrom_5 : decode cX1_copyFrom 5 = .ok (.putfield 7, 3) := by decide +kernel
theorem dX1_copyFrom_8 : decode cX1_copyFrom 8 = .ok (.aload_n 0, 1) := by decide +kernel
theorem dX1_copyFrom_9 : decode cX1_copyFrom 9 = .ok (.aload_n 1, 1) := by decide +kernel
theorem dX1_copyFrom_10 : decode cX1_copyFrom 10 = .ok (.getfield 13, 3) := by decide +kernel
theorem dX1_copyFrom_13 : decode cX1_copyFrom 13 = .ok (.putfield 13, 3) := by decide +kernel
theorem dX1_copyFrom_16 : decode cX1_copyFrom 16 = .ok (.aload_n 0, 1) := by decide +kernel
theorem dX1_copyFrom_17 : decode cX1_copyFrom 17 = .ok (.aload_n 1, 1) := by decide +kernel
theorem dX1_copyFrom_18 : decode cX1_copyFrom 18 = .ok (.getfield 17, 3) := by decide +kernel
theorem dX1_copyFrom_21 : decode cX1_copyFrom 21 = .ok (.putfield 17, 3) := by decide +kernel
theorem dX1_copyFrom_24 : decode cX1_copyFrom 24 = .ok (.aload_n 0, 1) := by decide +kernel
theorem dX1_copyFrom_25 : decode cX1_copyFrom 25 = .ok (.aload_n 1, 1) := by decide +kernel
theorem dX1_copyFrom_26 : decode cX1_copyFrom 26 = .ok (.getfield 20, 3) := by decide +kernel
theorem dX1_copyFrom_29 : decode cX1_copyFrom 29 = .ok (.putfield 20, 3) := by decide +kernel
theorem dX1_copyFrom_32 : decode cX1_copyFrom 32 = .ok (.aload_n 0, 1) := by decide +kernel
theorem dX1_copyFrom_33 : decode cX1_copyFrom 33 = .ok (.aload_n 1, 1) := by decide +kernel
theorem dX1_copyFrom_34 : decode cX1_copyFrom 34 = .ok (.getfield 23, 3) := by decide +kernel
theorem dX1_copyFrom_37 : decode cX1_copyFrom 37 = .ok (.putfield 23, 3) := by decide +kernel
theorem dX1_copyFrom_40 : decode cX1_copyFrom 40 = .ok (.aload_n 0, 1) := by decide +kernel
theorem dX1_copyFrom_41 : decode cX1_copyFrom 41 = .ok (.aload_n 1, 1) := by decide +kernel
theorem dX1_copyFrom_42 : decode cX1_copyFrom 42 = .ok (.getfield 26, 3) := by decide +kernel
theorem dX1_copyFrom_45 : decode cX1_copyFrom 45 = .ok (.putfield 26, 3) := by decide +kernel
theorem dX1_copyFrom_48 : decode cX1_copyFrom 48 = .ok (.return_, 1) := by decide +kernel
theorem dX1_set_0 : decode cX1_set 0 = .ok (.aload_n 0, 1) := by decide +kernel
theorem dX1_set_1 : decode cX1_set 1 = .ok (.iconst 1, 1) := by decide +kernel
theorem dX1_set_2 : decode cX1_set 2 = .ok (.putfield 7, 3) := by decide +kernel
theorem dX1_set_5 : decode cX1_set 5 = .ok (.aload_n 0, 1) := by decide +kernel
theorem dX1_set_6 : decode cX1_set 6 = .ok (.iload_n 1, 1) := by decide +kernel
theorem dX1_set_7 : decode cX1_set 7 = .ok (.putfield 13, 3) := by decide +kernel
theorem dX1_set_10 : decode cX1_set 10 = .ok (.aload_n 0, 1) := by decide +kernel
theorem dX1_set_11 : decode cX1_set 11 = .ok (.iload_n 2, 1) := by decide +kernel
theorem dX1_set_12 : decode cX1_set 12 = .ok (.putfield 17, 3) := by decide +kernel
theorem dX1_set_15 : decode cX1_set 15 = .ok (.aload_n 0, 1) := by decide +kernel
theorem dX1_set_16 : decode cX1_set 16 = .ok (.iload_n 3, 1) := by decide +kernel
theorem dX1_set_17 : decode cX1_set 17 = .ok (.putfield 20, 3) := by decide +kernel
theorem dX1_set_20 : decode cX1_set 20 = .ok (.aload_n 0, 1) := by decide +kernel
theorem dX1_set_21 : decode cX1_set 21 = .ok (.iconst 0, 1) := by decide +kernel
theorem dX1_set_22 : decode cX1_set 22 = .ok (.putfield 23, 3) := by decide +kernel
theorem dX1_set_25 : decode cX1_set 25 = .ok (.aload_n 0, 1) := by decide +kernel
theorem dX1_set_26 : decode cX1_set 26 = .ok (.iconst 0, 1) := by decide +kernel
theorem dX1_set_27 : decode cX1_set 27 = .ok (.putfield 26, 3) := by decide +kernel
theorem dX1_set_30 : decode cX1_set 30 = .ok (.return_, 1) := by decide +kernel
theorem dX1_remove_0 : decode cX1_remove 0 = .ok (.aload_n 0, 1) := by decide +kernel
theorem dX1_remove_1 : decode cX1_remove 1 = .ok (.iconst 0, 1) := by decide +kernel
theorem dX1_remove_2 : decode cX1_remove 2 = .ok (.iconst 0, 1) := by decide +kernel
theorem dX1_remove_3 : decode cX1_remove 3 = .ok (.iconst 0, 1) := by decide +kernel
theorem dX1_remove_4 : decode cX1_remove 4 = .ok (.invokevirtual 29, 3) := by decide +kernel
theorem dX1_remove_7 : decode cX1_remove 7 = .ok (.aload_n 0, 1) := by decide +kernel
theorem dX1_remove_8 : decode cX1_remove 8 = .ok (.iconst 0, 1) := by decide +kernel
theorem dX1_remove_9 : decode cX1_remove 9 = .ok (.putfield 7, 3) := by decide +kernel
theorem dX1_remove_12 : decode cX1_remove 12 = .ok (.return_, 1) := by decide +kernel
theorem dX2_init_0 : decode cX2_init 0 = .ok (.aload_n 0, 1) := by decide +kernel
theorem dX2_init_1 : decode cX2_init 1 = .ok (.invokespecial 3, 3) := by decide +kernel
theorem dX2_init_4 : decode cX2_init 4 = .ok (.aload_n 0, 1) := by decide +kernel
theorem dX2_init_5 : decode cX2_init 5 = .ok (.new 9, 3) := by decide +kernel
theorem dX2_init_8 : decode cX2_init 8 = .ok (.dup, 1) := by decide +kernel
theorem dX2_init_9 : decode cX2_init 9 = .ok (.invokespecial 11, 3) := by decide +kernel
theorem dX2_init_12 : decode cX2_init 12 = .ok (.putfield 12, 3) := by decide +kernel
theorem dX2_init_15 : decode cX2_init 15 = .ok (.aload_n 0, 1) := by decide +kernel
theorem dX2_init_16 : decode cX2_init 16 = .ok (.iconst (-1), 1) := by decide +kernel
theorem dX2_init_17 : decode cX2_init 17 = .ok (.putfield 18, 3) := by decide +kernel
theorem dX2_init_20 : decode cX2_init 20 = .ok (.return_, 1) := by decide +kernel
theorem dX2_isOn_0 : decode cX2_isOn 0 = .ok (.aload_n 0, 1) := by decide +kernel
theorem dX2_isOn_1 : decode cX2_isOn 1 = .ok (.getfield 18, 3) := by decide +kernel
theorem dX2_isOn_4 : decode cX2_isOn 4 = .ok (.ifCond .lt 7, 3) := by decide +kernel
theorem dX2_isOn_7 : decode cX2_isOn 7 = .ok (.iconst 1, 1) := by decide +kernel
theorem dX2_isOn_8 : decode cX2_isOn 8 = .ok (.goto 4, 3) := by decide +kernel
theorem dX2_isOn_11 : decode cX2_isOn 11 = .ok (.iconst 0, 1) := by decide +kernel
theorem dX2_isOn_12 : decode cX2_isOn 12 = .ok (.ireturn, 1) := by decide +kernel
theorem dX2_copyFrom_0 : decode cX2_copyFrom 0 = .ok (.aload_n 0, 1) := by decide +kernel
theorem dX2_copyFrom_1 : decode cX2_copyFrom 1 = .ok (.getfield 12, 3) := by decide +kernel
theorem dX2_copyFrom_4 : decode cX2_copyFrom 4 = .ok (.aload_n 1, 1) := by decide +kernel
theorem dX2_copyFrom_5 : decode cX2_copyFrom 5 = .ok (.getfield 12, 3) := by decide +kernel
theorem dX2_copyFrom_8 : decode cX2_copyFrom 8 = .ok (.invokevirtual 22, 3) := by decide +kernel
theorem dX2_copyFrom_11 : decode cX2_copyFrom 11 = .ok (.aload_n 0, 1) := by decide +kernel
theorem dX2_copyFrom_12 : decode cX2_copyFrom 12 = .ok (.aload_n 1, 1) := by decide +kernel
theorem dX2_copyFrom_13 : decode cX2_copyFrom 13 = .ok (.getfield 18, 3) := by decide +kernel
theorem dX2_copyFrom_16 : decode cX2_copyFrom 16 = .ok (.putfield 18, 3) := by decide +kernel
theorem dX2_copyFrom_19 : decode cX2_copyFrom 19 = .ok (.aload_n 0, 1) := by decide +kernel
theorem dX2_copyFrom_20 : decode cX2_copyFrom 20 = .ok (.aload_n 1, 1) := by decide +kernel
theorem dX2_copyFrom_21 : decode cX2_copyFrom 21 = .ok (.getfield 26, 3) := by decide +kernel
theorem dX2_copyFrom_24 : decode cX2_copyFrom 24 = .ok (.putfield 26, 3) := by decide +kernel
theorem dX2_copyFrom_27 : decode cX2_copyFrom 27 = .ok (.aload_n 0, 1) := by decide +kernel
theorem dX2_copyFrom_28 : decode cX2_copyFrom 28 = .ok (.aload_n 1, 1) := by decide +kernel
theorem dX2_copyFrom_29 : decode cX2_copyFrom 29 = .ok (.getfield 29, 3) := by decide +kernel
theorem dX2_copyFrom_32 : decode cX2_copyFrom 32 = .ok (.putfield 29, 3) := by decide +kernel
theorem dX2_copyFrom_35 : decode cX2_copyFrom 35 = .ok (.return_, 1) := by decide +kernel
theorem dX2_set_0 : decode cX2_set 0 = .ok (.aload_n 0, 1) := by decide +kernel
theorem dX2_set_1 : decode cX2_set 1 = .ok (.iload_n 1, 1) := by decide +kernel
theorem dX2_set_2 : decode cX2_set 2 = .ok (.putfield 18, 3) := by decide +kernel
theorem dX2_set_5 : decode cX2_set 5 = .ok (.aload_n 0, 1) := by decide +kernel
theorem dX2_set_6 : decode cX2_set 6 = .ok (.iload_n 2, 1) := by decide +kernel
theorem dX2_set_7 : decode cX2_set 7 = .ok (.putfield 26, 3) := by decide +kernel
theorem dX2_set_10 : decode cX2_set 10 = .ok (.aload_n 0, 1) := by decide +kernel
theorem dX2_set_11 : decode cX2_set 11 = .ok (.iconst 3, 1) := by decide +kernel
theorem dX2_set_12 : decode cX2_set 12 = .ok (.putfield 29, 3) := by decide +kernel
theorem dX2_set_15 : decode cX2_set 15 = .ok (.return_, 1) := by decide +kernel
theorem dX2_goOn_0 : decode cX2_goOn 0 = .ok (.aload_n 0, 1) := by decide +kernel
theorem dX2_goOn_1 : decode cX2_goOn 1 = .ok (.invokevirtual 32, 3) := by decide +kernel
theorem dX2_goOn_4 : decode cX2_goOn 4 = .ok (.ifCond .ne 5, 3) := by decide +kernel
theorem dX2_goOn_7 : decode cX2_goOn 7 = .ok (.iconst 0, 1) := by decide +kernel
theorem dX2_goOn_8 : decode cX2_goOn 8 = .ok (.ireturn, 1) := by decide +kernel
theorem dX2_goOn_9 : decode cX2_goOn 9 = .ok (.aload_n 0, 1) := by decide +kernel
theorem dX2_goOn_10 : decode cX2_goOn 10 = .ok (.dup, 1) := by decide +kernel
theorem dX2_goOn_11 : decode cX2_goOn 11 = .ok (.getfield 26, 3) := by decide +kernel
theorem dX2_goOn_14 : decode cX2_goOn 14 = .ok (.iconst 1, 1) := by decide +kernel
theorem dX2_goOn_15 : decode cX2_goOn 15 = .ok (.isub, 1) := by decide +kernel
theorem dX2_goOn_16 : decode cX2_goOn 16 = .ok (.putfield 26, 3) := by decide +kernel
theorem dX2_goOn_19 : decode cX2_goOn 19 = .ok (.aload_n 0, 1) := by decide +kernel
theorem dX2_goOn_20 : decode cX2_goOn 20 = .ok (.getfield 26, 3) := by decide +kernel
theorem dX2_goOn_23 : decode cX2_goOn 23 = .ok (.ifCond .gt 7, 3) := by decide +kernel
theorem dX2_goOn_26 : decode cX2_goOn 26 = .ok (.iconst 1, 1) := by decide +kernel
theorem dX2_goOn_27 : decode cX2_goOn 27 = .ok (.goto 4, 3) := by decide +kernel
theorem dX2_goOn_30 : decode cX2_goOn 30 = .ok (.iconst 0, 1) := by decide +kernel
theorem dX2_goOn_31 : decode cX2_goOn 31 = .ok (.ireturn, 1) := by decide +kernel
theorem dX2_stop_0 : decode cX2_stop 0 = .ok (.aload_n 0, 1) := by decide +kernel
theorem dX2_stop_1 : decode cX2_stop 1 = .ok (.iconst (-1), 1) := by decide +kernel
theorem dX2_stop_2 : decode cX2_stop 2 = .ok (.putfield 18, 3) := by decide +kernel
theorem dX2_stop_5 : decode cX2_stop 5 = .ok (.aload_n 0, 1) := by decide +kernel
theorem dX2_stop_6 : decode cX2_stop 6 = .ok (.iconst 0, 1) := by decide +kernel
theorem dX2_stop_7 : decode cX2_stop 7 = .ok (.putfield 26, 3) := by decide +kernel
theorem dX2_stop_10 : decode cX2_stop 10 = .ok (.aload_n 0, 1) := by decide +kernel
theorem dX2_stop_11 : decode cX2_stop 11 = .ok (.iconst 0, 1) := by decide +kernel
theorem dX2_stop_12 : decode cX2_stop 12 = .ok (.putfield 29, 3) := by decide +kernel
theorem dX2_stop_15 : decode cX2_stop 15 = .ok (.aload_n 0, 1) := by decide +kernel
theorem dX2_stop_16 : decode cX2_stop 16 = .ok (.getfield 12, 3) := by decide +kernel
theorem dX2_stop_19 : decode cX2_stop 19 = .ok (.invokevirtual 36, 3) := by decide +kernel
theorem dX2_stop_22 : decode cX2_stop 22 = .ok (.return_, 1) := by decide +kernel
theorem dX3_init_0 : decode cX3_init 0 = .ok (.aload_n 0, 1) := by decide +kernel
theorem dX3_init_1 : decode cX3_init 1 = .ok (.invokespecial 3, 3) := by decide +kernel
theorem dX3_init_4 : decode cX3_init 4 = .ok (.aload_n 0, 1) := by decide +kernel
theorem dX3_init_5 : decode cX3_init 5 = .ok (.bipush 6, 2) := by decide +kernel
theorem dX3_init_7 : decode cX3_init 7 = .ok (.anewarray 9, 3) := by decide +kernel
theorem dX3_init_10 : decode cX3_init 10 = .ok (.putfield 11, 3) := by decide +kernel
theorem dX3_init_13 : decode cX3_init 13 = .ok (.aload_n 0, 1) := by decide +kernel
theorem dX3_init_14 : decode cX3_init 14 = .ok (.new 17, 3) := by decide +kernel
theorem dX3_init_17 : decode cX3_init 17 = .ok (.dup, 1) := by decide +kernel
theorem dX3_init_18 : decode cX3_init 18 = .ok (.invokespecial 19, 3) := by decide +kernel
theorem dX3_init_21 : decode cX3_init 21 = .ok (.putfield 20, 3) := by decide +kernel
theorem dX3_init_24 : decode cX3_init 24 = .ok (.aload_n 0, 1) := by decide +kernel
theorem dX3_init_25 : decode cX3_init 25 = .ok (.new 24, 3) := by decide +kernel
theorem dX3_init_28 : decode cX3_init 28 = .ok (.dup, 1) := by decide +kernel
theorem dX3_init_29 : decode cX3_init 29 = .ok (.invokespecial 26, 3) := by decide +kernel
theorem dX3_init_32 : decode cX3_init 32 = .ok (.putfield 27, 3) := by decide +kernel
theorem dX3_init_35 : decode cX3_init 35 = .ok (.aload_n 0, 1) := by decide +kernel
theorem dX3_init_36 : decode cX3_init 36 = .ok (.new 31, 3) := by decide +kernel
theorem dX3_init_39 : decode cX3_init 39 = .ok (.dup, 1) := by decide +kernel
theorem dX3_init_40 : decode cX3_init 40 = .ok (.invokespecial 33, 3) := by decide +kernel
theorem dX3_init_43 : decode cX3_init 43 = .ok (.putfield 34, 3) := by decide +kernel
theorem dX3_init_46 : decode cX3_init 46 = .ok (.aload_n 0, 1) := by decide +kernel
theorem dX3_init_47 : decode cX3_init 47 = .ok (.iconst (-1), 1) := by decide +kernel
theorem dX3_init_48 : decode cX3_init 48 = .ok (.putfield 38, 3) := by decide +kernel
theorem dX3_init_51 : decode cX3_init 51 = .ok (.iconst 0, 1) := by decide +kernel
theorem dX3_init_52 : decode cX3_init 52 = .ok (.istore_n 1, 1) := by decide +kernel
theorem dX3_init_53 : decode cX3_init 53 = .ok (.iload_n 1, 1) := by decide +kernel
theorem dX3_init_54 : decode cX3_init 54 = .ok (.bipush 6, 2) := by decide +kernel
theorem dX3_init_56 : decode cX3_init 56 = .ok (.if_icmp .ge 23, 3) := by decide +kernel
theorem dX3_init_59 : decode cX3_init 59 = .ok (.aload_n 0, 1) := by decide +kernel
theorem dX3_init_60 : decode cX3_init 60 = .ok (.getfield 11, 3) := by decide +kernel
theorem dX3_init_63 : decode cX3_init 63 = .ok (.iload_n 1, 1) := by decide +kernel
theorem dX3_init_64 : decode cX3_init 64 = .ok (.new 9, 3) := by decide +kernel
theorem dX3_init_67 : decode cX3_init 67 = .ok (.dup, 1) := by decide +kernel
theorem dX3_init_68 : decode cX3_init 68 = .ok (.iload_n 1, 1) := by decide +kernel
theorem dX3_init_69 : decode cX3_init 69 = .ok (.invokespecial 42, 3) := by decide +kernel
theorem dX3_init_72 : decode cX3_init 72 = .ok (.aastore, 1) := by decide +kernel
theorem dX3_init_73 : decode cX3_init 73 = .ok (.iinc 1 1, 3) := by decide +kernel
theorem dX3_init_76 : decode cX3_init 76 = .ok (.goto (-23), 3) := by decide +kernel
theorem dX3_init_79 : decode cX3_init 79 = .ok (.return_, 1) := by decide +kernel
theorem dX3_copyFrom_0 : decode cX3_copyFrom 0 = .ok (.iconst 0, 1) := by decide +kernel
theorem dX3_copyFrom_1 : decode cX3_copyFrom 1 = .ok (.istore_n 2, 1) := by decide +kernel
theorem dX3_copyFrom_2 : decode cX3_copyFrom 2 = .ok (.iload_n 2, 1) := by decide +kernel
theorem dX3_copyFrom_3 : decode cX3_copyFrom 3 = .ok (.bipush 6, 2) := by decide +kernel
theorem dX3_copyFrom_5 : decode cX3_copyFrom 5 = .ok (.if_icmp .ge 24, 3) := by decide +kernel
theorem dX3_copyFrom_8 : decode cX3_copyFrom 8 = .ok (.aload_n 0, 1) := by decide +kernel
theorem dX3_copyFrom_9 : decode cX3_copyFrom 9 = .ok (.getfield 11, 3) := by decide +kernel
theorem dX3_copyFrom_12 : decode cX3_copyFrom 12 = .ok (.iload_n 2, 1) := by decide +kernel
theorem dX3_copyFrom_13 : decode cX3_copyFrom 13 = .ok (.aaload, 1) := by decide +kernel
theorem dX3_copyFrom_14 : decode cX3_copyFrom 14 = .ok (.aload_n 1, 1) := by decide +kernel
theorem dX3_copyFrom_15 : decode cX3_copyFrom 15 = .ok (.getfield 11, 3) := by decide +kernel
theorem dX3_copyFrom_18 : decode cX3_copyFrom 18 = .ok (.iload_n 2, 1) := by decide +kernel
theorem dX3_copyFrom_19 : decode cX3_copyFrom 19 = .ok (.aaload, 1) := by decide +kernel
theorem dX3_copyFrom_20 : decode cX3_copyFrom 20 = .ok (.invokevirtual 45, 3) := by decide +kernel
theorem dX3_copyFrom_23 : decode cX3_copyFrom 23 = .ok (.iinc 2 1, 3) := by decide +kernel
theorem dX3_copyFrom_26 : decode cX3_copyFrom 26 = .ok (.goto (-24), 3) := by decide +kernel
theorem dX3_copyFrom_29 : decode cX3_copyFrom 29 = .ok (.aload_n 0, 1) := by decide +kernel
theorem dX3_copyFrom_30 : decode cX3_copyFrom 30 = .ok (.getfield 20, 3) := by decide +kernel
theorem dX3_copyFrom_33 : decode cX3_copyFrom 33 = .ok (.aload_n 1, 1) := by decide +kernel
theorem dX3_copyFrom_34 : decode cX3_copyFrom 34 = .ok (.getfield 20, 3) := by decide +kernel
theorem dX3_copyFrom_37 : decode cX3_copyFrom 37 = .ok (.invokevirtual 49, 3) := by decide +kernel
theorem dX3_copyFrom_40 : decode cX3_copyFrom 40 = .ok (.aload_n 0, 1) := by decide +kernel
theorem dX3_copyFrom_41 : decode cX3_copyFrom 41 = .ok (.getfield 27, 3) := by decide +kernel
theorem dX3_copyFrom_44 : decode cX3_copyFrom 44 = .ok (.aload_n 1, 1) := by decide +kernel
theorem dX3_copyFrom_45 : decode cX3_copyFrom 45 = .ok (.getfield 27, 3) := by decide +kernel
theorem dX3_copyFrom_48 : decode cX3_copyFrom 48 = .ok (.invokevirtual 52, 3) := by decide +kernel
theorem dX3_copyFrom_51 : decode cX3_copyFrom 51 = .ok (.aload_n 0, 1) := by decide +kernel
theorem dX3_copyFrom_52 : decode cX3_copyFrom 52 = .ok (.getfield 34, 3) := by decide +kernel
theorem dX3_copyFrom_55 : decode cX3_copyFrom 55 = .ok (.aload_n 1, 1) := by decide +kernel
theorem dX3_copyFrom_56 : decode cX3_copyFrom 56 = .ok (.getfield 34, 3) := by decide +kernel
theorem dX3_copyFrom_59 : decode cX3_copyFrom 59 = .ok (.invokevirtual 55, 3) := by decide +kernel
theorem dX3_copyFrom_62 : decode cX3_copyFrom 62 = .ok (.aload_n 0, 1) := by decide +kernel
theorem dX3_copyFrom_63 : decode cX3_copyFrom 63 = .ok (.aload_n 1, 1) := by decide +kernel
theorem dX3_copyFrom_64 : decode cX3_copyFrom 64 = .ok (.getfield 58, 3) := by decide +kernel
theorem dX3_copyFrom_67 : decode cX3_copyFrom 67 = .ok (.putfield 58, 3) := by decide +kernel
theorem dX3_copyFrom_70 : decode cX3_copyFrom 70 = .ok (.aload_n 0, 1) := by decide +kernel
theorem dX3_copyFrom_71 : decode cX3_copyFrom 71 = .ok (.aload_n 1, 1) := by decide +kernel
theorem dX3_copyFrom_72 : decode cX3_copyFrom 72 = .ok (.getfield 61, 3) := by decide +kernel
theorem dX3_copyFrom_75 : decode cX3_copyFrom 75 = .ok (.putfield 61, 3) := by decide +kernel
theorem dX3_copyFrom_78 : decode cX3_copyFrom 78 = .ok (.aload_n 0, 1) := by decide +kernel
theorem dX3_copyFrom_79 : decode cX3_copyFrom 79 = .ok (.aload_n 1, 1) := by decide +kernel
theorem dX3_copyFrom_80 : decode cX3_copyFrom 80 = .ok (.getfield 64, 3) := by decide +kernel
theorem dX3_copyFrom_83 : decode cX3_copyFrom 83 = .ok (.putfield 64, 3) := by decide +kernel
theorem dX3_copyFrom_86 : decode cX3_copyFrom 86 = .ok (.aload_n 0, 1) := by decide +kernel
theorem dX3_copyFrom_87 : decode cX3_copyFrom 87 = .ok (.aload_n 1, 1) := by decide +kernel
theorem dX3_copyFrom_88 : decode cX3_copyFrom 88 = .ok (.getfield 67, 3) := by decide +kernel
theorem dX3_copyFrom_91 : decode cX3_copyFrom 91 = .ok (.putfield 67, 3) := by decide +kernel
theorem dX3_copyFrom_94 : decode cX3_copyFrom 94 = .ok (.aload_n 0, 1) := by decide +kernel
theorem dX3_copyFrom_95 : decode cX3_copyFrom 95 = .ok (.aload_n 1, 1) := by decide +kernel
theorem dX3_copyFrom_96 : decode cX3_copyFrom 96 = .ok (.getfield 70, 3) := by decide +kernel
theorem dX3_copyFrom_99 : decode cX3_copyFrom 99 = .ok (.putfield 70, 3) := by decide +kernel
theorem dX3_copyFrom_102 : decode cX3_copyFrom 102 = .ok (.aload_n 0, 1) := by decide +kernel
theorem dX3_copyFrom_103 : decode cX3_copyFrom 103 = .ok (.aload_n 1, 1) := by decide +kernel
theorem dX3_copyFrom_104 : decode cX3_copyFrom 104 = .ok (.getfield 73, 3) := by decide +kernel
theorem dX3_copyFrom_107 : decode cX3_copyFrom 107 = .ok (.putfield 73, 3) := by decide +kernel
theorem dX3_copyFrom_110 : decode cX3_copyFrom 110 = .ok (.aload_n 0, 1) := by decide +kernel
theorem dX3_copyFrom_111 : decode cX3_copyFrom 111 = .ok (.aload_n 1, 1) := by decide +kernel
theorem dX3_copyFrom_112 : decode cX3_copyFrom 112 = .ok (.getfield 76, 3) := by decide +kernel
theorem dX3_copyFrom_115 : decode cX3_copyFrom 115 = .ok (.putfield 76, 3) := by decide +kernel
theorem dX3_copyFrom_118 : decode cX3_copyFrom 118 = .ok (.aload_n 0, 1) := by decide +kernel
theorem dX3_copyFrom_119 : decode cX3_copyFrom 119 = .ok (.aload_n 1, 1) := by decide +kernel
theorem dX3_copyFrom_120 : decode cX3_copyFrom 120 = .ok (.getfield 38, 3) := by decide +kernel
theorem dX3_copyFrom_123 : decode cX3_copyFrom 123 = .ok (.putfield 38, 3) := by decide +kernel
theorem dX3_copyFrom_126 : decode cX3_copyFrom 126 = .ok (.aload_n 0, 1) := by decide +kernel
theorem dX3_copyFrom_127 : decode cX3_copyFrom 127 = .ok (.aload_n 1, 1) := by decide +kernel
theorem dX3_copyFrom_128 : decode cX3_copyFrom 128 = .ok (.getfield 80, 3) := by decide +kernel
theorem dX3_copyFrom_131 : decode cX3_copyFrom 131 = .ok (.putfield 80, 3) := by decide +kernel
theorem dX3_copyFrom_134 : decode cX3_copyFrom 134 = .ok (.return_, 1) := by decide +kernel
theorem dX3_isRunning_0 : decode cX3_isRunning 0 = .ok (.aload_n 0, 1) := by decide +kernel
theorem dX3_isRunning_1 : decode cX3_isRunning 1 = .ok (.getfield 38, 3) := by decide +kernel
theorem dX3_isRunning_4 : decode cX3_isRunning 4 = .ok (.ifCond .lt 16, 3) := by decide +kernel
theorem dX3_isRunning_7 : decode cX3_isRunning 7 = .ok (.aload_n 0, 1) := by decide +kernel
theorem dX3_isRunning_8 : decode cX3_isRunning 8 = .ok (.getfield 38, 3) := by decide +kernel
theorem dX3_isRunning_11 : decode cX3_isRunning 11 = .ok (.bipush 6, 2) := by decide +kernel
theorem dX3_isRunning_13 : decode cX3_isRunning 13 = .ok (.if_icmp .ge 7, 3) := by decide +kernel
theorem dX3_isRunning_16 : decode cX3_isRunning 16 = .ok (.iconst 1, 1) := by decide +kernel
theorem dX3_isRunning_17 : decode cX3_isRunning 17 = .ok (.goto 4, 3) := by decide +kernel
theorem dX3_isRunning_20 : decode cX3_isRunning 20 = .ok (.iconst 0, 1) := by decide +kernel
theorem dX3_isRunning_21 : decode cX3_isRunning 21 = .ok (.ireturn, 1) := by decide +kernel
theorem dX3_isInRescue_0 : decode cX3_isInRescue 0 = .ok (.aload_n 0, 1) := by decide +kernel
theorem dX3_isInRescue_1 : decode cX3_isInRescue 1 = .ok (.getfield 76, 3) := by decide +kernel
theorem dX3_isInRescue_4 : decode cX3_isInRescue 4 = .ok (.ifCond .eq 14, 3) := by decide +kernel
theorem dX3_isInRescue_7 : decode cX3_isInRescue 7 = .ok (.aload_n 0, 1) := by decide +kernel
theorem dX3_isInRescue_8 : decode cX3_isInRescue 8 = .ok (.invokevirtual 83, 3) := by decide +kernel
theorem dX3_isInRescue_11 : decode cX3_isInRescue 11 = .ok (.ifCond .ne 7, 3) := by decide +kernel
theorem dX3_isInRescue_14 : decode cX3_isInRescue 14 = .ok (.iconst 1, 1) := by decide +kernel
theorem dX3_isInRescue_15 : decode cX3_isInRescue 15 = .ok (.goto 4, 3) := by decide +kernel
theorem dX3_isInRescue_18 : decode cX3_isInRescue 18 = .ok (.iconst 0, 1) := by decide +kernel
theorem dX3_isInRescue_19 : decode cX3_isInRescue 19 = .ok (.ireturn, 1) := by decide +kernel
theorem dX3_state_0 : decode cX3_state 0 = .ok (.aload_n 0, 1) := by decide +kernel
theorem dX3_state_1 : decode cX3_state 1 = .ok (.getfield 76, 3) := by decide +kernel
theorem dX3_state_4 : decode cX3_state 4 = .ok (.ifCond .ne 5, 3) := by decide +kernel
theorem dX3_state_7 : decode cX3_state 7 = .ok (.iconst 0, 1) := by decide +kernel
theorem dX3_state_8 : decode cX3_state 8 = .ok (.ireturn, 1) := by decide +kernel
theorem dX3_state_9 : decode cX3_state 9 = .ok (.aload_n 0, 1) := by decide +kernel
theorem dX3_state_10 : decode cX3_state 10 = .ok (.invokevirtual 83, 3) := by decide +kernel
theorem dX3_state_13 : decode cX3_state 13 = .ok (.ifCond .eq 7, 3) := by decide +kernel
theorem dX3_state_16 : decode cX3_state 16 = .ok (.iconst 1, 1) := by decide +kernel
theorem dX3_state_17 : decode cX3_state 17 = .ok (.goto 4, 3) := by decide +kernel
theorem dX3_state_20 : decode cX3_state 20 = .ok (.iconst 2, 1) := by decide +kernel
theorem dX3_state_21 : decode cX3_state 21 = .ok (.ireturn, 1) := by decide +kernel
theorem dX3_isBootable_0 : decode cX3_isBootable 0 = .ok (.aload_n 1, 1) := by decide +kernel
theorem dX3_isBootable_1 : decode cX3_isBootable 1 = .ok (.aload_n 0, 1) := by decide +kernel
theorem dX3_isBootable_2 : decode cX3_isBootable 2 = .ok (.getfield 70, 3) := by decide +kernel
theorem dX3_isBootable_5 : decode cX3_isBootable 5 = .ok (.invokevirtual 96, 3) := by decide +kernel
theorem dX3_isBootable_8 : decode cX3_isBootable 8 = .ok (.ireturn, 1) := by decide +kernel
theorem dX3_obstacle_0 : decode cX3_obstacle 0 = .ok (.aload_n 1, 1) := by decide +kernel
theorem dX3_obstacle_1 : decode cX3_obstacle 1 = .ok (.getfield 87, 3) := by decide +kernel
theorem dX3_obstacle_4 : decode cX3_obstacle 4 = .ok (.getfield 100, 3) := by decide +kernel
theorem dX3_obstacle_7 : decode cX3_obstacle 7 = .ok (.ifCond .ne 5, 3) := by decide +kernel
theorem dX3_obstacle_10 : decode cX3_obstacle 10 = .ok (.iconst 1, 1) := by decide +kernel
theorem dX3_obstacle_11 : decode cX3_obstacle 11 = .ok (.ireturn, 1) := by decide +kernel
theorem dX3_obstacle_12 : decode cX3_obstacle 12 = .ok (.aload_n 1, 1) := by decide +kernel
theorem dX3_obstacle_13 : decode cX3_obstacle 13 = .ok (.getfield 87, 3) := by decide +kernel
theorem dX3_obstacle_16 : decode cX3_obstacle 16 = .ok (.getfield 103, 3) := by decide +kernel
theorem dX3_obstacle_19 : decode cX3_obstacle 19 = .ok (.ifCond .eq 5, 3) := by decide +kernel
theorem dX3_obstacle_22 : decode cX3_obstacle 22 = .ok (.iconst 2, 1) := by decide +kernel
theorem dX3_obstacle_23 : decode cX3_obstacle 23 = .ok (.ireturn, 1) := by decide +kernel
theorem dX3_obstacle_24 : decode cX3_obstacle 24 = .ok (.aload_n 1, 1) := by decide +kernel
theorem dX3_obstacle_25 : decode cX3_obstacle 25 = .ok (.getfield 87, 3) := by decide +kernel
theorem dX3_obstacle_28 : decode cX3_obstacle 28 = .ok (.getfield 91, 3) := by decide +kernel
theorem dX3_obstacle_31 : decode cX3_obstacle 31 = .ok (.aload_n 0, 1) := by decide +kernel
theorem dX3_obstacle_32 : decode cX3_obstacle 32 = .ok (.getfield 70, 3) := by decide +kernel
theorem dX3_obstacle_35 : decode cX3_obstacle 35 = .ok (.if_icmp .ge 5, 3) := by decide +kernel
theorem dX3_obstacle_38 : decode cX3_obstacle 38 = .ok (.iconst 3, 1) := by decide +kernel
theorem dX3_obstacle_39 : decode cX3_obstacle 39 = .ok (.ireturn, 1) := by decide +kernel
theorem dX3_obstacle_40 : decode cX3_obstacle 40 = .ok (.aload_n 1, 1) := by decide +kernel
theorem dX3_obstacle_41 : decode cX3_obstacle 41 = .ok (.getfield 106, 3) := by decide +kernel
theorem dX3_obstacle_44 : decode cX3_obstacle 44 = .ok (.ifCond .ne 5, 3) := by decide +kernel
theorem dX3_obstacle_47 : decode cX3_obstacle 47 = .ok (.iconst 4, 1) := by decide +kernel
theorem dX3_obstacle_48 : decode cX3_obstacle 48 = .ok (.ireturn, 1) := by decide +kernel
theorem dX3_obstacle_49 : decode cX3_obstacle 49 = .ok (.aload_n 1, 1) := by decide +kernel
theorem dX3_obstacle_50 : decode cX3_obstacle 50 = .ok (.getfield 109, 3) := by decide +kernel
theorem dX3_obstacle_53 : decode cX3_obstacle 53 = .ok (.ifCond .ne 10, 3) := by decide +kernel
theorem dX3_obstacle_56 : decode cX3_obstacle 56 = .ok (.aload_n 1, 1) := by decide +kernel
theorem dX3_obstacle_57 : decode cX3_obstacle 57 = .ok (.getfield 112, 3) := by decide +kernel
theorem dX3_obstacle_60 : decode cX3_obstacle 60 = .ok (.ifCond .le 7, 3) := by decide +kernel
theorem dX3_obstacle_63 : decode cX3_obstacle 63 = .ok (.iconst 0, 1) := by decide +kernel
theorem dX3_obstacle_64 : decode cX3_obstacle 64 = .ok (.goto 4, 3) := by decide +kernel
theorem dX3_obstacle_67 : decode cX3_obstacle 67 = .ok (.iconst 5, 1) := by decide +kernel
theorem dX3_obstacle_68 : decode cX3_obstacle 68 = .ok (.ireturn, 1) := by decide +kernel
theorem dX3_bootableSlots_0 : decode cX3_bootableSlots 0 = .ok (.iconst 0, 1) := by decide +kernel
theorem dX3_bootableSlots_1 : decode cX3_bootableSlots 1 = .ok (.istore_n 1, 1) := by decide +kernel
theorem dX3_bootableSlots_2 : decode cX3_bootableSlots 2 = .ok (.iconst 0, 1) := by decide +kernel
theorem dX3_bootableSlots_3 : decode cX3_bootableSlots 3 = .ok (.istore_n 2, 1) := by decide +kernel
theorem dX3_bootableSlots_4 : decode cX3_bootableSlots 4 = .ok (.iload_n 2, 1) := by decide +kernel
theorem dX3_bootableSlots_5 : decode cX3_bootableSlots 5 = .ok (.bipush 6, 2) := by decide +kernel
theorem dX3_bootableSlots_7 : decode cX3_bootableSlots 7 = .ok (.if_icmp .ge 25, 3) := by decide +kernel
theorem dX3_bootableSlots_10 : decode cX3_bootableSlots 10 = .ok (.aload_n 0, 1) := by decide +kernel
theorem dX3_bootableSlots_11 : decode cX3_bootableSlots 11 = .ok (.aload_n 0, 1) := by decide +kernel
theorem dX3_bootableSlots_12 : decode cX3_bootableSlots 12 = .ok (.getfield 11, 3) := by decide +kernel
theorem dX3_bootableSlots_15 : decode cX3_bootableSlots 15 = .ok (.iload_n 2, 1) := by decide +kernel
theorem dX3_bootableSlots_16 : decode cX3_bootableSlots 16 = .ok (.aaload, 1) := by decide +kernel
theorem dX3_bootableSlots_17 : decode cX3_bootableSlots 17 = .ok (.invokevirtual 115, 3) := by decide +kernel
theorem dX3_bootableSlots_20 : decode cX3_bootableSlots 20 = .ok (.ifCond .eq 6, 3) := by decide +kernel
theorem dX3_bootableSlots_23 : decode cX3_bootableSlots 23 = .ok (.iinc 1 1, 3) := by decide +kernel
theorem dX3_bootableSlots_26 : decode cX3_bootableSlots 26 = .ok (.iinc 2 1, 3) := by decide +kernel
theorem dX3_bootableSlots_29 : decode cX3_bootableSlots 29 = .ok (.goto (-25), 3) := by decide +kernel
theorem dX3_bootableSlots_32 : decode cX3_bootableSlots 32 = .ok (.iload_n 1, 1) := by decide +kernel
theorem dX3_bootableSlots_33 : decode cX3_bootableSlots 33 = .ok (.ireturn, 1) := by decide +kernel
theorem dX3_goodSlots_0 : decode cX3_goodSlots 0 = .ok (.iconst 0, 1) := by decide +kernel
theorem dX3_goodSlots_1 : decode cX3_goodSlots 1 = .ok (.istore_n 1, 1) := by decide +kernel
theorem dX3_goodSlots_2 : decode cX3_goodSlots 2 = .ok (.iconst 0, 1) := by decide +kernel
theorem dX3_goodSlots_3 : decode cX3_goodSlots 3 = .ok (.istore_n 2, 1) := by decide +kernel
theorem dX3_goodSlots_4 : decode cX3_goodSlots 4 = .ok (.iload_n 2, 1) := by decide +kernel
theorem dX3_goodSlots_5 : decode cX3_goodSlots 5 = .ok (.bipush 6, 2) := by decide +kernel
theorem dX3_goodSlots_7 : decode cX3_goodSlots 7 = .ok (.if_icmp .ge 24, 3) := by decide +kernel
theorem dX3_goodSlots_10 : decode cX3_goodSlots 10 = .ok (.aload_n 0, 1) := by decide +kernel
theorem dX3_goodSlots_11 : decode cX3_goodSlots 11 = .ok (.getfield 11, 3) := by decide +kernel
theorem dX3_goodSlots_14 : decode cX3_goodSlots 14 = .ok (.iload_n 2, 1) := by decide +kernel
theorem dX3_goodSlots_15 : decode cX3_goodSlots 15 = .ok (.aaload, 1) := by decide +kernel
theorem dX3_goodSlots_16 : decode cX3_goodSlots 16 = .ok (.getfield 109, 3) := by decide +kernel
theorem dX3_goodSlots_19 : decode cX3_goodSlots 19 = .ok (.ifCond .eq 6, 3) := by decide +kernel
theorem dX3_goodSlots_22 : decode cX3_goodSlots 22 = .ok (.iinc 1 1, 3) := by decide +kernel
theorem dX3_goodSlots_25 : decode cX3_goodSlots 25 = .ok (.iinc 2 1, 3) := by decide +kernel
theorem dX3_goodSlots_28 : decode cX3_goodSlots 28 = .ok (.goto (-24), 3) := by decide +kernel
theorem dX3_goodSlots_31 : decode cX3_goodSlots 31 = .ok (.iload_n 1, 1) := by decide +kernel
theorem dX3_goodSlots_32 : decode cX3_goodSlots 32 = .ok (.ireturn, 1) := by decide +kernel
theorem dX3_allTries_0 : decode cX3_allTries 0 = .ok (.iconst 0, 1) := by decide +kernel
theorem dX3_allTries_1 : decode cX3_allTries 1 = .ok (.istore_n 1, 1) := by decide +kernel
theorem dX3_allTries_2 : decode cX3_allTries 2 = .ok (.iconst 0, 1) := by decide +kernel
theorem dX3_allTries_3 : decode cX3_allTries 3 = .ok (.istore_n 2, 1) := by decide +kernel
theorem dX3_allTries_4 : decode cX3_allTries 4 = .ok (.iload_n 2, 1) := by decide +kernel
theorem dX3_allTries_5 : decode cX3_allTries 5 = .ok (.bipush 6, 2) := by decide +kernel
theorem dX3_allTries_7 : decode cX3_allTries 7 = .ok (.if_icmp .ge 21, 3) := by decide +kernel
theorem dX3_allTries_10 : decode cX3_allTries 10 = .ok (.iload_n 1, 1) := by decide +kernel
theorem dX3_allTries_11 : decode cX3_allTries 11 = .ok (.aload_n 0, 1) := by decide +kernel
theorem dX3_allTries_12 : decode cX3_allTries 12 = .ok (.getfield 11, 3) := by decide +kernel
theorem dX3_allTries_15 : decode cX3_allTries 15 = .ok (.iload_n 2, 1) := by decide +kernel
theorem dX3_allTries_16 : decode cX3_allTries 16 = .ok (.aaload, 1) := by decide +kernel
theorem dX3_allTries_17 : decode cX3_allTries 17 = .ok (.getfield 112, 3) := by decide +kernel
theorem dX3_allTries_20 : decode cX3_allTries 20 = .ok (.iadd, 1) := by decide +kernel
theorem dX3_allTries_21 : decode cX3_allTries 21 = .ok (.istore_n 1, 1) := by decide +kernel
theorem dX3_allTries_22 : decode cX3_allTries 22 = .ok (.iinc 2 1, 3) := by decide +kernel
theorem dX3_allTries_25 : decode cX3_allTries 25 = .ok (.goto (-21), 3) := by decide +kernel
theorem dX3_allTries_28 : decode cX3_allTries 28 = .ok (.iload_n 1, 1) := by decide +kernel
theorem dX3_allTries_29 : decode cX3_allTries 29 = .ok (.ireturn, 1) := by decide +kernel
theorem dX3_firstBut_0 : decode cX3_firstBut 0 = .ok (.iconst (-1), 1) := by decide +kernel
theorem dX3_firstBut_1 : decode cX3_firstBut 1 = .ok (.istore_n 2, 1) := by decide +kernel
theorem dX3_firstBut_2 : decode cX3_firstBut 2 = .ok (.iconst 0, 1) := by decide +kernel
theorem dX3_firstBut_3 : decode cX3_firstBut 3 = .ok (.istore_n 3, 1) := by decide +kernel
theorem dX3_firstBut_4 : decode cX3_firstBut 4 = .ok (.iload_n 3, 1) := by decide +kernel
theorem dX3_firstBut_5 : decode cX3_firstBut 5 = .ok (.bipush 6, 2) := by decide +kernel
theorem dX3_firstBut_7 : decode cX3_firstBut 7 = .ok (.if_icmp .ge 66, 3) := by decide +kernel
theorem dX3_firstBut_10 : decode cX3_firstBut 10 = .ok (.iload_n 3, 1) := by decide +kernel
theorem dX3_firstBut_11 : decode cX3_firstBut 11 = .ok (.iload_n 1, 1) := by decide +kernel
theorem dX3_firstBut_12 : decode cX3_firstBut 12 = .ok (.if_icmp .eq 23, 3) := by decide +kernel
theorem dX3_firstBut_15 : decode cX3_firstBut 15 = .ok (.aload_n 0, 1) := by decide +kernel
theorem dX3_firstBut_16 : decode cX3_firstBut 16 = .ok (.getfield 11, 3) := by decide +kernel
theorem dX3_firstBut_19 : decode cX3_firstBut 19 = .ok (.iload_n 3, 1) := by decide +kernel
theorem dX3_firstBut_20 : decode cX3_firstBut 20 = .ok (.aaload, 1) := by decide +kernel
theorem dX3_firstBut_21 : decode cX3_firstBut 21 = .ok (.aload_n 0, 1) := by decide +kernel
theorem dX3_firstBut_22 : decode cX3_firstBut 22 = .ok (.getfield 70, 3) := by decide +kernel
theorem dX3_firstBut_25 : decode cX3_firstBut 25 = .ok (.invokevirtual 96, 3) := by decide +kernel
theorem dX3_firstBut_28 : decode cX3_firstBut 28 = .ok (.ifCond .eq 7, 3) := by decide +kernel
theorem dX3_firstBut_31 : decode cX3_firstBut 31 = .ok (.iconst 1, 1) := by decide +kernel
theorem dX3_firstBut_32 : decode cX3_firstBut 32 = .ok (.goto 4, 3) := by decide +kernel
theorem dX3_firstBut_35 : decode cX3_firstBut 35 = .ok (.iconst 0, 1) := by decide +kernel
theorem dX3_firstBut_36 : decode cX3_firstBut 36 = .ok (.istore 4, 2) := by decide +kernel
theorem dX3_firstBut_38 : decode cX3_firstBut 38 = .ok (.iload 4, 2) := by decide +kernel
theorem dX3_firstBut_40 : decode cX3_firstBut 40 = .ok (.ifCond .eq 27, 3) := by decide +kernel
theorem dX3_firstBut_43 : decode cX3_firstBut 43 = .ok (.iload_n 2, 1) := by decide +kernel
theorem dX3_firstBut_44 : decode cX3_firstBut 44 = .ok (.ifCond .lt 21, 3) := by decide +kernel
theorem dX3_firstBut_47 : decode cX3_firstBut 47 = .ok (.aload_n 0, 1) := by decide +kernel
theorem dX3_firstBut_48 : decode cX3_firstBut 48 = .ok (.getfield 11, 3) := by decide +kernel
theorem dX3_firstBut_51 : decode cX3_firstBut 51 = .ok (.iload_n 3, 1) := by decide +kernel
theorem dX3_firstBut_52 : decode cX3_firstBut 52 = .ok (.aaload, 1) := by decide +kernel
theorem dX3_firstBut_53 : decode cX3_firstBut 53 = .ok (.aload_n 0, 1) := by decide +kernel
theorem dX3_firstBut_54 : decode cX3_firstBut 54 = .ok (.getfield 11, 3) := by decide +kernel
theorem dX3_firstBut_57 : decode cX3_firstBut 57 = .ok (.iload_n 2, 1) := by decide +kernel
theorem dX3_firstBut_58 : decode cX3_firstBut 58 = .ok (.aaload, 1) := by decide +kernel
theorem dX3_firstBut_59 : decode cX3_firstBut 59 = .ok (.invokevirtual 119, 3) := by decide +kernel
theorem dX3_firstBut_62 : decode cX3_firstBut 62 = .ok (.ifCond .eq 5, 3) := by decide +kernel
theorem dX3_firstBut_65 : decode cX3_firstBut 65 = .ok (.iload_n 3, 1) := by decide +kernel
theorem dX3_firstBut_66 : decode cX3_firstBut 66 = .ok (.istore_n 2, 1) := by decide +kernel
theorem dX3_firstBut_67 : decode cX3_firstBut 67 = .ok (.iinc 3 1, 3) := by decide +kernel
theorem dX3_firstBut_70 : decode cX3_firstBut 70 = .ok (.goto (-66), 3) := by decide +kernel
theorem dX3_firstBut_73 : decode cX3_firstBut 73 = .ok (.iload_n 2, 1) := by decide +kernel
theorem dX3_firstBut_74 : decode cX3_firstBut 74 = .ok (.ireturn, 1) := by decide +kernel
theorem dX3_floorByGoodAnd_0 : decode cX3_floorByGoodAnd 0 = .ok (.bipush 99, 2) := by decide +kernel
theorem dX3_floorByGoodAnd_2 : decode cX3_floorByGoodAnd 2 = .ok (.istore_n 2, 1) := by decide +kernel
theorem dX3_floorByGoodAnd_3 : decode cX3_floorByGoodAnd 3 = .ok (.iconst 0, 1) := by decide +kernel
theorem dX3_floorByGoodAnd_4 : decode cX3_floorByGoodAnd 4 = .ok (.istore_n 3, 1) := by decide +kernel
theorem dX3_floorByGoodAnd_5 : decode cX3_floorByGoodAnd 5 = .ok (.iconst 0, 1) := by decide +kernel
theorem dX3_floorByGoodAnd_6 : decode cX3_floorByGoodAnd 6 = .ok (.istore 4, 2) := by decide +kernel
theorem dX3_floorByGoodAnd_8 : decode cX3_floorByGoodAnd 8 = .ok (.iload 4, 2) := by decide +kernel
theorem dX3_floorByGoodAnd_10 : decode cX3_floorByGoodAnd 10 = .ok (.bipush 6, 2) := by decide +kernel
theorem dX3_floorByGoodAnd_12 : decode cX3_floorByGoodAnd 12 = .ok (.if_icmp .ge 48, 3) := by decide +kernel
theorem dX3_floorByGoodAnd_15 : decode cX3_floorByGoodAnd 15 = .ok (.aload_n 0, 1) := by decide +kernel
theorem dX3_floorByGoodAnd_16 : decode cX3_floorByGoodAnd 16 = .ok (.getfield 11, 3) := by decide +kernel
theorem dX3_floorByGoodAnd_19 : decode cX3_floorByGoodAnd 19 = .ok (.iload 4, 2) := by decide +kernel
theorem dX3_floorByGoodAnd_21 : decode cX3_floorByGoodAnd 21 = .ok (.aaload, 1) := by decide +kernel
theorem dX3_floorByGoodAnd_22 : decode cX3_floorByGoodAnd 22 = .ok (.getfield 109, 3) := by decide +kernel
theorem dX3_floorByGoodAnd_25 : decode cX3_floorByGoodAnd 25 = .ok (.ifCond .ne 9, 3) := by decide +kernel
theorem dX3_floorByGoodAnd_28 : decode cX3_floorByGoodAnd 28 = .ok (.iload 4, 2) := by decide +kernel
theorem dX3_floorByGoodAnd_30 : decode cX3_floorByGoodAnd 30 = .ok (.iload_n 1, 1) := by decide +kernel
theorem dX3_floorByGoodAnd_31 : decode cX3_floorByGoodAnd 31 = .ok (.if_icmp .ne 23, 3) := by decide +kernel
theorem dX3_floorByGoodAnd_34 : decode cX3_floorByGoodAnd 34 = .ok (.iconst 1, 1) := by decide +kernel
theorem dX3_floorByGoodAnd_35 : decode cX3_floorByGoodAnd 35 = .ok (.istore_n 3, 1) := by decide +kernel
theorem dX3_floorByGoodAnd_36 : decode cX3_floorByGoodAnd 36 = .ok (.iload_n 2, 1) := by decide +kernel
theorem dX3_floorByGoodAnd_37 : decode cX3_floorByGoodAnd 37 = .ok (.aload_n 0, 1) := by decide +kernel
theorem dX3_floorByGoodAnd_38 : decode cX3_floorByGoodAnd 38 = .ok (.getfield 11, 3) := by decide +kernel
theorem dX3_floorByGoodAnd_41 : decode cX3_floorByGoodAnd 41 = .ok (.iload 4, 2) := by decide +kernel
theorem dX3_floorByGoodAnd_43 : decode cX3_floorByGoodAnd 43 = .ok (.aaload, 1) := by decide +kernel
theorem dX3_floorByGoodAnd_44 : decode cX3_floorByGoodAnd 44 = .ok (.getfield 87, 3) := by decide +kernel
theorem dX3_floorByGoodAnd_47 : decode cX3_floorByGoodAnd 47 = .ok (.getfield 91, 3) := by decide +kernel
theorem dX3_floorByGoodAnd_50 : decode cX3_floorByGoodAnd 50 = .ok (.invokestatic 122, 3) := by decide +kernel
theorem dX3_floorByGoodAnd_53 : decode cX3_floorByGoodAnd 53 = .ok (.istore_n 2, 1) := by decide +kernel
theorem dX3_floorByGoodAnd_54 : decode cX3_floorByGoodAnd 54 = .ok (.iinc 4 1, 3) := by decide +kernel
theorem dX3_floorByGoodAnd_57 : decode cX3_floorByGoodAnd 57 = .ok (.goto (-49), 3) := by decide +kernel
theorem dX3_floorByGoodAnd_60 : decode cX3_floorByGoodAnd 60 = .ok (.iload_n 3, 1) := by decide +kernel
theorem dX3_floorByGoodAnd_61 : decode cX3_floorByGoodAnd 61 = .ok (.ifCond .eq 14, 3) := by decide +kernel
theorem dX3_floorByGoodAnd_64 : decode cX3_floorByGoodAnd 64 = .ok (.aload_n 0, 1) := by decide +kernel
theorem dX3_floorByGoodAnd_65 : decode cX3_floorByGoodAnd 65 = .ok (.getfield 70, 3) := by decide +kernel
theorem dX3_floorByGoodAnd_68 : decode cX3_floorByGoodAnd 68 = .ok (.iload_n 2, 1) := by decide +kernel
theorem dX3_floorByGoodAnd_69 : decode cX3_floorByGoodAnd 69 = .ok (.invokestatic 128, 3) := by decide +kernel
theorem dX3_floorByGoodAnd_72 : decode cX3_floorByGoodAnd 72 = .ok (.goto 7, 3) := by decide +kernel
theorem dX3_floorByGoodAnd_75 : decode cX3_floorByGoodAnd 75 = .ok (.aload_n 0, 1) := by decide +kernel
theorem dX3_floorByGoodAnd_76 : decode cX3_floorByGoodAnd 76 = .ok (.getfield 70, 3) := by decide +kernel
theorem dX3_floorByGoodAnd_79 : decode cX3_floorByGoodAnd 79 = .ok (.ireturn, 1) := by decide +kernel
theorem dX3_bootBy_0 : decode cX3_bootBy 0 = .ok (.iconst 0, 1) := by decide +kernel
theorem dX3_bootBy_1 : decode cX3_bootBy 1 = .ok (.istore_n 2, 1) := by decide +kernel
theorem dX3_bootBy_2 : decode cX3_bootBy 2 = .ok (.aload_n 0, 1) := by decide +kernel
theorem dX3_bootBy_3 : decode cX3_bootBy 3 = .ok (.iconst 1, 1) := by decide +kernel
theorem dX3_bootBy_4 : decode cX3_bootBy 4 = .ok (.putfield 76, 3) := by decide +kernel
theorem dX3_bootBy_7 : decode cX3_bootBy 7 = .ok (.aload_n 0, 1) := by decide +kernel
theorem dX3_bootBy_8 : decode cX3_bootBy 8 = .ok (.iconst (-1), 1) := by decide +kernel
theorem dX3_bootBy_9 : decode cX3_bootBy 9 = .ok (.putfield 38, 3) := by decide +kernel
theorem dX3_bootBy_12 : decode cX3_bootBy 12 = .ok (.aload_n 0, 1) := by decide +kernel
theorem dX3_bootBy_13 : decode cX3_bootBy 13 = .ok (.iconst 0, 1) := by decide +kernel
theorem dX3_bootBy_14 : decode cX3_bootBy 14 = .ok (.putfield 80, 3) := by decide +kernel
theorem dX3_bootBy_17 : decode cX3_bootBy 17 = .ok (.iconst 0, 1) := by decide +kernel
theorem dX3_bootBy_18 : decode cX3_bootBy 18 = .ok (.istore_n 3, 1) := by decide +kernel
theorem dX3_bootBy_19 : decode cX3_bootBy 19 = .ok (.iload_n 3, 1) := by decide +kernel
theorem dX3_bootBy_20 : decode cX3_bootBy 20 = .ok (.bipush 6, 2) := by decide +kernel
theorem dX3_bootBy_22 : decode cX3_bootBy 22 = .ok (.if_icmp .ge 69, 3) := by decide +kernel
theorem dX3_bootBy_25 : decode cX3_bootBy 25 = .ok (.aload_n 0, 1) := by decide +kernel
theorem dX3_bootBy_26 : decode cX3_bootBy 26 = .ok (.getfield 38, 3) := by decide +kernel
theorem dX3_bootBy_29 : decode cX3_bootBy 29 = .ok (.iconst (-1), 1) := by decide +kernel
theorem dX3_bootBy_30 : decode cX3_bootBy 30 = .ok (.if_icmp .ne 61, 3) := by decide +kernel
theorem dX3_bootBy_33 : decode cX3_bootBy 33 = .ok (.aload_n 0, 1) := by decide +kernel
theorem dX3_bootBy_34 : decode cX3_bootBy 34 = .ok (.iconst (-1), 1) := by decide +kernel
theorem dX3_bootBy_35 : decode cX3_bootBy 35 = .ok (.invokevirtual 131, 3) := by decide +kernel
theorem dX3_bootBy_38 : decode cX3_bootBy 38 = .ok (.istore 4, 2) := by decide +kernel
theorem dX3_bootBy_40 : decode cX3_bootBy 40 = .ok (.iload 4, 2) := by decide +kernel
theorem dX3_bootBy_42 : decode cX3_bootBy 42 = .ok (.ifCond .lt 49, 3) := by decide +kernel
theorem dX3_bootBy_45 : decode cX3_bootBy 45 = .ok (.iload 4, 2) := by decide +kernel
theorem dX3_bootBy_47 : decode cX3_bootBy 47 = .ok (.bipush 6, 2) := by decide +kernel
theorem dX3_bootBy_49 : decode cX3_bootBy 49 = .ok (.if_icmp .lt 6, 3) := by decide +kernel
theorem dX3_bootBy_52 : decode cX3_bootBy 52 = .ok (.goto 39, 3) := by decide +kernel
theorem dX3_bootBy_55 : decode cX3_bootBy 55 = .ok (.aload_n 0, 1) := by decide +kernel
theorem dX3_bootBy_56 : decode cX3_bootBy 56 = .ok (.aload_n 0, 1) := by decide +kernel
theorem dX3_bootBy_57 : decode cX3_bootBy 57 = .ok (.getfield 11, 3) := by decide +kernel
theorem dX3_bootBy_60 : decode cX3_bootBy 60 = .ok (.iload 4, 2) := by decide +kernel
theorem dX3_bootBy_62 : decode cX3_bootBy 62 = .ok (.aaload, 1) := by decide +kernel
theorem dX3_bootBy_63 : decode cX3_bootBy 63 = .ok (.invokevirtual 135, 3) := by decide +kernel
theorem dX3_bootBy_66 : decode cX3_bootBy 66 = .ok (.ifCond .eq 12, 3) := by decide +kernel
theorem dX3_bootBy_69 : decode cX3_bootBy 69 = .ok (.aload_n 0, 1) := by decide +kernel
theorem dX3_bootBy_70 : decode cX3_bootBy 70 = .ok (.iload 4, 2) := by decide +kernel
theorem dX3_bootBy_72 : decode cX3_bootBy 72 = .ok (.putfield 38, 3) := by decide +kernel
theorem dX3_bootBy_75 : decode cX3_bootBy 75 = .ok (.goto 10, 3) := by decide +kernel
theorem dX3_bootBy_78 : decode cX3_bootBy 78 = .ok (.iload_n 2, 1) := by decide +kernel
theorem dX3_bootBy_79 : decode cX3_bootBy 79 = .ok (.iconst 1, 1) := by decide +kernel
theorem dX3_bootBy_80 : decode cX3_bootBy 80 = .ok (.iload 4, 2) := by decide +kernel
theorem dX3_bootBy_82 : decode cX3_bootBy 82 = .ok (.ishl, 1) := by decide +kernel
theorem dX3_bootBy_83 : decode cX3_bootBy 83 = .ok (.ior, 1) := by decide +kernel
theorem dX3_bootBy_84 : decode cX3_bootBy 84 = .ok (.istore_n 2, 1) := by decide +kernel
theorem dX3_bootBy_85 : decode cX3_bootBy 85 = .ok (.iinc 3 1, 3) := by decide +kernel
theorem dX3_bootBy_88 : decode cX3_bootBy 88 = .ok (.goto (-69), 3) := by decide +kernel
theorem dX3_bootBy_91 : decode cX3_bootBy 91 = .ok (.aload_n 0, 1) := by decide +kernel
theorem dX3_bootBy_92 : decode cX3_bootBy 92 = .ok (.getfield 27, 3) := by decide +kernel
theorem dX3_bootBy_95 : decode cX3_bootBy 95 = .ok (.aload_n 0, 1) := by decide +kernel
theorem dX3_bootBy_96 : decode cX3_bootBy 96 = .ok (.getfield 73, 3) := by decide +kernel
theorem dX3_bootBy_99 : decode cX3_bootBy 99 = .ok (.iload_n 1, 1) := by decide +kernel
theorem dX3_bootBy_100 : decode cX3_bootBy 100 = .ok (.iload_n 2, 1) := by decide +kernel
theorem dX3_bootBy_101 : decode cX3_bootBy 101 = .ok (.aload_n 0, 1) := by decide +kernel
theorem dX3_bootBy_102 : decode cX3_bootBy 102 = .ok (.getfield 38, 3) := by decide +kernel
theorem dX3_bootBy_105 : decode cX3_bootBy 105 = .ok (.invokevirtual 138, 3) := by decide +kernel
theorem dX3_bootBy_108 : decode cX3_bootBy 108 = .ok (.iload_n 2, 1) := by decide +kernel
theorem dX3_bootBy_109 : decode cX3_bootBy 109 = .ok (.ireturn, 1) := by decide +kernel
theorem dX3_tryToRun_0 : decode cX3_tryToRun 0 = .ok (.aload_n 1, 1) := by decide +kernel
theorem dX3_tryToRun_1 : decode cX3_tryToRun 1 = .ok (.getfield 109, 3) := by decide +kernel
theorem dX3_tryToRun_4 : decode cX3_tryToRun 4 = .ok (.ifCond .ne 36, 3) := by decide +kernel
theorem dX3_tryToRun_7 : decode cX3_tryToRun 7 = .ok (.aload_n 1, 1) := by decide +kernel
theorem dX3_tryToRun_8 : decode cX3_tryToRun 8 = .ok (.dup, 1) := by decide +kernel
theorem dX3_tryToRun_9 : decode cX3_tryToRun 9 = .ok (.getfield 112, 3) := by decide +kernel
theorem dX3_tryToRun_12 : decode cX3_tryToRun 12 = .ok (.iconst 1, 1) := by decide +kernel
theorem dX3_tryToRun_13 : decode cX3_tryToRun 13 = .ok (.isub, 1) := by decide +kernel
theorem dX3_tryToRun_14 : decode cX3_tryToRun 14 = .ok (.putfield 112, 3) := by decide +kernel
theorem dX3_tryToRun_17 : decode cX3_tryToRun 17 = .ok (.aload_n 1, 1) := by decide +kernel
theorem dX3_tryToRun_18 : decode cX3_tryToRun 18 = .ok (.dup, 1) := by decide +kernel
theorem dX3_tryToRun_19 : decode cX3_tryToRun 19 = .ok (.getfield 142, 3) := by decide +kernel
theorem dX3_tryToRun_22 : decode cX3_tryToRun 22 = .ok (.iconst 1, 1) := by decide +kernel
theorem dX3_tryToRun_23 : decode cX3_tryToRun 23 = .ok (.iadd, 1) := by decide +kernel
theorem dX3_tryToRun_24 : decode cX3_tryToRun 24 = .ok (.putfield 142, 3) := by decide +kernel
theorem dX3_tryToRun_27 : decode cX3_tryToRun 27 = .ok (.aload_n 0, 1) := by decide +kernel
theorem dX3_tryToRun_28 : decode cX3_tryToRun 28 = .ok (.getfield 34, 3) := by decide +kernel
theorem dX3_tryToRun_31 : decode cX3_tryToRun 31 = .ok (.dup, 1) := by decide +kernel
theorem dX3_tryToRun_32 : decode cX3_tryToRun 32 = .ok (.getfield 145, 3) := by decide +kernel
theorem dX3_tryToRun_35 : decode cX3_tryToRun 35 = .ok (.iconst 1, 1) := by decide +kernel
theorem dX3_tryToRun_36 : decode cX3_tryToRun 36 = .ok (.iadd, 1) := by decide +kernel
theorem dX3_tryToRun_37 : decode cX3_tryToRun 37 = .ok (.putfield 145, 3) := by decide +kernel
theorem dX3_tryToRun_40 : decode cX3_tryToRun 40 = .ok (.aload_n 1, 1) := by decide +kernel
theorem dX3_tryToRun_41 : decode cX3_tryToRun 41 = .ok (.getfield 87, 3) := by decide +kernel
theorem dX3_tryToRun_44 : decode cX3_tryToRun 44 = .ok (.getfield 146, 3) := by decide +kernel
theorem dX3_tryToRun_47 : decode cX3_tryToRun 47 = .ok (.ifCond .eq 22, 3) := by decide +kernel
theorem dX3_tryToRun_50 : decode cX3_tryToRun 50 = .ok (.aload_n 1, 1) := by decide +kernel
theorem dX3_tryToRun_51 : decode cX3_tryToRun 51 = .ok (.invokevirtual 149, 3) := by decide +kernel
theorem dX3_tryToRun_54 : decode cX3_tryToRun 54 = .ok (.aload_n 0, 1) := by decide +kernel
theorem dX3_tryToRun_55 : decode cX3_tryToRun 55 = .ok (.getfield 34, 3) := by decide +kernel
theorem dX3_tryToRun_58 : decode cX3_tryToRun 58 = .ok (.dup, 1) := by decide +kernel
theorem dX3_tryToRun_59 : decode cX3_tryToRun 59 = .ok (.getfield 152, 3) := by decide +kernel
theorem dX3_tryToRun_62 : decode cX3_tryToRun 62 = .ok (.iconst 1, 1) := by decide +kernel
theorem dX3_tryToRun_63 : decode cX3_tryToRun 63 = .ok (.iadd, 1) := by decide +kernel
theorem dX3_tryToRun_64 : decode cX3_tryToRun 64 = .ok (.putfield 152, 3) := by decide +kernel
theorem dX3_tryToRun_67 : decode cX3_tryToRun 67 = .ok (.iconst 0, 1) := by decide +kernel
theorem dX3_tryToRun_68 : decode cX3_tryToRun 68 = .ok (.ireturn, 1) := by decide +kernel
theorem dX3_tryToRun_69 : decode cX3_tryToRun 69 = .ok (.aload_n 1, 1) := by decide +kernel
theorem dX3_tryToRun_70 : decode cX3_tryToRun 70 = .ok (.dup, 1) := by decide +kernel
theorem dX3_tryToRun_71 : decode cX3_tryToRun 71 = .ok (.getfield 155, 3) := by decide +kernel
theorem dX3_tryToRun_74 : decode cX3_tryToRun 74 = .ok (.iconst 1, 1) := by decide +kernel
theorem dX3_tryToRun_75 : decode cX3_tryToRun 75 = .ok (.iadd, 1) := by decide +kernel
theorem dX3_tryToRun_76 : decode cX3_tryToRun 76 = .ok (.putfield 155, 3) := by decide +kernel
theorem dX3_tryToRun_79 : decode cX3_tryToRun 79 = .ok (.iconst 1, 1) := by decide +kernel
theorem dX3_tryToRun_80 : decode cX3_tryToRun 80 = .ok (.ireturn, 1) := by decide +kernel
theorem dX3_switchOff_0 : decode cX3_switchOff 0 = .ok (.aload_n 0, 1) := by decide +kernel
theorem dX3_switchOff_1 : decode cX3_switchOff 1 = .ok (.iconst 0, 1) := by decide +kernel
theorem dX3_switchOff_2 : decode cX3_switchOff 2 = .ok (.putfield 76, 3) := by decide +kernel
theorem dX3_switchOff_5 : decode cX3_switchOff 5 = .ok (.aload_n 0, 1) := by decide +kernel
theorem dX3_switchOff_6 : decode cX3_switchOff 6 = .ok (.iconst (-1), 1) := by decide +kernel
theorem dX3_switchOff_7 : decode cX3_switchOff 7 = .ok (.putfield 38, 3) := by decide +kernel
theorem dX3_switchOff_10 : decode cX3_switchOff 10 = .ok (.aload_n 0, 1) := by decide +kernel
theorem dX3_switchOff_11 : decode cX3_switchOff 11 = .ok (.iconst 0, 1) := by decide +kernel
theorem dX3_switchOff_12 : decode cX3_switchOff 12 = .ok (.putfield 80, 3) := by decide +kernel
theorem dX3_switchOff_15 : decode cX3_switchOff 15 = .ok (.aload_n 0, 1) := by decide +kernel
theorem dX3_switchOff_16 : decode cX3_switchOff 16 = .ok (.getfield 20, 3) := by decide +kernel
theorem dX3_switchOff_19 : decode cX3_switchOff 19 = .ok (.invokevirtual 158, 3) := by decide +kernel
theorem dX3_switchOff_22 : decode cX3_switchOff 22 = .ok (.return_, 1) := by decide +kernel
theorem dX3_passTick_0 : decode cX3_passTick 0 = .ok (.aload_n 0, 1) := by decide +kernel
theorem dX3_passTick_1 : decode cX3_passTick 1 = .ok (.invokevirtual 161, 3) := by decide +kernel
theorem dX3_passTick_4 : decode cX3_passTick 4 = .ok (.ifCond .eq 16, 3) := by decide +kernel
theorem dX3_passTick_7 : decode cX3_passTick 7 = .ok (.aload_n 0, 1) := by decide +kernel
theorem dX3_passTick_8 : decode cX3_passTick 8 = .ok (.getfield 34, 3) := by decide +kernel
theorem dX3_passTick_11 : decode cX3_passTick 11 = .ok (.dup, 1) := by decide +kernel
theorem dX3_passTick_12 : decode cX3_passTick 12 = .ok (.getfield 164, 3) := by decide +kernel
theorem dX3_passTick_15 : decode cX3_passTick 15 = .ok (.iconst 1, 1) := by decide +kernel
theorem dX3_passTick_16 : decode cX3_passTick 16 = .ok (.iadd, 1) := by decide +kernel
theorem dX3_passTick_17 : decode cX3_passTick 17 = .ok (.putfield 164, 3) := by decide +kernel
theorem dX3_passTick_20 : decode cX3_passTick 20 = .ok (.aload_n 0, 1) := by decide +kernel
theorem dX3_passTick_21 : decode cX3_passTick 21 = .ok (.dup, 1) := by decide +kernel
theorem dX3_passTick_22 : decode cX3_passTick 22 = .ok (.getfield 73, 3) := by decide +kernel
theorem dX3_passTick_25 : decode cX3_passTick 25 = .ok (.iconst 1, 1) := by decide +kernel
theorem dX3_passTick_26 : decode cX3_passTick 26 = .ok (.iadd, 1) := by decide +kernel
theorem dX3_passTick_27 : decode cX3_passTick 27 = .ok (.putfield 73, 3) := by decide +kernel
theorem dX3_passTick_30 : decode cX3_passTick 30 = .ok (.aload_n 0, 1) := by decide +kernel
theorem dX3_passTick_31 : decode cX3_passTick 31 = .ok (.getfield 38, 3) := by decide +kernel
theorem dX3_passTick_34 : decode cX3_passTick 34 = .ok (.ifCond .lt 37, 3) := by decide +kernel
theorem dX3_passTick_37 : decode cX3_passTick 37 = .ok (.aload_n 0, 1) := by decide +kernel
theorem dX3_passTick_38 : decode cX3_passTick 38 = .ok (.getfield 38, 3) := by decide +kernel
theorem dX3_passTick_41 : decode cX3_passTick 41 = .ok (.bipush 6, 2) := by decide +kernel
theorem dX3_passTick_43 : decode cX3_passTick 43 = .ok (.if_icmp .ge 28, 3) := by decide +kernel
theorem dX3_passTick_46 : decode cX3_passTick 46 = .ok (.aload_n 0, 1) := by decide +kernel
theorem dX3_passTick_47 : decode cX3_passTick 47 = .ok (.aload_n 0, 1) := by decide +kernel
theorem dX3_passTick_48 : decode cX3_passTick 48 = .ok (.getfield 11, 3) := by decide +kernel
theorem dX3_passTick_51 : decode cX3_passTick 51 = .ok (.aload_n 0, 1) := by decide +kernel
theorem dX3_passTick_52 : decode cX3_passTick 52 = .ok (.getfield 38, 3) := by decide +kernel
theorem dX3_passTick_55 : decode cX3_passTick 55 = .ok (.aaload, 1) := by decide +kernel
theorem dX3_passTick_56 : decode cX3_passTick 56 = .ok (.invokevirtual 167, 3) := by decide +kernel
theorem dX3_passTick_59 : decode cX3_passTick 59 = .ok (.istore_n 1, 1) := by decide +kernel
theorem dX3_passTick_60 : decode cX3_passTick 60 = .ok (.iload_n 1, 1) := by decide +kernel
theorem dX3_passTick_61 : decode cX3_passTick 61 = .ok (.iconst (-1), 1) := by decide +kernel
theorem dX3_passTick_62 : decode cX3_passTick 62 = .ok (.if_icmp .eq 9, 3) := by decide +kernel
theorem dX3_passTick_65 : decode cX3_passTick 65 = .ok (.aload_n 0, 1) := by decide +kernel
theorem dX3_passTick_66 : decode cX3_passTick 66 = .ok (.iload_n 1, 1) := by decide +kernel
theorem dX3_passTick_67 : decode cX3_passTick 67 = .ok (.invokevirtual 171, 3) := by decide +kernel
theorem dX3_passTick_70 : decode cX3_passTick 70 = .ok (.pop, 1) := by decide +kernel
theorem dX3_passTick_71 : decode cX3_passTick 71 = .ok (.aload_n 0, 1) := by decide +kernel
theorem dX3_passTick_72 : decode cX3_passTick 72 = .ok (.getfield 76, 3) := by decide +kernel
theorem dX3_passTick_75 : decode cX3_passTick 75 = .ok (.ifCond .eq 43, 3) := by decide +kernel
theorem dX3_passTick_78 : decode cX3_passTick 78 = .ok (.aload_n 0, 1) := by decide +kernel
theorem dX3_passTick_79 : decode cX3_passTick 79 = .ok (.getfield 20, 3) := by decide +kernel
theorem dX3_passTick_82 : decode cX3_passTick 82 = .ok (.invokevirtual 174, 3) := by decide +kernel
theorem dX3_passTick_85 : decode cX3_passTick 85 = .ok (.ifCond .eq 33, 3) := by decide +kernel
theorem dX3_passTick_88 : decode cX3_passTick 88 = .ok (.aload_n 0, 1) := by decide +kernel
theorem dX3_passTick_89 : decode cX3_passTick 89 = .ok (.invokevirtual 177, 3) := by decide +kernel
theorem dX3_passTick_92 : decode cX3_passTick 92 = .ok (.aload_n 0, 1) := by decide +kernel
theorem dX3_passTick_93 : decode cX3_passTick 93 = .ok (.getfield 34, 3) := by decide +kernel
theorem dX3_passTick_96 : decode cX3_passTick 96 = .ok (.dup, 1) := by decide +kernel
theorem dX3_passTick_97 : decode cX3_passTick 97 = .ok (.getfield 180, 3) := by decide +kernel
theorem dX3_passTick_100 : decode cX3_passTick 100 = .ok (.iconst 1, 1) := by decide +kernel
theorem dX3_passTick_101 : decode cX3_passTick 101 = .ok (.iadd, 1) := by decide +kernel
theorem dX3_passTick_102 : decode cX3_passTick 102 = .ok (.putfield 180, 3) := by decide +kernel
theorem dX3_passTick_105 : decode cX3_passTick 105 = .ok (.aload_n 0, 1) := by decide +kernel
theorem dX3_passTick_106 : decode cX3_passTick 106 = .ok (.invokevirtual 161, 3) := by decide +kernel
theorem dX3_passTick_109 : decode cX3_passTick 109 = .ok (.ifCond .eq 9, 3) := by decide +kernel
theorem dX3_passTick_112 : decode cX3_passTick 112 = .ok (.aload_n 0, 1) := by decide +kernel
theorem dX3_passTick_113 : decode cX3_passTick 113 = .ok (.iconst 4, 1) := by decide +kernel
theorem dX3_passTick_114 : decode cX3_passTick 114 = .ok (.invokevirtual 171, 3) := by decide +kernel
theorem dX3_passTick_117 : decode cX3_passTick 117 = .ok (.pop, 1) := by decide +kernel
theorem dX3_passTick_118 : decode cX3_passTick 118 = .ok (.return_, 1) := by decide +kernel
theorem dX3_growOlder_0 : decode cX3_growOlder 0 = .ok (.aload_n 0, 1) := by decide +kernel
theorem dX3_growOlder_1 : decode cX3_growOlder 1 = .ok (.dup, 1) := by decide +kernel
theorem dX3_growOlder_2 : decode cX3_growOlder 2 = .ok (.getfield 80, 3) := by decide +kernel
theorem dX3_growOlder_5 : decode cX3_growOlder 5 = .ok (.iconst 1, 1) := by decide +kernel
theorem dX3_growOlder_6 : decode cX3_growOlder 6 = .ok (.iadd, 1) := by decide +kernel
theorem dX3_growOlder_7 : decode cX3_growOlder 7 = .ok (.putfield 80, 3) := by decide +kernel
theorem dX3_growOlder_10 : decode cX3_growOlder 10 = .ok (.aload_n 0, 1) := by decide +kernel
theorem dX3_growOlder_11 : decode cX3_growOlder 11 = .ok (.getfield 80, 3) := by decide +kernel
theorem dX3_growOlder_14 : decode cX3_growOlder 14 = .ok (.aload_n 1, 1) := by decide +kernel
theorem dX3_growOlder_15 : decode cX3_growOlder 15 = .ok (.getfield 87, 3) := by decide +kernel
theorem dX3_growOlder_18 : decode cX3_growOlder 18 = .ok (.getfield 183, 3) := by decide +kernel
theorem dX3_growOlder_21 : decode cX3_growOlder 21 = .ok (.if_icmp .ne 10, 3) := by decide +kernel
theorem dX3_growOlder_24 : decode cX3_growOlder 24 = .ok (.aload_n 0, 1) := by decide +kernel
theorem dX3_growOlder_25 : decode cX3_growOlder 25 = .ok (.aload_n 1, 1) := by decide +kernel
theorem dX3_growOlder_26 : decode cX3_growOlder 26 = .ok (.invokevirtual 186, 3) := by decide +kernel
theorem dX3_growOlder_29 : decode cX3_growOlder 29 = .ok (.iconst 2, 1) := by decide +kernel
theorem dX3_growOlder_30 : decode cX3_growOlder 30 = .ok (.ireturn, 1) := by decide +kernel
theorem dX3_growOlder_31 : decode cX3_growOlder 31 = .ok (.aload_n 0, 1) := by decide +kernel
theorem dX3_growOlder_32 : decode cX3_growOlder 32 = .ok (.getfield 80, 3) := by decide +kernel
theorem dX3_growOlder_35 : decode cX3_growOlder 35 = .ok (.aload_n 1, 1) := by decide +kernel
theorem dX3_growOlder_36 : decode cX3_growOlder 36 = .ok (.getfield 87, 3) := by decide +kernel
theorem dX3_growOlder_39 : decode cX3_growOlder 39 = .ok (.getfield 188, 3) := by decide +kernel
theorem dX3_growOlder_42 : decode cX3_growOlder 42 = .ok (.if_icmp .ne 10, 3) := by decide +kernel
theorem dX3_growOlder_45 : decode cX3_growOlder 45 = .ok (.aload_n 0, 1) := by decide +kernel
theorem dX3_growOlder_46 : decode cX3_growOlder 46 = .ok (.aload_n 1, 1) := by decide +kernel
theorem dX3_growOlder_47 : decode cX3_growOlder 47 = .ok (.invokevirtual 191, 3) := by decide +kernel
theorem dX3_growOlder_50 : decode cX3_growOlder 50 = .ok (.iconst (-1), 1) := by decide +kernel
theorem dX3_growOlder_51 : decode cX3_growOlder 51 = .ok (.ireturn, 1) := by decide +kernel
theorem dX3_growOlder_52 : decode cX3_growOlder 52 = .ok (.aload_n 0, 1) := by decide +kernel
theorem dX3_growOlder_53 : decode cX3_growOlder 53 = .ok (.getfield 80, 3) := by decide +kernel
theorem dX3_growOlder_56 : decode cX3_growOlder 56 = .ok (.aload_n 0, 1) := by decide +kernel
theorem dX3_growOlder_57 : decode cX3_growOlder 57 = .ok (.getfield 61, 3) := by decide +kernel
theorem dX3_growOlder_60 : decode cX3_growOlder 60 = .ok (.if_icmp .ne 25, 3) := by decide +kernel
theorem dX3_growOlder_63 : decode cX3_growOlder 63 = .ok (.aload_n 1, 1) := by decide +kernel
theorem dX3_growOlder_64 : decode cX3_growOlder 64 = .ok (.getfield 109, 3) := by decide +kernel
theorem dX3_growOlder_67 : decode cX3_growOlder 67 = .ok (.ifCond .ne 18, 3) := by decide +kernel
theorem dX3_growOlder_70 : decode cX3_growOlder 70 = .ok (.aload_n 0, 1) := by decide +kernel
theorem dX3_growOlder_71 : decode cX3_growOlder 71 = .ok (.getfield 34, 3) := by decide +kernel
theorem dX3_growOlder_74 : decode cX3_growOlder 74 = .ok (.dup, 1) := by decide +kernel
theorem dX3_growOlder_75 : decode cX3_growOlder 75 = .ok (.getfield 194, 3) := by decide +kernel
theorem dX3_growOlder_78 : decode cX3_growOlder 78 = .ok (.iconst 1, 1) := by decide +kernel
theorem dX3_growOlder_79 : decode cX3_growOlder 79 = .ok (.iadd, 1) := by decide +kernel
theorem dX3_growOlder_80 : decode cX3_growOlder 80 = .ok (.putfield 194, 3) := by decide +kernel
theorem dX3_growOlder_83 : decode cX3_growOlder 83 = .ok (.iconst 3, 1) := by decide +kernel
theorem dX3_growOlder_84 : decode cX3_growOlder 84 = .ok (.ireturn, 1) := by decide +kernel
theorem dX3_growOlder_85 : decode cX3_growOlder 85 = .ok (.iconst (-1), 1) := by decide +kernel
theorem dX3_growOlder_86 : decode cX3_growOlder 86 = .ok (.ireturn, 1) := by decide +kernel
theorem dX3_crash_0 : decode cX3_crash 0 = .ok (.aload_n 0, 1) := by decide +kernel
theorem dX3_crash_1 : decode cX3_crash 1 = .ok (.getfield 34, 3) := by decide +kernel
theorem dX3_crash_4 : decode cX3_crash 4 = .ok (.dup, 1) := by decide +kernel
theorem dX3_crash_5 : decode cX3_crash 5 = .ok (.getfield 197, 3) := by decide +kernel
theorem dX3_crash_8 : decode cX3_crash 8 = .ok (.iconst 1, 1) := by decide +kernel
theorem dX3_crash_9 : decode cX3_crash 9 = .ok (.iadd, 1) := by decide +kernel
theorem dX3_crash_10 : decode cX3_crash 10 = .ok (.putfield 197, 3) := by decide +kernel
theorem dX3_crash_13 : decode cX3_crash 13 = .ok (.aload_n 1, 1) := by decide +kernel
theorem dX3_crash_14 : decode cX3_crash 14 = .ok (.dup, 1) := by decide +kernel
theorem dX3_crash_15 : decode cX3_crash 15 = .ok (.getfield 200, 3) := by decide +kernel
theorem dX3_crash_18 : decode cX3_crash 18 = .ok (.iconst 1, 1) := by decide +kernel
theorem dX3_crash_19 : decode cX3_crash 19 = .ok (.iadd, 1) := by decide +kernel
theorem dX3_crash_20 : decode cX3_crash 20 = .ok (.putfield 200, 3) := by decide +kernel
theorem dX3_crash_23 : decode cX3_crash 23 = .ok (.aload_n 1, 1) := by decide +kernel
theorem dX3_crash_24 : decode cX3_crash 24 = .ok (.getfield 109, 3) := by decide +kernel
theorem dX3_crash_27 : decode cX3_crash 27 = .ok (.ifCond .eq 32, 3) := by decide +kernel
theorem dX3_crash_30 : decode cX3_crash 30 = .ok (.aload_n 1, 1) := by decide +kernel
theorem dX3_crash_31 : decode cX3_crash 31 = .ok (.getfield 200, 3) := by decide +kernel
theorem dX3_crash_34 : decode cX3_crash 34 = .ok (.aload_n 0, 1) := by decide +kernel
theorem dX3_crash_35 : decode cX3_crash 35 = .ok (.getfield 64, 3) := by decide +kernel
theorem dX3_crash_38 : decode cX3_crash 38 = .ok (.if_icmp .lt 21, 3) := by decide +kernel
theorem dX3_crash_41 : decode cX3_crash 41 = .ok (.aload_n 1, 1) := by decide +kernel
theorem dX3_crash_42 : decode cX3_crash 42 = .ok (.iconst 0, 1) := by decide +kernel
theorem dX3_crash_43 : decode cX3_crash 43 = .ok (.putfield 109, 3) := by decide +kernel
theorem dX3_crash_46 : decode cX3_crash 46 = .ok (.aload_n 1, 1) := by decide +kernel
theorem dX3_crash_47 : decode cX3_crash 47 = .ok (.aload_n 0, 1) := by decide +kernel
theorem dX3_crash_48 : decode cX3_crash 48 = .ok (.getfield 67, 3) := by decide +kernel
theorem dX3_crash_51 : decode cX3_crash 51 = .ok (.putfield 112, 3) := by decide +kernel
theorem dX3_crash_54 : decode cX3_crash 54 = .ok (.aload_n 1, 1) := by decide +kernel
theorem dX3_crash_55 : decode cX3_crash 55 = .ok (.iconst 0, 1) := by decide +kernel
theorem dX3_crash_56 : decode cX3_crash 56 = .ok (.putfield 200, 3) := by decide +kernel
theorem dX3_crash_59 : decode cX3_crash 59 = .ok (.return_, 1) := by decide +kernel
theorem dX3_succeed_0 : decode cX3_succeed 0 = .ok (.aload_n 1, 1) := by decide +kernel
theorem dX3_succeed_1 : decode cX3_succeed 1 = .ok (.getfield 109, 3) := by decide +kernel
theorem dX3_succeed_4 : decode cX3_succeed 4 = .ok (.ifCond .ne 36, 3) := by decide +kernel
theorem dX3_succeed_7 : decode cX3_succeed 7 = .ok (.aload_n 1, 1) := by decide +kernel
theorem dX3_succeed_8 : decode cX3_succeed 8 = .ok (.iconst 1, 1) := by decide +kernel
theorem dX3_succeed_9 : decode cX3_succeed 9 = .ok (.putfield 109, 3) := by decide +kernel
theorem dX3_succeed_12 : decode cX3_succeed 12 = .ok (.aload_n 1, 1) := by decide +kernel
theorem dX3_succeed_13 : decode cX3_succeed 13 = .ok (.iconst 0, 1) := by decide +kernel
theorem dX3_succeed_14 : decode cX3_succeed 14 = .ok (.putfield 112, 3) := by decide +kernel
theorem dX3_succeed_17 : decode cX3_succeed 17 = .ok (.aload_n 1, 1) := by decide +kernel
theorem dX3_succeed_18 : decode cX3_succeed 18 = .ok (.dup, 1) := by decide +kernel
theorem dX3_succeed_19 : decode cX3_succeed 19 = .ok (.getfield 203, 3) := by decide +kernel
theorem dX3_succeed_22 : decode cX3_succeed 22 = .ok (.iconst 1, 1) := by decide +kernel
theorem dX3_succeed_23 : decode cX3_succeed 23 = .ok (.iadd, 1) := by decide +kernel
theorem dX3_succeed_24 : decode cX3_succeed 24 = .ok (.putfield 203, 3) := by decide +kernel
theorem dX3_succeed_27 : decode cX3_succeed 27 = .ok (.aload_n 0, 1) := by decide +kernel
theorem dX3_succeed_28 : decode cX3_succeed 28 = .ok (.getfield 34, 3) := by decide +kernel
theorem dX3_succeed_31 : decode cX3_succeed 31 = .ok (.dup, 1) := by decide +kernel
theorem dX3_succeed_32 : decode cX3_succeed 32 = .ok (.getfield 206, 3) := by decide +kernel
theorem dX3_succeed_35 : decode cX3_succeed 35 = .ok (.iconst 1, 1) := by decide +kernel
theorem dX3_succeed_36 : decode cX3_succeed 36 = .ok (.iadd, 1) := by decide +kernel
theorem dX3_succeed_37 : decode cX3_succeed 37 = .ok (.putfield 206, 3) := by decide +kernel
theorem dX3_succeed_40 : decode cX3_succeed 40 = .ok (.aload_n 1, 1) := by decide +kernel
theorem dX3_succeed_41 : decode cX3_succeed 41 = .ok (.iconst 0, 1) := by decide +kernel
theorem dX3_succeed_42 : decode cX3_succeed 42 = .ok (.putfield 200, 3) := by decide +kernel
theorem dX3_succeed_45 : decode cX3_succeed 45 = .ok (.aload_n 0, 1) := by decide +kernel
theorem dX3_succeed_46 : decode cX3_succeed 46 = .ok (.aload_n 0, 1) := by decide +kernel
theorem dX3_succeed_47 : decode cX3_succeed 47 = .ok (.iconst (-1), 1) := by decide +kernel
theorem dX3_succeed_48 : decode cX3_succeed 48 = .ok (.invokevirtual 207, 3) := by decide +kernel
theorem dX3_succeed_51 : decode cX3_succeed 51 = .ok (.putfield 70, 3) := by decide +kernel
theorem dX3_succeed_54 : decode cX3_succeed 54 = .ok (.return_, 1) := by decide +kernel
theorem dX3_takeInstall_0 : decode cX3_takeInstall 0 = .ok (.aload_n 0, 1) := by decide +kernel
theorem dX3_takeInstall_1 : decode cX3_takeInstall 1 = .ok (.getfield 20, 3) := by decide +kernel
theorem dX3_takeInstall_4 : decode cX3_takeInstall 4 = .ok (.getfield 210, 3) := by decide +kernel
theorem dX3_takeInstall_7 : decode cX3_takeInstall 7 = .ok (.istore_n 1, 1) := by decide +kernel
theorem dX3_takeInstall_8 : decode cX3_takeInstall 8 = .ok (.iload_n 1, 1) := by decide +kernel
theorem dX3_takeInstall_9 : decode cX3_takeInstall 9 = .ok (.ifCond .lt 67, 3) := by decide +kernel
theorem dX3_takeInstall_12 : decode cX3_takeInstall 12 = .ok (.iload_n 1, 1) := by decide +kernel
theorem dX3_takeInstall_13 : decode cX3_takeInstall 13 = .ok (.bipush 6, 2) := by decide +kernel
theorem dX3_takeInstall_15 : decode cX3_takeInstall 15 = .ok (.if_icmp .ge 61, 3) := by decide +kernel
theorem dX3_takeInstall_18 : decode cX3_takeInstall 18 = .ok (.aload_n 0, 1) := by decide +kernel
theorem dX3_takeInstall_19 : decode cX3_takeInstall 19 = .ok (.iload_n 1, 1) := by decide +kernel
theorem dX3_takeInstall_20 : decode cX3_takeInstall 20 = .ok (.invokevirtual 213, 3) := by decide +kernel
theorem dX3_takeInstall_23 : decode cX3_takeInstall 23 = .ok (.aload_n 0, 1) := by decide +kernel
theorem dX3_takeInstall_24 : decode cX3_takeInstall 24 = .ok (.getfield 11, 3) := by decide +kernel
theorem dX3_takeInstall_27 : decode cX3_takeInstall 27 = .ok (.iload_n 1, 1) := by decide +kernel
theorem dX3_takeInstall_28 : decode cX3_takeInstall 28 = .ok (.aaload, 1) := by decide +kernel
theorem dX3_takeInstall_29 : decode cX3_takeInstall 29 = .ok (.getfield 87, 3) := by decide +kernel
theorem dX3_takeInstall_32 : decode cX3_takeInstall 32 = .ok (.aload_n 0, 1) := by decide +kernel
theorem dX3_takeInstall_33 : decode cX3_takeInstall 33 = .ok (.getfield 20, 3) := by decide +kernel
theorem dX3_takeInstall_36 : decode cX3_takeInstall 36 = .ok (.getfield 216, 3) := by decide +kernel
theorem dX3_takeInstall_39 : decode cX3_takeInstall 39 = .ok (.invokevirtual 217, 3) := by decide +kernel
theorem dX3_takeInstall_42 : decode cX3_takeInstall 42 = .ok (.aload_n 0, 1) := by decide +kernel
theorem dX3_takeInstall_43 : decode cX3_takeInstall 43 = .ok (.getfield 11, 3) := by decide +kernel
theorem dX3_takeInstall_46 : decode cX3_takeInstall 46 = .ok (.iload_n 1, 1) := by decide +kernel
theorem dX3_takeInstall_47 : decode cX3_takeInstall 47 = .ok (.aaload, 1) := by decide +kernel
theorem dX3_takeInstall_48 : decode cX3_takeInstall 48 = .ok (.aload_n 0, 1) := by decide +kernel
theorem dX3_takeInstall_49 : decode cX3_takeInstall 49 = .ok (.iload_n 1, 1) := by decide +kernel
theorem dX3_takeInstall_50 : decode cX3_takeInstall 50 = .ok (.invokevirtual 220, 3) := by decide +kernel
theorem dX3_takeInstall_53 : decode cX3_takeInstall 53 = .ok (.iconst 1, 1) := by decide +kernel
theorem dX3_takeInstall_54 : decode cX3_takeInstall 54 = .ok (.iadd, 1) := by decide +kernel
theorem dX3_takeInstall_55 : decode cX3_takeInstall 55 = .ok (.aload_n 0, 1) := by decide +kernel
theorem dX3_takeInstall_56 : decode cX3_takeInstall 56 = .ok (.getfield 20, 3) := by decide +kernel
theorem dX3_takeInstall_59 : decode cX3_takeInstall 59 = .ok (.getfield 223, 3) := by decide +kernel
theorem dX3_takeInstall_62 : decode cX3_takeInstall 62 = .ok (.iconst 0, 1) := by decide +kernel
theorem dX3_takeInstall_63 : decode cX3_takeInstall 63 = .ok (.invokevirtual 224, 3) := by decide +kernel
theorem dX3_takeInstall_66 : decode cX3_takeInstall 66 = .ok (.aload_n 0, 1) := by decide +kernel
theorem dX3_takeInstall_67 : decode cX3_takeInstall 67 = .ok (.getfield 11, 3) := by decide +kernel
theorem dX3_takeInstall_70 : decode cX3_takeInstall 70 = .ok (.iload_n 1, 1) := by decide +kernel
theorem dX3_takeInstall_71 : decode cX3_takeInstall 71 = .ok (.aaload, 1) := by decide +kernel
theorem dX3_takeInstall_72 : decode cX3_takeInstall 72 = .ok (.iconst 0, 1) := by decide +kernel
theorem dX3_takeInstall_73 : decode cX3_takeInstall 73 = .ok (.putfield 200, 3) := by decide +kernel
theorem dX3_takeInstall_76 : decode cX3_takeInstall 76 = .ok (.aload_n 0, 1) := by decide +kernel
theorem dX3_takeInstall_77 : decode cX3_takeInstall 77 = .ok (.getfield 20, 3) := by decide +kernel
theorem dX3_takeInstall_80 : decode cX3_takeInstall 80 = .ok (.invokevirtual 158, 3) := by decide +kernel
theorem dX3_takeInstall_83 : decode cX3_takeInstall 83 = .ok (.return_, 1) := by decide +kernel
theorem dX3_makeRoomAbove_0 : decode cX3_makeRoomAbove 0 = .ok (.aload_n 0, 1) := by decide +kernel
theorem dX3_makeRoomAbove_1 : decode cX3_makeRoomAbove 1 = .ok (.iload_n 1, 1) := by decide +kernel
theorem dX3_makeRoomAbove_2 : decode cX3_makeRoomAbove 2 = .ok (.invokevirtual 220, 3) := by decide +kernel
theorem dX3_makeRoomAbove_5 : decode cX3_makeRoomAbove 5 = .ok (.bipush 15, 2) := by decide +kernel
theorem dX3_makeRoomAbove_7 : decode cX3_makeRoomAbove 7 = .ok (.if_icmp .ge 4, 3) := by decide +kernel
theorem dX3_makeRoomAbove_10 : decode cX3_makeRoomAbove 10 = .ok (.return_, 1) := by decide +kernel
theorem dX3_makeRoomAbove_11 : decode cX3_makeRoomAbove 11 = .ok (.iconst 0, 1) := by decide +kernel
theorem dX3_makeRoomAbove_12 : decode cX3_makeRoomAbove 12 = .ok (.istore_n 2, 1) := by decide +kernel
theorem dX3_makeRoomAbove_13 : decode cX3_makeRoomAbove 13 = .ok (.iload_n 2, 1) := by decide +kernel
theorem dX3_makeRoomAbove_14 : decode cX3_makeRoomAbove 14 = .ok (.bipush 6, 2) := by decide +kernel
theorem dX3_makeRoomAbove_16 : decode cX3_makeRoomAbove 16 = .ok (.if_icmp .ge 42, 3) := by decide +kernel
theorem dX3_makeRoomAbove_19 : decode cX3_makeRoomAbove 19 = .ok (.iload_n 2, 1) := by decide +kernel
theorem dX3_makeRoomAbove_20 : decode cX3_makeRoomAbove 20 = .ok (.iload_n 1, 1) := by decide +kernel
theorem dX3_makeRoomAbove_21 : decode cX3_makeRoomAbove 21 = .ok (.if_icmp .eq 31, 3) := by decide +kernel
theorem dX3_makeRoomAbove_24 : decode cX3_makeRoomAbove 24 = .ok (.aload_n 0, 1) := by decide +kernel
theorem dX3_makeRoomAbove_25 : decode cX3_makeRoomAbove 25 = .ok (.getfield 11, 3) := by decide +kernel
theorem dX3_makeRoomAbove_28 : decode cX3_makeRoomAbove 28 = .ok (.iload_n 2, 1) := by decide +kernel
theorem dX3_makeRoomAbove_29 : decode cX3_makeRoomAbove 29 = .ok (.aaload, 1) := by decide +kernel
theorem dX3_makeRoomAbove_30 : decode cX3_makeRoomAbove 30 = .ok (.getfield 106, 3) := by decide +kernel
theorem dX3_makeRoomAbove_33 : decode cX3_makeRoomAbove 33 = .ok (.iconst 1, 1) := by decide +kernel
theorem dX3_makeRoomAbove_34 : decode cX3_makeRoomAbove 34 = .ok (.if_icmp .le 18, 3) := by decide +kernel
theorem dX3_makeRoomAbove_37 : decode cX3_makeRoomAbove 37 = .ok (.aload_n 0, 1) := by decide +kernel
theorem dX3_makeRoomAbove_38 : decode cX3_makeRoomAbove 38 = .ok (.getfield 11, 3) := by decide +kernel
theorem dX3_makeRoomAbove_41 : decode cX3_makeRoomAbove 41 = .ok (.iload_n 2, 1) := by decide +kernel
theorem dX3_makeRoomAbove_42 : decode cX3_makeRoomAbove 42 = .ok (.aaload, 1) := by decide +kernel
theorem dX3_makeRoomAbove_43 : decode cX3_makeRoomAbove 43 = .ok (.dup, 1) := by decide +kernel
theorem dX3_makeRoomAbove_44 : decode cX3_makeRoomAbove 44 = .ok (.getfield 106, 3) := by decide +kernel
theorem dX3_makeRoomAbove_47 : decode cX3_makeRoomAbove 47 = .ok (.iconst 1, 1) := by decide +kernel
theorem dX3_makeRoomAbove_48 : decode cX3_makeRoomAbove 48 = .ok (.isub, 1) := by decide +kernel
theorem dX3_makeRoomAbove_49 : decode cX3_makeRoomAbove 49 = .ok (.putfield 106, 3) := by decide +kernel
theorem dX3_makeRoomAbove_52 : decode cX3_makeRoomAbove 52 = .ok (.iinc 2 1, 3) := by decide +kernel
theorem dX3_makeRoomAbove_55 : decode cX3_makeRoomAbove 55 = .ok (.goto (-42), 3) := by decide +kernel
theorem dX3_makeRoomAbove_58 : decode cX3_makeRoomAbove 58 = .ok (.return_, 1) := by decide +kernel
theorem dX3_greatestPriorityBut_0 : decode cX3_greatestPriorityBut 0 = .ok (.iconst 0, 1) := by decide +kernel
theorem dX3_greatestPriorityBut_1 : decode cX3_greatestPriorityBut 1 = .ok (.istore_n 2, 1) := by decide +kernel
theorem dX3_greatestPriorityBut_2 : decode cX3_greatestPriorityBut 2 = .ok (.iconst 0, 1) := by decide +kernel
theorem dX3_greatestPriorityBut_3 : decode cX3_greatestPriorityBut 3 = .ok (.istore_n 3, 1) := by decide +kernel
theorem dX3_greatestPriorityBut_4 : decode cX3_greatestPriorityBut 4 = .ok (.iload_n 3, 1) := by decide +kernel
theorem dX3_greatestPriorityBut_5 : decode cX3_greatestPriorityBut 5 = .ok (.bipush 6, 2) := by decide +kernel
theorem dX3_greatestPriorityBut_7 : decode cX3_greatestPriorityBut 7 = .ok (.if_icmp .ge 28, 3) := by decide +kernel
theorem dX3_greatestPriorityBut_10 : decode cX3_greatestPriorityBut 10 = .ok (.iload_n 3, 1) := by decide +kernel
theorem dX3_greatestPriorityBut_11 : decode cX3_greatestPriorityBut 11 = .ok (.iload_n 1, 1) := by decide +kernel
theorem dX3_greatestPriorityBut_12 : decode cX3_greatestPriorityBut 12 = .ok (.if_icmp .eq 17, 3) := by decide +kernel
theorem dX3_greatestPriorityBut_15 : decode cX3_greatestPriorityBut 15 = .ok (.iload_n 2, 1) := by decide +kernel
theorem dX3_greatestPriorityBut_16 : decode cX3_greatestPriorityBut 16 = .ok (.aload_n 0, 1) := by decide +kernel
theorem dX3_greatestPriorityBut_17 : decode cX3_greatestPriorityBut 17 = .ok (.getfield 11, 3) := by decide +kernel
theorem dX3_greatestPriorityBut_20 : decode cX3_greatestPriorityBut 20 = .ok (.iload_n 3, 1) := by decide +kernel
theorem dX3_greatestPriorityBut_21 : decode cX3_greatestPriorityBut 21 = .ok (.aaload, 1) := by decide +kernel
theorem dX3_greatestPriorityBut_22 : decode cX3_greatestPriorityBut 22 = .ok (.getfield 106, 3) := by decide +kernel
theorem dX3_greatestPriorityBut_25 : decode cX3_greatestPriorityBut 25 = .ok (.invokestatic 128, 3) := by decide +kernel
theorem dX3_greatestPriorityBut_28 : decode cX3_greatestPriorityBut 28 = .ok (.istore_n 2, 1) := by decide +kernel
theorem dX3_greatestPriorityBut_29 : decode cX3_greatestPriorityBut 29 = .ok (.iinc 3 1, 3) := by decide +kernel
theorem dX3_greatestPriorityBut_32 : decode cX3_greatestPriorityBut 32 = .ok (.goto (-28), 3) := by decide +kernel
theorem dX3_greatestPriorityBut_35 : decode cX3_greatestPriorityBut 35 = .ok (.iload_n 2, 1) := by decide +kernel
theorem dX3_greatestPriorityBut_36 : decode cX3_greatestPriorityBut 36 = .ok (.ireturn, 1) := by decide +kernel
theorem dX3_isSettled_0 : decode cX3_isSettled 0 = .ok (.aload_n 0, 1) := by decide +kernel
theorem dX3_isSettled_1 : decode cX3_isSettled 1 = .ok (.getfield 20, 3) := by decide +kernel
theorem dX3_isSettled_4 : decode cX3_isSettled 4 = .ok (.invokevirtual 228, 3) := by decide +kernel
theorem dX3_isSettled_7 : decode cX3_isSettled 7 = .ok (.ifCond .eq 5, 3) := by decide +kernel
theorem dX3_isSettled_10 : decode cX3_isSettled 10 = .ok (.iconst 0, 1) := by decide +kernel
theorem dX3_isSettled_11 : decode cX3_isSettled 11 = .ok (.ireturn, 1) := by decide +kernel
theorem dX3_isSettled_12 : decode cX3_isSettled 12 = .ok (.aload_n 0, 1) := by decide +kernel
theorem dX3_isSettled_13 : decode cX3_isSettled 13 = .ok (.getfield 38, 3) := by decide +kernel
theorem dX3_isSettled_16 : decode cX3_isSettled 16 = .ok (.ifCond .lt 12, 3) := by decide +kernel
theorem dX3_isSettled_19 : decode cX3_isSettled 19 = .ok (.aload_n 0, 1) := by decide +kernel
theorem dX3_isSettled_20 : decode cX3_isSettled 20 = .ok (.getfield 38, 3) := by decide +kernel
theorem dX3_isSettled_23 : decode cX3_isSettled 23 = .ok (.bipush 6, 2) := by decide +kernel
theorem dX3_isSettled_25 : decode cX3_isSettled 25 = .ok (.if_icmp .lt 5, 3) := by decide +kernel
theorem dX3_isSettled_28 : decode cX3_isSettled 28 = .ok (.iconst 1, 1) := by decide +kernel
theorem dX3_isSettled_29 : decode cX3_isSettled 29 = .ok (.ireturn, 1) := by decide +kernel
theorem dX3_isSettled_30 : decode cX3_isSettled 30 = .ok (.aload_n 0, 1) := by decide +kernel
theorem dX3_isSettled_31 : decode cX3_isSettled 31 = .ok (.getfield 11, 3) := by decide +kernel
theorem dX3_isSettled_34 : decode cX3_isSettled 34 = .ok (.aload_n 0, 1) := by decide +kernel
theorem dX3_isSettled_35 : decode cX3_isSettled 35 = .ok (.getfield 38, 3) := by decide +kernel
theorem dX3_isSettled_38 : decode cX3_isSettled 38 = .ok (.aaload, 1) := by decide +kernel
theorem dX3_isSettled_39 : decode cX3_isSettled 39 = .ok (.getfield 87, 3) := by decide +kernel
theorem dX3_isSettled_42 : decode cX3_isSettled 42 = .ok (.astore_n 1, 1) := by decide +kernel
theorem dX3_isSettled_43 : decode cX3_isSettled 43 = .ok (.aload_n 0, 1) := by decide +kernel
theorem dX3_isSettled_44 : decode cX3_isSettled 44 = .ok (.getfield 80, 3) := by decide +kernel
theorem dX3_isSettled_47 : decode cX3_isSettled 47 = .ok (.aload_n 1, 1) := by decide +kernel
theorem dX3_isSettled_48 : decode cX3_isSettled 48 = .ok (.getfield 183, 3) := by decide +kernel
theorem dX3_isSettled_51 : decode cX3_isSettled 51 = .ok (.if_icmp .lt 29, 3) := by decide +kernel
theorem dX3_isSettled_54 : decode cX3_isSettled 54 = .ok (.aload_n 0, 1) := by decide +kernel
theorem dX3_isSettled_55 : decode cX3_isSettled 55 = .ok (.getfield 80, 3) := by decide +kernel
theorem dX3_isSettled_58 : decode cX3_isSettled 58 = .ok (.aload_n 1, 1) := by decide +kernel
theorem dX3_isSettled_59 : decode cX3_isSettled 59 = .ok (.getfield 188, 3) := by decide +kernel
theorem dX3_isSettled_62 : decode cX3_isSettled 62 = .ok (.if_icmp .lt 18, 3) := by decide +kernel
theorem dX3_isSettled_65 : decode cX3_isSettled 65 = .ok (.aload_n 0, 1) := by decide +kernel
theorem dX3_isSettled_66 : decode cX3_isSettled 66 = .ok (.getfield 80, 3) := by decide +kernel
theorem dX3_isSettled_69 : decode cX3_isSettled 69 = .ok (.aload_n 0, 1) := by decide +kernel
theorem dX3_isSettled_70 : decode cX3_isSettled 70 = .ok (.getfield 61, 3) := by decide +kernel
theorem dX3_isSettled_73 : decode cX3_isSettled 73 = .ok (.if_icmp .lt 7, 3) := by decide +kernel
theorem dX3_isSettled_76 : decode cX3_isSettled 76 = .ok (.iconst 1, 1) := by decide +kernel
theorem dX3_isSettled_77 : decode cX3_isSettled 77 = .ok (.goto 4, 3) := by decide +kernel
theorem dX3_isSettled_80 : decode cX3_isSettled 80 = .ok (.iconst 0, 1) := by decide +kernel
theorem dX3_isSettled_81 : decode cX3_isSettled 81 = .ok (.ireturn, 1) := by decide +kernel
theorem dX3_settle_0 : decode cX3_settle 0 = .ok (.iconst 0, 1) := by decide +kernel
theorem dX3_settle_1 : decode cX3_settle 1 = .ok (.istore_n 2, 1) := by decide +kernel
theorem dX3_settle_2 : decode cX3_settle 2 = .ok (.iload_n 2, 1) := by decide +kernel
theorem dX3_settle_3 : decode cX3_settle 3 = .ok (.iload_n 1, 1) := by decide +kernel
theorem dX3_settle_4 : decode cX3_settle 4 = .ok (.if_icmp .ge 20, 3) := by decide +kernel
theorem dX3_settle_7 : decode cX3_settle 7 = .ok (.aload_n 0, 1) := by decide +kernel
theorem dX3_settle_8 : decode cX3_settle 8 = .ok (.invokevirtual 231, 3) := by decide +kernel
theorem dX3_settle_11 : decode cX3_settle 11 = .ok (.ifCond .ne 13, 3) := by decide +kernel
theorem dX3_settle_14 : decode cX3_settle 14 = .ok (.aload_n 0, 1) := by decide +kernel
theorem dX3_settle_15 : decode cX3_settle 15 = .ok (.invokevirtual 234, 3) := by decide +kernel
theorem dX3_settle_18 : decode cX3_settle 18 = .ok (.iinc 2 1, 3) := by decide +kernel
theorem dX3_settle_21 : decode cX3_settle 21 = .ok (.goto (-19), 3) := by decide +kernel
theorem dX3_settle_24 : decode cX3_settle 24 = .ok (.return_, 1) := by decide +kernel
theorem dX4_init_0 : decode cX4_init 0 = .ok (.aload_n 0, 1) := by decide +kernel
theorem dX4_init_1 : decode cX4_init 1 = .ok (.invokespecial 3, 3) := by decide +kernel
theorem dX4_init_4 : decode cX4_init 4 = .ok (.aload_n 0, 1) := by decide +kernel
theorem dX4_init_5 : decode cX4_init 5 = .ok (.sipush 600, 3) := by decide +kernel
theorem dX4_init_8 : decode cX4_init 8 = .ok (.newarray .byte, 2) := by decide +kernel
theorem dX4_init_10 : decode cX4_init 10 = .ok (.putfield 9, 3) := by decide +kernel
theorem dX4_init_13 : decode cX4_init 13 = .ok (.aload_n 0, 1) := by decide +kernel
theorem dX4_init_14 : decode cX4_init 14 = .ok (.new 15, 3) := by decide +kernel
theorem dX4_init_17 : decode cX4_init 17 = .ok (.dup, 1) := by decide +kernel
theorem dX4_init_18 : decode cX4_init 18 = .ok (.invokespecial 17, 3) := by decide +kernel
theorem dX4_init_21 : decode cX4_init 21 = .ok (.putfield 18, 3) := by decide +kernel
theorem dX4_init_24 : decode cX4_init 24 = .ok (.aload_n 0, 1) := by decide +kernel
theorem dX4_init_25 : decode cX4_init 25 = .ok (.bipush 6, 2) := by decide +kernel
theorem dX4_init_27 : decode cX4_init 27 = .ok (.newarray .boolean, 2) := by decide +kernel
theorem dX4_init_29 : decode cX4_init 29 = .ok (.putfield 22, 3) := by decide +kernel
theorem dX4_init_32 : decode cX4_init 32 = .ok (.aload_n 0, 1) := by decide +kernel
theorem dX4_init_33 : decode cX4_init 33 = .ok (.iconst (-1), 1) := by decide +kernel
theorem dX4_init_34 : decode cX4_init 34 = .ok (.putfield 26, 3) := by decide +kernel
theorem dX4_init_37 : decode cX4_init 37 = .ok (.return_, 1) := by decide +kernel
theorem dX4_addFour_0 : decode cX4_addFour 0 = .ok (.bipush 24, 2) := by decide +kernel
theorem dX4_addFour_2 : decode cX4_addFour 2 = .ok (.istore_n 2, 1) := by decide +kernel
theorem dX4_addFour_3 : decode cX4_addFour 3 = .ok (.iload_n 2, 1) := by decide +kernel
theorem dX4_addFour_4 : decode cX4_addFour 4 = .ok (.ifCond .lt 49, 3) := by decide +kernel
theorem dX4_addFour_7 : decode cX4_addFour 7 = .ok (.aload_n 0, 1) := by decide +kernel
theorem dX4_addFour_8 : decode cX4_addFour 8 = .ok (.getfield 30, 3) := by decide +kernel
theorem dX4_addFour_11 : decode cX4_addFour 11 = .ok (.ifCond .lt 36, 3) := by decide +kernel
theorem dX4_addFour_14 : decode cX4_addFour 14 = .ok (.aload_n 0, 1) := by decide +kernel
theorem dX4_addFour_15 : decode cX4_addFour 15 = .ok (.getfield 30, 3) := by decide +kernel
theorem dX4_addFour_18 : decode cX4_addFour 18 = .ok (.sipush 600, 3) := by decide +kernel
theorem dX4_addFour_21 : decode cX4_addFour 21 = .ok (.if_icmp .ge 26, 3) := by decide +kernel
theorem dX4_addFour_24 : decode cX4_addFour 24 = .ok (.aload_n 0, 1) := by decide +kernel
theorem dX4_addFour_25 : decode cX4_addFour 25 = .ok (.getfield 9, 3) := by decide +kernel
theorem dX4_addFour_28 : decode cX4_addFour 28 = .ok (.aload_n 0, 1) := by decide +kernel
theorem dX4_addFour_29 : decode cX4_addFour 29 = .ok (.getfield 30, 3) := by decide +kernel
theorem dX4_addFour_32 : decode cX4_addFour 32 = .ok (.iload_n 1, 1) := by decide +kernel
theorem dX4_addFour_33 : decode cX4_addFour 33 = .ok (.iload_n 2, 1) := by decide +kernel
theorem dX4_addFour_34 : decode cX4_addFour 34 = .ok (.iushr, 1) := by decide +kernel
theorem dX4_addFour_35 : decode cX4_addFour 35 = .ok (.i2b, 1) := by decide +kernel
theorem dX4_addFour_36 : decode cX4_addFour 36 = .ok (.bastore, 1) := by decide +kernel
theorem dX4_addFour_37 : decode cX4_addFour 37 = .ok (.aload_n 0, 1) := by decide +kernel
theorem dX4_addFour_38 : decode cX4_addFour 38 = .ok (.dup, 1) := by decide +kernel
theorem dX4_addFour_39 : decode cX4_addFour 39 = .ok (.getfield 30, 3) := by decide +kernel
theorem dX4_addFour_42 : decode cX4_addFour 42 = .ok (.iconst 1, 1) := by decide +kernel
theorem dX4_addFour_43 : decode cX4_addFour 43 = .ok (.iadd, 1) := by decide +kernel
theorem dX4_addFour_44 : decode cX4_addFour 44 = .ok (.putfield 30, 3) := by decide +kernel
theorem dX4_addFour_47 : decode cX4_addFour 47 = .ok (.iinc 2 (-8), 3) := by decide +kernel
theorem dX4_addFour_50 : decode cX4_addFour 50 = .ok (.goto (-47), 3) := by decide +kernel
theorem dX4_addFour_53 : decode cX4_addFour 53 = .ok (.return_, 1) := by decide +kernel
theorem dX4_parse_0 : decode cX4_parse 0 = .ok (.aload_n 0, 1) := by decide +kernel
theorem dX4_parse_1 : decode cX4_parse 1 = .ok (.iconst 0, 1) := by decide +kernel
theorem dX4_parse_2 : decode cX4_parse 2 = .ok (.putfield 30, 3) := by decide +kernel
theorem dX4_parse_5 : decode cX4_parse 5 = .ok (.aload_n 0, 1) := by decide +kernel
theorem dX4_parse_6 : decode cX4_parse 6 = .ok (.iload_n 1, 1) := by decide +kernel
theorem dX4_parse_7 : decode cX4_parse 7 = .ok (.putfield 33, 3) := by decide +kernel
theorem dX4_parse_10 : decode cX4_parse 10 = .ok (.aload_n 0, 1) := by decide +kernel
theorem dX4_parse_11 : decode cX4_parse 11 = .ok (.iconst 0, 1) := by decide +kernel
theorem dX4_parse_12 : decode cX4_parse 12 = .ok (.putfield 36, 3) := by decide +kernel
theorem dX4_parse_15 : decode cX4_parse 15 = .ok (.aload_n 0, 1) := by decide +kernel
theorem dX4_parse_16 : decode cX4_parse 16 = .ok (.iconst 0, 1) := by decide +kernel
theorem dX4_parse_17 : decode cX4_parse 17 = .ok (.putfield 39, 3) := by decide +kernel
theorem dX4_parse_20 : decode cX4_parse 20 = .ok (.aload_n 0, 1) := by decide +kernel
theorem dX4_parse_21 : decode cX4_parse 21 = .ok (.iconst (-1), 1) := by decide +kernel
theorem dX4_parse_22 : decode cX4_parse 22 = .ok (.putfield 26, 3) := by decide +kernel
theorem dX4_parse_25 : decode cX4_parse 25 = .ok (.iconst 0, 1) := by decide +kernel
theorem dX4_parse_26 : decode cX4_parse 26 = .ok (.istore_n 3, 1) := by decide +kernel
theorem dX4_parse_27 : decode cX4_parse 27 = .ok (.iload_n 3, 1) := by decide +kernel
theorem dX4_parse_28 : decode cX4_parse 28 = .ok (.bipush 6, 2) := by decide +kernel
theorem dX4_parse_30 : decode cX4_parse 30 = .ok (.if_icmp .ge 16, 3) := by decide +kernel
theorem dX4_parse_33 : decode cX4_parse 33 = .ok (.aload_n 0, 1) := by decide +kernel
theorem dX4_parse_34 : decode cX4_parse 34 = .ok (.getfield 22, 3) := by decide +kernel
theorem dX4_parse_37 : decode cX4_parse 37 = .ok (.iload_n 3, 1) := by decide +kernel
theorem dX4_parse_38 : decode cX4_parse 38 = .ok (.iconst 0, 1) := by decide +kernel
theorem dX4_parse_39 : decode cX4_parse 39 = .ok (.bastore, 1) := by decide +kernel
theorem dX4_parse_40 : decode cX4_parse 40 = .ok (.iinc 3 1, 3) := by decide +kernel
theorem dX4_parse_43 : decode cX4_parse 43 = .ok (.goto (-16), 3) := by decide +kernel
theorem dX4_parse_46 : decode cX4_parse 46 = .ok (.aload_n 2, 1) := by decide +kernel
theorem dX4_parse_47 : decode cX4_parse 47 = .ok (.aload_n 0, 1) := by decide +kernel
theorem dX4_parse_48 : decode cX4_parse 48 = .ok (.getfield 18, 3) := by decide +kernel
theorem dX4_parse_51 : decode cX4_parse 51 = .ok (.invokevirtual 42, 3) := by decide +kernel
theorem dX4_parse_54 : decode cX4_parse 54 = .ok (.aload_n 0, 1) := by decide +kernel
theorem dX4_parse_55 : decode cX4_parse 55 = .ok (.invokevirtual 46, 3) := by decide +kernel
theorem dX4_parse_58 : decode cX4_parse 58 = .ok (.aload_n 0, 1) := by decide +kernel
theorem dX4_parse_59 : decode cX4_parse 59 = .ok (.aload_n 2, 1) := by decide +kernel
theorem dX4_parse_60 : decode cX4_parse 60 = .ok (.invokevirtual 49, 3) := by decide +kernel
theorem dX4_parse_63 : decode cX4_parse 63 = .ok (.iconst 0, 1) := by decide +kernel
theorem dX4_parse_64 : decode cX4_parse 64 = .ok (.istore_n 3, 1) := by decide +kernel
theorem dX4_parse_65 : decode cX4_parse 65 = .ok (.iload_n 3, 1) := by decide +kernel
theorem dX4_parse_66 : decode cX4_parse 66 = .ok (.iload_n 1, 1) := by decide +kernel
theorem dX4_parse_67 : decode cX4_parse 67 = .ok (.if_icmp .ge 28, 3) := by decide +kernel
theorem dX4_parse_70 : decode cX4_parse 70 = .ok (.aload_n 0, 1) := by decide +kernel
theorem dX4_parse_71 : decode cX4_parse 71 = .ok (.getfield 39, 3) := by decide +kernel
theorem dX4_parse_74 : decode cX4_parse 74 = .ok (.ifCond .ne 21, 3) := by decide +kernel
theorem dX4_parse_77 : decode cX4_parse 77 = .ok (.aload_n 0, 1) := by decide +kernel
theorem dX4_parse_78 : decode cX4_parse 78 = .ok (.getfield 52, 3) := by decide +kernel
theorem dX4_parse_81 : decode cX4_parse 81 = .ok (.ifCond .eq 14, 3) := by decide +kernel
theorem dX4_parse_84 : decode cX4_parse 84 = .ok (.aload_n 0, 1) := by decide +kernel
theorem dX4_parse_85 : decode cX4_parse 85 = .ok (.aload_n 2, 1) := by decide +kernel
theorem dX4_parse_86 : decode cX4_parse 86 = .ok (.invokevirtual 55, 3) := by decide +kernel
theorem dX4_parse_89 : decode cX4_parse 89 = .ok (.iinc 3 1, 3) := by decide +kernel
theorem dX4_parse_92 : decode cX4_parse 92 = .ok (.goto (-27), 3) := by decide +kernel
theorem dX4_parse_95 : decode cX4_parse 95 = .ok (.aload_n 2, 1) := by decide +kernel
theorem dX4_parse_96 : decode cX4_parse 96 = .ok (.getfield 58, 3) := by decide +kernel
theorem dX4_parse_99 : decode cX4_parse 99 = .ok (.ifCond .ne 9, 3) := by decide +kernel
theorem dX4_parse_102 : decode cX4_parse 102 = .ok (.aload_n 0, 1) := by decide +kernel
theorem dX4_parse_103 : decode cX4_parse 103 = .ok (.bipush 6, 2) := by decide +kernel
theorem dX4_parse_105 : decode cX4_parse 105 = .ok (.invokevirtual 61, 3) := by decide +kernel
theorem dX4_parse_108 : decode cX4_parse 108 = .ok (.return_, 1) := by decide +kernel
theorem dX4_readFirstLine_0 : decode cX4_readFirstLine 0 = .ok (.aload_n 0, 1) := by decide +kernel
theorem dX4_readFirstLine_1 : decode cX4_readFirstLine 1 = .ok (.ldc 65, 2) := by decide +kernel
theorem dX4_readFirstLine_3 : decode cX4_readFirstLine 3 = .ok (.invokevirtual 67, 3) := by decide +kernel
theorem dX4_readFirstLine_6 : decode cX4_readFirstLine 6 = .ok (.ifCond .ne 8, 3) := by decide +kernel
theorem dX4_readFirstLine_9 : decode cX4_readFirstLine 9 = .ok (.aload_n 0, 1) := by decide +kernel
theorem dX4_readFirstLine_10 : decode cX4_readFirstLine 10 = .ok (.iconst 1, 1) := by decide +kernel
theorem dX4_readFirstLine_11 : decode cX4_readFirstLine 11 = .ok (.invokevirtual 61, 3) := by decide +kernel
theorem dX4_readFirstLine_14 : decode cX4_readFirstLine 14 = .ok (.aload_n 0, 1) := by decide +kernel
theorem dX4_readFirstLine_15 : decode cX4_readFirstLine 15 = .ok (.invokevirtual 46, 3) := by decide +kernel
theorem dX4_readFirstLine_18 : decode cX4_readFirstLine 18 = .ok (.aload_n 1, 1) := by decide +kernel
theorem dX4_readFirstLine_19 : decode cX4_readFirstLine 19 = .ok (.aload_n 0, 1) := by decide +kernel
theorem dX4_readFirstLine_20 : decode cX4_readFirstLine 20 = .ok (.iconst 1, 1) := by decide +kernel
theorem dX4_readFirstLine_21 : decode cX4_readFirstLine 21 = .ok (.bipush 99, 2) := by decide +kernel
theorem dX4_readFirstLine_23 : decode cX4_readFirstLine 23 = .ok (.invokevirtual 71, 3) := by decide +kernel
theorem dX4_readFirstLine_26 : decode cX4_readFirstLine 26 = .ok (.putfield 75, 3) := by decide +kernel
theorem dX4_readFirstLine_29 : decode cX4_readFirstLine 29 = .ok (.aload_n 1, 1) := by decide +kernel
theorem dX4_readFirstLine_30 : decode cX4_readFirstLine 30 = .ok (.aload_n 0, 1) := by decide +kernel
theorem dX4_readFirstLine_31 : decode cX4_readFirstLine 31 = .ok (.iconst 1, 1) := by decide +kernel
theorem dX4_readFirstLine_32 : decode cX4_readFirstLine 32 = .ok (.bipush 9, 2) := by decide +kernel
theorem dX4_readFirstLine_34 : decode cX4_readFirstLine 34 = .ok (.invokevirtual 71, 3) := by decide +kernel
theorem dX4_readFirstLine_37 : decode cX4_readFirstLine 37 = .ok (.putfield 78, 3) := by decide +kernel
theorem dX4_readFirstLine_40 : decode cX4_readFirstLine 40 = .ok (.aload_n 1, 1) := by decide +kernel
theorem dX4_readFirstLine_41 : decode cX4_readFirstLine 41 = .ok (.aload_n 0, 1) := by decide +kernel
theorem dX4_readFirstLine_42 : decode cX4_readFirstLine 42 = .ok (.iconst 0, 1) := by decide +kernel
theorem dX4_readFirstLine_43 : decode cX4_readFirstLine 43 = .ok (.bipush 7, 2) := by decide +kernel
theorem dX4_readFirstLine_45 : decode cX4_readFirstLine 45 = .ok (.invokevirtual 71, 3) := by decide +kernel
theorem dX4_readFirstLine_48 : decode cX4_readFirstLine 48 = .ok (.putfield 81, 3) := by decide +kernel
theorem dX4_readFirstLine_51 : decode cX4_readFirstLine 51 = .ok (.aload_n 1, 1) := by decide +kernel
theorem dX4_readFirstLine_52 : decode cX4_readFirstLine 52 = .ok (.aload_n 0, 1) := by decide +kernel
theorem dX4_readFirstLine_53 : decode cX4_readFirstLine 53 = .ok (.iconst 0, 1) := by decide +kernel
theorem dX4_readFirstLine_54 : decode cX4_readFirstLine 54 = .ok (.bipush 99, 2) := by decide +kernel
theorem dX4_readFirstLine_56 : decode cX4_readFirstLine 56 = .ok (.invokevirtual 71, 3) := by decide +kernel
theorem dX4_readFirstLine_59 : decode cX4_readFirstLine 59 = .ok (.putfield 84, 3) := by decide +kernel
theorem dX4_readFirstLine_62 : decode cX4_readFirstLine 62 = .ok (.return_, 1) := by decide +kernel
theorem dX4_readLine_0 : decode cX4_readLine 0 = .ok (.aload_n 0, 1) := by decide +kernel
theorem dX4_readLine_1 : decode cX4_readLine 1 = .ok (.getfield 52, 3) := by decide +kernel
theorem dX4_readLine_4 : decode cX4_readLine 4 = .ok (.iconst 4, 1) := by decide +kernel
theorem dX4_readLine_5 : decode cX4_readLine 5 = .ok (.if_icmp .eq 9, 3) := by decide +kernel
theorem dX4_readLine_8 : decode cX4_readLine 8 = .ok (.aload_n 0, 1) := by decide +kernel
theorem dX4_readLine_9 : decode cX4_readLine 9 = .ok (.iconst 1, 1) := by decide +kernel
theorem dX4_readLine_10 : decode cX4_readLine 10 = .ok (.invokevirtual 61, 3) := by decide +kernel
theorem dX4_readLine_13 : decode cX4_readLine 13 = .ok (.return_, 1) := by decide +kernel
theorem dX4_readLine_14 : decode cX4_readLine 14 = .ok (.aload_n 0, 1) := by decide +kernel
theorem dX4_readLine_15 : decode cX4_readLine 15 = .ok (.invokevirtual 46, 3) := by decide +kernel
theorem dX4_readLine_18 : decode cX4_readLine 18 = .ok (.aload_n 0, 1) := by decide +kernel
theorem dX4_readLine_19 : decode cX4_readLine 19 = .ok (.ldc 87, 2) := by decide +kernel
theorem dX4_readLine_21 : decode cX4_readLine 21 = .ok (.invokevirtual 67, 3) := by decide +kernel
theorem dX4_readLine_24 : decode cX4_readLine 24 = .ok (.ifCond .eq 11, 3) := by decide +kernel
theorem dX4_readLine_27 : decode cX4_readLine 27 = .ok (.aload_n 0, 1) := by decide +kernel
theorem dX4_readLine_28 : decode cX4_readLine 28 = .ok (.aload_n 1, 1) := by decide +kernel
theorem dX4_readLine_29 : decode cX4_readLine 29 = .ok (.invokevirtual 89, 3) := by decide +kernel
theorem dX4_readLine_32 : decode cX4_readLine 32 = .ok (.goto 42, 3) := by decide +kernel
theorem dX4_readLine_35 : decode cX4_readLine 35 = .ok (.aload_n 0, 1) := by decide +kernel
theorem dX4_readLine_36 : decode cX4_readLine 36 = .ok (.ldc 92, 2) := by decide +kernel
theorem dX4_readLine_38 : decode cX4_readLine 38 = .ok (.invokevirtual 67, 3) := by decide +kernel
theorem dX4_readLine_41 : decode cX4_readLine 41 = .ok (.ifCond .eq 11, 3) := by decide +kernel
theorem dX4_readLine_44 : decode cX4_readLine 44 = .ok (.aload_n 0, 1) := by decide +kernel
theorem dX4_readLine_45 : decode cX4_readLine 45 = .ok (.aload_n 1, 1) := by decide +kernel
theorem dX4_readLine_46 : decode cX4_readLine 46 = .ok (.invokevirtual 94, 3) := by decide +kernel
theorem dX4_readLine_49 : decode cX4_readLine 49 = .ok (.goto 25, 3) := by decide +kernel
theorem dX4_readLine_52 : decode cX4_readLine 52 = .ok (.aload_n 0, 1) := by decide +kernel
theorem dX4_readLine_53 : decode cX4_readLine 53 = .ok (.ldc 97, 2) := by decide +kernel
theorem dX4_readLine_55 : decode cX4_readLine 55 = .ok (.invokevirtual 67, 3) := by decide +kernel
theorem dX4_readLine_58 : decode cX4_readLine 58 = .ok (.ifCond .eq 11, 3) := by decide +kernel
theorem dX4_readLine_61 : decode cX4_readLine 61 = .ok (.aload_n 0, 1) := by decide +kernel
theorem dX4_readLine_62 : decode cX4_readLine 62 = .ok (.aload_n 1, 1) := by decide +kernel
theorem dX4_readLine_63 : decode cX4_readLine 63 = .ok (.invokevirtual 99, 3) := by decide +kernel
theorem dX4_readLine_66 : decode cX4_readLine 66 = .ok (.goto 8, 3) := by decide +kernel
theorem dX4_readLine_69 : decode cX4_readLine 69 = .ok (.aload_n 0, 1) := by decide +kernel
theorem dX4_readLine_70 : decode cX4_readLine 70 = .ok (.iconst 1, 1) := by decide +kernel
theorem dX4_readLine_71 : decode cX4_readLine 71 = .ok (.invokevirtual 61, 3) := by decide +kernel
theorem dX4_readLine_74 : decode cX4_readLine 74 = .ok (.return_, 1) := by decide +kernel
theorem dX4_readSlotLine_0 : decode cX4_readSlotLine 0 = .ok (.aload_n 1, 1) := by decide +kernel
theorem dX4_readSlotLine_1 : decode cX4_readSlotLine 1 = .ok (.getfield 58, 3) := by decide +kernel
theorem dX4_readSlotLine_4 : decode cX4_readSlotLine 4 = .ok (.bipush 6, 2) := by decide +kernel
theorem dX4_readSlotLine_6 : decode cX4_readSlotLine 6 = .ok (.if_icmp .lt 9, 3) := by decide +kernel
theorem dX4_readSlotLine_9 : decode cX4_readSlotLine 9 = .ok (.aload_n 0, 1) := by decide +kernel
theorem dX4_readSlotLine_10 : decode cX4_readSlotLine 10 = .ok (.iconst 5, 1) := by decide +kernel
theorem dX4_readSlotLine_11 : decode cX4_readSlotLine 11 = .ok (.invokevirtual 61, 3) := by decide +kernel
theorem dX4_readSlotLine_14 : decode cX4_readSlotLine 14 = .ok (.return_, 1) := by decide +kernel
theorem dX4_readSlotLine_15 : decode cX4_readSlotLine 15 = .ok (.aload_n 1, 1) := by decide +kernel
theorem dX4_readSlotLine_16 : decode cX4_readSlotLine 16 = .ok (.dup, 1) := by decide +kernel
theorem dX4_readSlotLine_17 : decode cX4_readSlotLine 17 = .ok (.getfield 58, 3) := by decide +kernel
theorem dX4_readSlotLine_20 : decode cX4_readSlotLine 20 = .ok (.iconst 1, 1) := by decide +kernel
theorem dX4_readSlotLine_21 : decode cX4_readSlotLine 21 = .ok (.iadd, 1) := by decide +kernel
theorem dX4_readSlotLine_22 : decode cX4_readSlotLine 22 = .ok (.putfield 58, 3) := by decide +kernel
theorem dX4_readSlotLine_25 : decode cX4_readSlotLine 25 = .ok (.aload_n 0, 1) := by decide +kernel
theorem dX4_readSlotLine_26 : decode cX4_readSlotLine 26 = .ok (.invokevirtual 46, 3) := by decide +kernel
theorem dX4_readSlotLine_29 : decode cX4_readSlotLine 29 = .ok (.return_, 1) := by decide +kernel
theorem dX4_readImageLine_0 : decode cX4_readImageLine 0 = .ok (.aload_n 0, 1) := by decide +kernel
theorem dX4_readImageLine_1 : decode cX4_readImageLine 1 = .ok (.invokevirtual 46, 3) := by decide +kernel
theorem dX4_readImageLine_4 : decode cX4_readImageLine 4 = .ok (.aload_n 0, 1) := by decide +kernel
theorem dX4_readImageLine_5 : decode cX4_readImageLine 5 = .ok (.iconst 0, 1) := by decide +kernel
theorem dX4_readImageLine_6 : decode cX4_readImageLine 6 = .ok (.aload_n 1, 1) := by decide +kernel
theorem dX4_readImageLine_7 : decode cX4_readImageLine 7 = .ok (.getfield 58, 3) := by decide +kernel
theorem dX4_readImageLine_10 : decode cX4_readImageLine 10 = .ok (.iconst 1, 1) := by decide +kernel
theorem dX4_readImageLine_11 : decode cX4_readImageLine 11 = .ok (.isub, 1) := by decide +kernel
theorem dX4_readImageLine_12 : decode cX4_readImageLine 12 = .ok (.invokevirtual 102, 3) := by decide +kernel
theorem dX4_readImageLine_15 : decode cX4_readImageLine 15 = .ok (.istore_n 2, 1) := by decide +kernel
theorem dX4_readImageLine_16 : decode cX4_readImageLine 16 = .ok (.iload_n 2, 1) := by decide +kernel
theorem dX4_readImageLine_17 : decode cX4_readImageLine 17 = .ok (.ifCond .lt 9, 3) := by decide +kernel
theorem dX4_readImageLine_20 : decode cX4_readImageLine 20 = .ok (.iload_n 2, 1) := by decide +kernel
theorem dX4_readImageLine_21 : decode cX4_readImageLine 21 = .ok (.bipush 6, 2) := by decide +kernel
theorem dX4_readImageLine_23 : decode cX4_readImageLine 23 = .ok (.if_icmp .lt 4, 3) := by decide +kernel
theorem dX4_readImageLine_26 : decode cX4_readImageLine 26 = .ok (.return_, 1) := by decide +kernel
theorem dX4_readImageLine_27 : decode cX4_readImageLine 27 = .ok (.aload_n 1, 1) := by decide +kernel
theorem dX4_readImageLine_28 : decode cX4_readImageLine 28 = .ok (.getfield 105, 3) := by decide +kernel
theorem dX4_readImageLine_31 : decode cX4_readImageLine 31 = .ok (.iload_n 2, 1) := by decide +kernel
theorem dX4_readImageLine_32 : decode cX4_readImageLine 32 = .ok (.aaload, 1) := by decide +kernel
theorem dX4_readImageLine_33 : decode cX4_readImageLine 33 = .ok (.astore_n 3, 1) := by decide +kernel
theorem dX4_readImageLine_34 : decode cX4_readImageLine 34 = .ok (.aload_n 3, 1) := by decide +kernel
theorem dX4_readImageLine_35 : decode cX4_readImageLine 35 = .ok (.getfield 109, 3) := by decide +kernel
theorem dX4_readImageLine_38 : decode cX4_readImageLine 38 = .ok (.getfield 114, 3) := by decide +kernel
theorem dX4_readImageLine_41 : decode cX4_readImageLine 41 = .ok (.ifCond .eq 8, 3) := by decide +kernel
theorem dX4_readImageLine_44 : decode cX4_readImageLine 44 = .ok (.aload_n 0, 1) := by decide +kernel
theorem dX4_readImageLine_45 : decode cX4_readImageLine 45 = .ok (.iconst 3, 1) := by decide +kernel
theorem dX4_readImageLine_46 : decode cX4_readImageLine 46 = .ok (.invokevirtual 61, 3) := by decide +kernel
theorem dX4_readImageLine_49 : decode cX4_readImageLine 49 = .ok (.aload_n 0, 1) := by decide +kernel
theorem dX4_readImageLine_50 : decode cX4_readImageLine 50 = .ok (.invokevirtual 46, 3) := by decide +kernel
theorem dX4_readImageLine_53 : decode cX4_readImageLine 53 = .ok (.aload_n 0, 1) := by decide +kernel
theorem dX4_readImageLine_54 : decode cX4_readImageLine 54 = .ok (.iconst 0, 1) := by decide +kernel
theorem dX4_readImageLine_55 : decode cX4_readImageLine 55 = .ok (.bipush 99, 2) := by decide +kernel
theorem dX4_readImageLine_57 : decode cX4_readImageLine 57 = .ok (.invokevirtual 71, 3) := by decide +kernel
theorem dX4_readImageLine_60 : decode cX4_readImageLine 60 = .ok (.istore 4, 2) := by decide +kernel
theorem dX4_readImageLine_62 : decode cX4_readImageLine 62 = .ok (.aload_n 0, 1) := by decide +kernel
theorem dX4_readImageLine_63 : decode cX4_readImageLine 63 = .ok (.iconst 1, 1) := by decide +kernel
theorem dX4_readImageLine_64 : decode cX4_readImageLine 64 = .ok (.bipush 99, 2) := by decide +kernel
theorem dX4_readImageLine_66 : decode cX4_readImageLine 66 = .ok (.invokevirtual 71, 3) := by decide +kernel
theorem dX4_readImageLine_69 : decode cX4_readImageLine 69 = .ok (.istore 5, 2) := by decide +kernel
theorem dX4_readImageLine_71 : decode cX4_readImageLine 71 = .ok (.aload_n 0, 1) := by decide +kernel
theorem dX4_readImageLine_72 : decode cX4_readImageLine 72 = .ok (.iconst 0, 1) := by decide +kernel
theorem dX4_readImageLine_73 : decode cX4_readImageLine 73 = .ok (.bipush 99, 2) := by decide +kernel
theorem dX4_readImageLine_75 : decode cX4_readImageLine 75 = .ok (.invokevirtual 71, 3) := by decide +kernel
theorem dX4_readImageLine_78 : decode cX4_readImageLine 78 = .ok (.istore 6, 2) := by decide +kernel
theorem dX4_readImageLine_80 : decode cX4_readImageLine 80 = .ok (.aload_n 3, 1) := by decide +kernel
theorem dX4_readImageLine_81 : decode cX4_readImageLine 81 = .ok (.getfield 109, 3) := by decide +kernel
theorem dX4_readImageLine_84 : decode cX4_readImageLine 84 = .ok (.iload 4, 2) := by decide +kernel
theorem dX4_readImageLine_86 : decode cX4_readImageLine 86 = .ok (.iload 5, 2) := by decide +kernel
theorem dX4_readImageLine_88 : decode cX4_readImageLine 88 = .ok (.iload 6, 2) := by decide +kernel
theorem dX4_readImageLine_90 : decode cX4_readImageLine 90 = .ok (.invokevirtual 120, 3) := by decide +kernel
theorem dX4_readImageLine_93 : decode cX4_readImageLine 93 = .ok (.aload_n 3, 1) := by decide +kernel
theorem dX4_readImageLine_94 : decode cX4_readImageLine 94 = .ok (.getfield 109, 3) := by decide +kernel
theorem dX4_readImageLine_97 : decode cX4_readImageLine 97 = .ok (.aload_n 0, 1) := by decide +kernel
theorem dX4_readImageLine_98 : decode cX4_readImageLine 98 = .ok (.ldc 124, 2) := by decide +kernel
theorem dX4_readImageLine_100 : decode cX4_readImageLine 100 = .ok (.invokevirtual 126, 3) := by decide +kernel
theorem dX4_readImageLine_103 : decode cX4_readImageLine 103 = .ok (.putfield 129, 3) := by decide +kernel
theorem dX4_readImageLine_106 : decode cX4_readImageLine 106 = .ok (.aload_n 3, 1) := by decide +kernel
theorem dX4_readImageLine_107 : decode cX4_readImageLine 107 = .ok (.getfield 109, 3) := by decide +kernel
theorem dX4_readImageLine_110 : decode cX4_readImageLine 110 = .ok (.aload_n 0, 1) := by decide +kernel
theorem dX4_readImageLine_111 : decode cX4_readImageLine 111 = .ok (.ldc 131, 2) := by decide +kernel
theorem dX4_readImageLine_113 : decode cX4_readImageLine 113 = .ok (.invokevirtual 126, 3) := by decide +kernel
theorem dX4_readImageLine_116 : decode cX4_readImageLine 116 = .ok (.putfield 133, 3) := by decide +kernel
theorem dX4_readImageLine_119 : decode cX4_readImageLine 119 = .ok (.aload_n 3, 1) := by decide +kernel
theorem dX4_readImageLine_120 : decode cX4_readImageLine 120 = .ok (.iconst 1, 1) := by decide +kernel
theorem dX4_readImageLine_121 : decode cX4_readImageLine 121 = .ok (.iconst 1, 1) := by decide +kernel
theorem dX4_readImageLine_122 : decode cX4_readImageLine 122 = .ok (.iconst 0, 1) := by decide +kernel
theorem dX4_readImageLine_123 : decode cX4_readImageLine 123 = .ok (.invokevirtual 135, 3) := by decide +kernel
theorem dX4_readImageLine_126 : decode cX4_readImageLine 126 = .ok (.return_, 1) := by decide +kernel
theorem dX4_readMarkLine_0 : decode cX4_readMarkLine 0 = .ok (.aload_n 0, 1) := by decide +kernel
theorem dX4_readMarkLine_1 : decode cX4_readMarkLine 1 = .ok (.invokevirtual 46, 3) := by decide +kernel
theorem dX4_readMarkLine_4 : decode cX4_readMarkLine 4 = .ok (.aload_n 0, 1) := by decide +kernel
theorem dX4_readMarkLine_5 : decode cX4_readMarkLine 5 = .ok (.iconst 0, 1) := by decide +kernel
theorem dX4_readMarkLine_6 : decode cX4_readMarkLine 6 = .ok (.aload_n 1, 1) := by decide +kernel
theorem dX4_readMarkLine_7 : decode cX4_readMarkLine 7 = .ok (.getfield 58, 3) := by decide +kernel
theorem dX4_readMarkLine_10 : decode cX4_readMarkLine 10 = .ok (.iconst 1, 1) := by decide +kernel
theorem dX4_readMarkLine_11 : decode cX4_readMarkLine 11 = .ok (.isub, 1) := by decide +kernel
theorem dX4_readMarkLine_12 : decode cX4_readMarkLine 12 = .ok (.invokevirtual 102, 3) := by decide +kernel
theorem dX4_readMarkLine_15 : decode cX4_readMarkLine 15 = .ok (.istore_n 2, 1) := by decide +kernel
theorem dX4_readMarkLine_16 : decode cX4_readMarkLine 16 = .ok (.iload_n 2, 1) := by decide +kernel
theorem dX4_readMarkLine_17 : decode cX4_readMarkLine 17 = .ok (.ifCond .lt 9, 3) := by decide +kernel
theorem dX4_readMarkLine_20 : decode cX4_readMarkLine 20 = .ok (.iload_n 2, 1) := by decide +kernel
theorem dX4_readMarkLine_21 : decode cX4_readMarkLine 21 = .ok (.bipush 6, 2) := by decide +kernel
theorem dX4_readMarkLine_23 : decode cX4_readMarkLine 23 = .ok (.if_icmp .lt 4, 3) := by decide +kernel
theorem dX4_readMarkLine_26 : decode cX4_readMarkLine 26 = .ok (.return_, 1) := by decide +kernel
theorem dX4_readMarkLine_27 : decode cX4_readMarkLine 27 = .ok (.aload_n 1, 1) := by decide +kernel
theorem dX4_readMarkLine_28 : decode cX4_readMarkLine 28 = .ok (.getfield 105, 3) := by decide +kernel
theorem dX4_readMarkLine_31 : decode cX4_readMarkLine 31 = .ok (.iload_n 2, 1) := by decide +kernel
theorem dX4_readMarkLine_32 : decode cX4_readMarkLine 32 = .ok (.aaload, 1) := by decide +kernel
theorem dX4_readMarkLine_33 : decode cX4_readMarkLine 33 = .ok (.astore_n 3, 1) := by decide +kernel
theorem dX4_readMarkLine_34 : decode cX4_readMarkLine 34 = .ok (.aload_n 0, 1) := by decide +kernel
theorem dX4_readMarkLine_35 : decode cX4_readMarkLine 35 = .ok (.getfield 22, 3) := by decide +kernel
theorem dX4_readMarkLine_38 : decode cX4_readMarkLine 38 = .ok (.iload_n 2, 1) := by decide +kernel
theorem dX4_readMarkLine_39 : decode cX4_readMarkLine 39 = .ok (.baload, 1) := by decide +kernel
theorem dX4_readMarkLine_40 : decode cX4_readMarkLine 40 = .ok (.ifCond .eq 8, 3) := by decide +kernel
theorem dX4_readMarkLine_43 : decode cX4_readMarkLine 43 = .ok (.aload_n 0, 1) := by decide +kernel
theorem dX4_readMarkLine_44 : decode cX4_readMarkLine 44 = .ok (.iconst 3, 1) := by decide +kernel
theorem dX4_readMarkLine_45 : decode cX4_readMarkLine 45 = .ok (.invokevirtual 61, 3) := by decide +kernel
theorem dX4_readMarkLine_48 : decode cX4_readMarkLine 48 = .ok (.aload_n 3, 1) := by decide +kernel
theorem dX4_readMarkLine_49 : decode cX4_readMarkLine 49 = .ok (.getfield 109, 3) := by decide +kernel
theorem dX4_readMarkLine_52 : decode cX4_readMarkLine 52 = .ok (.getfield 114, 3) := by decide +kernel
theorem dX4_readMarkLine_55 : decode cX4_readMarkLine 55 = .ok (.ifCond .ne 8, 3) := by decide +kernel
theorem dX4_readMarkLine_58 : decode cX4_readMarkLine 58 = .ok (.aload_n 0, 1) := by decide +kernel
theorem dX4_readMarkLine_59 : decode cX4_readMarkLine 59 = .ok (.iconst 4, 1) := by decide +kernel
theorem dX4_readMarkLine_60 : decode cX4_readMarkLine 60 = .ok (.invokevirtual 61, 3) := by decide +kernel
theorem dX4_readMarkLine_63 : decode cX4_readMarkLine 63 = .ok (.aload_n 0, 1) := by decide +kernel
theorem dX4_readMarkLine_64 : decode cX4_readMarkLine 64 = .ok (.getfield 22, 3) := by decide +kernel
theorem dX4_readMarkLine_67 : decode cX4_readMarkLine 67 = .ok (.iload_n 2, 1) := by decide +kernel
theorem dX4_readMarkLine_68 : decode cX4_readMarkLine 68 = .ok (.iconst 1, 1) := by decide +kernel
theorem dX4_readMarkLine_69 : decode cX4_readMarkLine 69 = .ok (.bastore, 1) := by decide +kernel
theorem dX4_readMarkLine_70 : decode cX4_readMarkLine 70 = .ok (.aload_n 0, 1) := by decide +kernel
theorem dX4_readMarkLine_71 : decode cX4_readMarkLine 71 = .ok (.invokevirtual 46, 3) := by decide +kernel
theorem dX4_readMarkLine_74 : decode cX4_readMarkLine 74 = .ok (.aload_n 0, 1) := by decide +kernel
theorem dX4_readMarkLine_75 : decode cX4_readMarkLine 75 = .ok (.iconst 0, 1) := by decide +kernel
theorem dX4_readMarkLine_76 : decode cX4_readMarkLine 76 = .ok (.bipush 15, 2) := by decide +kernel
theorem dX4_readMarkLine_78 : decode cX4_readMarkLine 78 = .ok (.invokevirtual 71, 3) := by decide +kernel
theorem dX4_readMarkLine_81 : decode cX4_readMarkLine 81 = .ok (.istore 4, 2) := by decide +kernel
theorem dX4_readMarkLine_83 : decode cX4_readMarkLine 83 = .ok (.aload_n 0, 1) := by decide +kernel
theorem dX4_readMarkLine_84 : decode cX4_readMarkLine 84 = .ok (.iconst 0, 1) := by decide +kernel
theorem dX4_readMarkLine_85 : decode cX4_readMarkLine 85 = .ok (.bipush 7, 2) := by decide +kernel
theorem dX4_readMarkLine_87 : decode cX4_readMarkLine 87 = .ok (.invokevirtual 71, 3) := by decide +kernel
theorem dX4_readMarkLine_90 : decode cX4_readMarkLine 90 = .ok (.istore 5, 2) := by decide +kernel
theorem dX4_readMarkLine_92 : decode cX4_readMarkLine 92 = .ok (.aload_n 3, 1) := by decide +kernel
theorem dX4_readMarkLine_93 : decode cX4_readMarkLine 93 = .ok (.iload 4, 2) := by decide +kernel
theorem dX4_readMarkLine_95 : decode cX4_readMarkLine 95 = .ok (.iload 5, 2) := by decide +kernel
theorem dX4_readMarkLine_97 : decode cX4_readMarkLine 97 = .ok (.aload_n 0, 1) := by decide +kernel
theorem dX4_readMarkLine_98 : decode cX4_readMarkLine 98 = .ok (.ldc 139, 2) := by decide +kernel
theorem dX4_readMarkLine_100 : decode cX4_readMarkLine 100 = .ok (.invokevirtual 126, 3) := by decide +kernel
theorem dX4_readMarkLine_103 : decode cX4_readMarkLine 103 = .ok (.invokevirtual 135, 3) := by decide +kernel
theorem dX4_readMarkLine_106 : decode cX4_readMarkLine 106 = .ok (.return_, 1) := by decide +kernel
theorem dX4_fail_0 : decode cX4_fail 0 = .ok (.aload_n 0, 1) := by decide +kernel
theorem dX4_fail_1 : decode cX4_fail 1 = .ok (.getfield 39, 3) := by decide +kernel
theorem dX4_fail_4 : decode cX4_fail 4 = .ok (.ifCond .ne 16, 3) := by decide +kernel
theorem dX4_fail_7 : decode cX4_fail 7 = .ok (.aload_n 0, 1) := by decide +kernel
theorem dX4_fail_8 : decode cX4_fail 8 = .ok (.iload_n 1, 1) := by decide +kernel
theorem dX4_fail_9 : decode cX4_fail 9 = .ok (.putfield 39, 3) := by decide +kernel
theorem dX4_fail_12 : decode cX4_fail 12 = .ok (.aload_n 0, 1) := by decide +kernel
theorem dX4_fail_13 : decode cX4_fail 13 = .ok (.aload_n 0, 1) := by decide +kernel
theorem dX4_fail_14 : decode cX4_fail 14 = .ok (.getfield 141, 3) := by decide +kernel
theorem dX4_fail_17 : decode cX4_fail 17 = .ok (.putfield 26, 3) := by decide +kernel
theorem dX4_fail_20 : decode cX4_fail 20 = .ok (.return_, 1) := by decide +kernel
theorem dX4_takeIfWord_0 : decode cX4_takeIfWord 0 = .ok (.aload_n 0, 1) := by decide +kernel
theorem dX4_takeIfWord_1 : decode cX4_takeIfWord 1 = .ok (.aload_n 1, 1) := by decide +kernel
theorem dX4_takeIfWord_2 : decode cX4_takeIfWord 2 = .ok (.invokevirtual 67, 3) := by decide +kernel
theorem dX4_takeIfWord_5 : decode cX4_takeIfWord 5 = .ok (.istore_n 2, 1) := by decide +kernel
theorem dX4_takeIfWord_6 : decode cX4_takeIfWord 6 = .ok (.iload_n 2, 1) := by decide +kernel
theorem dX4_takeIfWord_7 : decode cX4_takeIfWord 7 = .ok (.ifCond .eq 7, 3) := by decide +kernel
theorem dX4_takeIfWord_10 : decode cX4_takeIfWord 10 = .ok (.aload_n 0, 1) := by decide +kernel
theorem dX4_takeIfWord_11 : decode cX4_takeIfWord 11 = .ok (.invokevirtual 46, 3) := by decide +kernel
theorem dX4_takeIfWord_14 : decode cX4_takeIfWord 14 = .ok (.iload_n 2, 1) := by decide +kernel
theorem dX4_takeIfWord_15 : decode cX4_takeIfWord 15 = .ok (.ireturn, 1) := by decide +kernel
theorem dX4_takeNumber_0 : decode cX4_takeNumber 0 = .ok (.aload_n 0, 1) := by decide +kernel
theorem dX4_takeNumber_1 : decode cX4_takeNumber 1 = .ok (.iload_n 1, 1) := by decide +kernel
theorem dX4_takeNumber_2 : decode cX4_takeNumber 2 = .ok (.iload_n 2, 1) := by decide +kernel
theorem dX4_takeNumber_3 : decode cX4_takeNumber 3 = .ok (.invokevirtual 102, 3) := by decide +kernel
theorem dX4_takeNumber_6 : decode cX4_takeNumber 6 = .ok (.istore_n 3, 1) := by decide +kernel
theorem dX4_takeNumber_7 : decode cX4_takeNumber 7 = .ok (.aload_n 0, 1) := by decide +kernel
theorem dX4_takeNumber_8 : decode cX4_takeNumber 8 = .ok (.invokevirtual 46, 3) := by decide +kernel
theorem dX4_takeNumber_11 : decode cX4_takeNumber 11 = .ok (.iload_n 3, 1) := by decide +kernel
theorem dX4_takeNumber_12 : decode cX4_takeNumber 12 = .ok (.ireturn, 1) := by decide +kernel
theorem dX4_numberWithin_0 : decode cX4_numberWithin 0 = .ok (.aload_n 0, 1) := by decide +kernel
theorem dX4_numberWithin_1 : decode cX4_numberWithin 1 = .ok (.getfield 52, 3) := by decide +kernel
theorem dX4_numberWithin_4 : decode cX4_numberWithin 4 = .ok (.iconst 3, 1) := by decide +kernel
theorem dX4_numberWithin_5 : decode cX4_numberWithin 5 = .ok (.if_icmp .eq 10, 3) := by decide +kernel
theorem dX4_numberWithin_8 : decode cX4_numberWithin 8 = .ok (.aload_n 0, 1) := by decide +kernel
theorem dX4_numberWithin_9 : decode cX4_numberWithin 9 = .ok (.iconst 1, 1) := by decide +kernel
theorem dX4_numberWithin_10 : decode cX4_numberWithin 10 = .ok (.invokevirtual 61, 3) := by decide +kernel
theorem dX4_numberWithin_13 : decode cX4_numberWithin 13 = .ok (.iconst (-1), 1) := by decide +kernel
theorem dX4_numberWithin_14 : decode cX4_numberWithin 14 = .ok (.ireturn, 1) := by decide +kernel
theorem dX4_numberWithin_15 : decode cX4_numberWithin 15 = .ok (.iconst 0, 1) := by decide +kernel
theorem dX4_numberWithin_16 : decode cX4_numberWithin 16 = .ok (.istore_n 3, 1) := by decide +kernel
theorem dX4_numberWithin_17 : decode cX4_numberWithin 17 = .ok (.aload_n 0, 1) := by decide +kernel
theorem dX4_numberWithin_18 : decode cX4_numberWithin 18 = .ok (.getfield 141, 3) := by decide +kernel
theorem dX4_numberWithin_21 : decode cX4_numberWithin 21 = .ok (.istore 4, 2) := by decide +kernel
theorem dX4_numberWithin_23 : decode cX4_numberWithin 23 = .ok (.iload 4, 2) := by decide +kernel
theorem dX4_numberWithin_25 : decode cX4_numberWithin 25 = .ok (.aload_n 0, 1) := by decide +kernel
theorem dX4_numberWithin_26 : decode cX4_numberWithin 26 = .ok (.getfield 36, 3) := by decide +kernel
theorem dX4_numberWithin_29 : decode cX4_numberWithin 29 = .ok (.if_icmp .ge 24, 3) := by decide +kernel
theorem dX4_numberWithin_32 : decode cX4_numberWithin 32 = .ok (.iload_n 3, 1) := by decide +kernel
theorem dX4_numberWithin_33 : decode cX4_numberWithin 33 = .ok (.bipush 10, 2) := by decide +kernel
theorem dX4_numberWithin_35 : decode cX4_numberWithin 35 = .ok (.imul, 1) := by decide +kernel
theorem dX4_numberWithin_36 : decode cX4_numberWithin 36 = .ok (.aload_n 0, 1) := by decide +kernel
theorem dX4_numberWithin_37 : decode cX4_numberWithin 37 = .ok (.iload 4, 2) := by decide +kernel
theorem dX4_numberWithin_39 : decode cX4_numberWithin 39 = .ok (.invokevirtual 144, 3) := by decide +kernel
theorem dX4_numberWithin_42 : decode cX4_numberWithin 42 = .ok (.iadd, 1) := by decide +kernel
theorem dX4_numberWithin_43 : decode cX4_numberWithin 43 = .ok (.bipush 48, 2) := by decide +kernel
theorem dX4_numberWithin_45 : decode cX4_numberWithin 45 = .ok (.isub, 1) := by decide +kernel
theorem dX4_numberWithin_46 : decode cX4_numberWithin 46 = .ok (.istore_n 3, 1) := by decide +kernel
theorem dX4_numberWithin_47 : decode cX4_numberWithin 47 = .ok (.iinc 4 1, 3) := by decide +kernel
theorem dX4_numberWithin_50 : decode cX4_numberWithin 50 = .ok (.goto (-27), 3) := by decide +kernel
theorem dX4_numberWithin_53 : decode cX4_numberWithin 53 = .ok (.iload_n 3, 1) := by decide +kernel
theorem dX4_numberWithin_54 : decode cX4_numberWithin 54 = .ok (.iload_n 1, 1) := by decide +kernel
theorem dX4_numberWithin_55 : decode cX4_numberWithin 55 = .ok (.if_icmp .lt 8, 3) := by decide +kernel
theorem dX4_numberWithin_58 : decode cX4_numberWithin 58 = .ok (.iload_n 3, 1) := by decide +kernel
theorem dX4_numberWithin_59 : decode cX4_numberWithin 59 = .ok (.iload_n 2, 1) := by decide +kernel
theorem dX4_numberWithin_60 : decode cX4_numberWithin 60 = .ok (.if_icmp .le 10, 3) := by decide +kernel
theorem dX4_numberWithin_63 : decode cX4_numberWithin 63 = .ok (.aload_n 0, 1) := by decide +kernel
theorem dX4_numberWithin_64 : decode cX4_numberWithin 64 = .ok (.iconst 2, 1) := by decide +kernel
theorem dX4_numberWithin_65 : decode cX4_numberWithin 65 = .ok (.invokevirtual 61, 3) := by decide +kernel
theorem dX4_numberWithin_68 : decode cX4_numberWithin 68 = .ok (.iconst (-1), 1) := by decide +kernel
theorem dX4_numberWithin_69 : decode cX4_numberWithin 69 = .ok (.ireturn, 1) := by decide +kernel
theorem dX4_numberWithin_70 : decode cX4_numberWithin 70 = .ok (.iload_n 3, 1) := by decide +kernel
theorem dX4_numberWithin_71 : decode cX4_numberWithin 71 = .ok (.ireturn, 1) := by decide +kernel
theorem dX4_isWord_0 : decode cX4_isWord 0 = .ok (.aload_n 0, 1) := by decide +kernel
theorem dX4_isWord_1 : decode cX4_isWord 1 = .ok (.getfield 52, 3) := by decide +kernel
theorem dX4_isWord_4 : decode cX4_isWord 4 = .ok (.iconst 2, 1) := by decide +kernel
theorem dX4_isWord_5 : decode cX4_isWord 5 = .ok (.if_icmp .ne 19, 3) := by decide +kernel
theorem dX4_isWord_8 : decode cX4_isWord 8 = .ok (.aload_n 0, 1) := by decide +kernel
theorem dX4_isWord_9 : decode cX4_isWord 9 = .ok (.getfield 36, 3) := by decide +kernel
theorem dX4_isWord_12 : decode cX4_isWord 12 = .ok (.aload_n 0, 1) := by decide +kernel
theorem dX4_isWord_13 : decode cX4_isWord 13 = .ok (.getfield 141, 3) := by decide +kernel
theorem dX4_isWord_16 : decode cX4_isWord 16 = .ok (.isub, 1) := by decide +kernel
theorem dX4_isWord_17 : decode cX4_isWord 17 = .ok (.aload_n 1, 1) := by decide +kernel
theorem dX4_isWord_18 : decode cX4_isWord 18 = .ok (.invokevirtual 148, 3) := by decide +kernel
theorem dX4_isWord_21 : decode cX4_isWord 21 = .ok (.if_icmp .eq 5, 3) := by decide +kernel
theorem dX4_isWord_24 : decode cX4_isWord 24 = .ok (.iconst 0, 1) := by decide +kernel
theorem dX4_isWord_25 : decode cX4_isWord 25 = .ok (.ireturn, 1) := by decide +kernel
theorem dX4_isWord_26 : decode cX4_isWord 26 = .ok (.iconst 0, 1) := by decide +kernel
theorem dX4_isWord_27 : decode cX4_isWord 27 = .ok (.istore_n 2, 1) := by decide +kernel
theorem dX4_isWord_28 : decode cX4_isWord 28 = .ok (.iload_n 2, 1) := by decide +kernel
theorem dX4_isWord_29 : decode cX4_isWord 29 = .ok (.aload_n 1, 1) := by decide +kernel
theorem dX4_isWord_30 : decode cX4_isWord 30 = .ok (.invokevirtual 148, 3) := by decide +kernel
theorem dX4_isWord_33 : decode cX4_isWord 33 = .ok (.if_icmp .ge 29, 3) := by decide +kernel
theorem dX4_isWord_36 : decode cX4_isWord 36 = .ok (.aload_n 0, 1) := by decide +kernel
theorem dX4_isWord_37 : decode cX4_isWord 37 = .ok (.aload_n 0, 1) := by decide +kernel
theorem dX4_isWord_38 : decode cX4_isWord 38 = .ok (.getfield 141, 3) := by decide +kernel
theorem dX4_isWord_41 : decode cX4_isWord 41 = .ok (.iload_n 2, 1) := by decide +kernel
theorem dX4_isWord_42 : decode cX4_isWord 42 = .ok (.iadd, 1) := by decide +kernel
theorem dX4_isWord_43 : decode cX4_isWord 43 = .ok (.invokevirtual 144, 3) := by decide +kernel
theorem dX4_isWord_46 : decode cX4_isWord 46 = .ok (.aload_n 1, 1) := by decide +kernel
theorem dX4_isWord_47 : decode cX4_isWord 47 = .ok (.iload_n 2, 1) := by decide +kernel
theorem dX4_isWord_48 : decode cX4_isWord 48 = .ok (.invokevirtual 154, 3) := by decide +kernel
theorem dX4_isWord_51 : decode cX4_isWord 51 = .ok (.if_icmp .eq 5, 3) := by decide +kernel
theorem dX4_isWord_54 : decode cX4_isWord 54 = .ok (.iconst 0, 1) := by decide +kernel
theorem dX4_isWord_55 : decode cX4_isWord 55 = .ok (.ireturn, 1) := by decide +kernel
theorem dX4_isWord_56 : decode cX4_isWord 56 = .ok (.iinc 2 1, 3) := by decide +kernel
theorem dX4_isWord_59 : decode cX4_isWord 59 = .ok (.goto (-31), 3) := by decide +kernel
theorem dX4_isWord_62 : decode cX4_isWord 62 = .ok (.iconst 1, 1) := by decide +kernel
theorem dX4_isWord_63 : decode cX4_isWord 63 = .ok (.ireturn, 1) := by decide +kernel
theorem dX4_readToken_0 : decode cX4_readToken 0 = .ok (.aload_n 0, 1) := by decide +kernel
theorem dX4_readToken_1 : decode cX4_readToken 1 = .ok (.aload_n 0, 1) := by decide +kernel
theorem dX4_readToken_2 : decode cX4_readToken 2 = .ok (.getfield 36, 3) := by decide +kernel
theorem dX4_readToken_5 : decode cX4_readToken 5 = .ok (.putfield 141, 3) := by decide +kernel
theorem dX4_readToken_8 : decode cX4_readToken 8 = .ok (.aload_n 0, 1) := by decide +kernel
theorem dX4_readToken_9 : decode cX4_readToken 9 = .ok (.getfield 36, 3) := by decide +kernel
theorem dX4_readToken_12 : decode cX4_readToken 12 = .ok (.istore_n 1, 1) := by decide +kernel
theorem dX4_readToken_13 : decode cX4_readToken 13 = .ok (.iload_n 1, 1) := by decide +kernel
theorem dX4_readToken_14 : decode cX4_readToken 14 = .ok (.aload_n 0, 1) := by decide +kernel
theorem dX4_readToken_15 : decode cX4_readToken 15 = .ok (.getfield 33, 3) := by decide +kernel
theorem dX4_readToken_18 : decode cX4_readToken 18 = .ok (.if_icmp .ge 29, 3) := by decide +kernel
theorem dX4_readToken_21 : decode cX4_readToken 21 = .ok (.aload_n 0, 1) := by decide +kernel
theorem dX4_readToken_22 : decode cX4_readToken 22 = .ok (.iload_n 1, 1) := by decide +kernel
theorem dX4_readToken_23 : decode cX4_readToken 23 = .ok (.invokevirtual 144, 3) := by decide +kernel
theorem dX4_readToken_26 : decode cX4_readToken 26 = .ok (.bipush 32, 2) := by decide +kernel
theorem dX4_readToken_28 : decode cX4_readToken 28 = .ok (.if_icmp .ne 19, 3) := by decide +kernel
theorem dX4_readToken_31 : decode cX4_readToken 31 = .ok (.aload_n 0, 1) := by decide +kernel
theorem dX4_readToken_32 : decode cX4_readToken 32 = .ok (.dup, 1) := by decide +kernel
theorem dX4_readToken_33 : decode cX4_readToken 33 = .ok (.getfield 141, 3) := by decide +kernel
theorem dX4_readToken_36 : decode cX4_readToken 36 = .ok (.iconst 1, 1) := by decide +kernel
theorem dX4_readToken_37 : decode cX4_readToken 37 = .ok (.iadd, 1) := by decide +kernel
theorem dX4_readToken_38 : decode cX4_readToken 38 = .ok (.putfield 141, 3) := by decide +kernel
theorem dX4_readToken_41 : decode cX4_readToken 41 = .ok (.iinc 1 1, 3) := by decide +kernel
theorem dX4_readToken_44 : decode cX4_readToken 44 = .ok (.goto (-31), 3) := by decide +kernel
theorem dX4_readToken_47 : decode cX4_readToken 47 = .ok (.aload_n 0, 1) := by decide +kernel
theorem dX4_readToken_48 : decode cX4_readToken 48 = .ok (.aload_n 0, 1) := by decide +kernel
theorem dX4_readToken_49 : decode cX4_readToken 49 = .ok (.aload_n 0, 1) := by decide +kernel
theorem dX4_readToken_50 : decode cX4_readToken 50 = .ok (.getfield 141, 3) := by decide +kernel
theorem dX4_readToken_53 : decode cX4_readToken 53 = .ok (.invokevirtual 144, 3) := by decide +kernel
theorem dX4_readToken_56 : decode cX4_readToken 56 = .ok (.invokestatic 158, 3) := by decide +kernel
theorem dX4_readToken_59 : decode cX4_readToken 59 = .ok (.putfield 52, 3) := by decide +kernel
theorem dX4_readToken_62 : decode cX4_readToken 62 = .ok (.aload_n 0, 1) := by decide +kernel
theorem dX4_readToken_63 : decode cX4_readToken 63 = .ok (.aload_n 0, 1) := by decide +kernel
theorem dX4_readToken_64 : decode cX4_readToken 64 = .ok (.getfield 141, 3) := by decide +kernel
theorem dX4_readToken_67 : decode cX4_readToken 67 = .ok (.putfield 36, 3) := by decide +kernel
theorem dX4_readToken_70 : decode cX4_readToken 70 = .ok (.aload_n 0, 1) := by decide +kernel
theorem dX4_readToken_71 : decode cX4_readToken 71 = .ok (.getfield 52, 3) := by decide +kernel
theorem dX4_readToken_74 : decode cX4_readToken 74 = .ok (.ifCond .ne 4, 3) := by decide +kernel
theorem dX4_readToken_77 : decode cX4_readToken 77 = .ok (.return_, 1) := by decide +kernel
theorem dX4_readToken_78 : decode cX4_readToken 78 = .ok (.aload_n 0, 1) := by decide +kernel
theorem dX4_readToken_79 : decode cX4_readToken 79 = .ok (.dup, 1) := by decide +kernel
theorem dX4_readToken_80 : decode cX4_readToken 80 = .ok (.getfield 36, 3) := by decide +kernel
theorem dX4_readToken_83 : decode cX4_readToken 83 = .ok (.iconst 1, 1) := by decide +kernel
theorem dX4_readToken_84 : decode cX4_readToken 84 = .ok (.iadd, 1) := by decide +kernel
theorem dX4_readToken_85 : decode cX4_readToken 85 = .ok (.putfield 36, 3) := by decide +kernel
theorem dX4_readToken_88 : decode cX4_readToken 88 = .ok (.aload_n 0, 1) := by decide +kernel
theorem dX4_readToken_89 : decode cX4_readToken 89 = .ok (.getfield 52, 3) := by decide +kernel
theorem dX4_readToken_92 : decode cX4_readToken 92 = .ok (.iconst 2, 1) := by decide +kernel
theorem dX4_readToken_93 : decode cX4_readToken 93 = .ok (.if_icmp .eq 11, 3) := by decide +kernel
theorem dX4_readToken_96 : decode cX4_readToken 96 = .ok (.aload_n 0, 1) := by decide +kernel
theorem dX4_readToken_97 : decode cX4_readToken 97 = .ok (.getfield 52, 3) := by decide +kernel
theorem dX4_readToken_100 : decode cX4_readToken 100 = .ok (.iconst 3, 1) := by decide +kernel
theorem dX4_readToken_101 : decode cX4_readToken 101 = .ok (.if_icmp .ne 7, 3) := by decide +kernel
theorem dX4_readToken_104 : decode cX4_readToken 104 = .ok (.iconst 1, 1) := by decide +kernel
theorem dX4_readToken_105 : decode cX4_readToken 105 = .ok (.goto 4, 3) := by decide +kernel
theorem dX4_readToken_108 : decode cX4_readToken 108 = .ok (.iconst 0, 1) := by decide +kernel
theorem dX4_readToken_109 : decode cX4_readToken 109 = .ok (.istore_n 1, 1) := by decide +kernel
theorem dX4_readToken_110 : decode cX4_readToken 110 = .ok (.aload_n 0, 1) := by decide +kernel
theorem dX4_readToken_111 : decode cX4_readToken 111 = .ok (.getfield 36, 3) := by decide +kernel
theorem dX4_readToken_114 : decode cX4_readToken 114 = .ok (.istore_n 2, 1) := by decide +kernel
theorem dX4_readToken_115 : decode cX4_readToken 115 = .ok (.iload_n 1, 1) := by decide +kernel
theorem dX4_readToken_116 : decode cX4_readToken 116 = .ok (.ifCond .eq 42, 3) := by decide +kernel
theorem dX4_readToken_119 : decode cX4_readToken 119 = .ok (.iload_n 2, 1) := by decide +kernel
theorem dX4_readToken_120 : decode cX4_readToken 120 = .ok (.aload_n 0, 1) := by decide +kernel
theorem dX4_readToken_121 : decode cX4_readToken 121 = .ok (.getfield 33, 3) := by decide +kernel
theorem dX4_readToken_124 : decode cX4_readToken 124 = .ok (.if_icmp .ge 34, 3) := by decide +kernel
theorem dX4_readToken_127 : decode cX4_readToken 127 = .ok (.aload_n 0, 1) := by decide +kernel
theorem dX4_readToken_128 : decode cX4_readToken 128 = .ok (.iload_n 2, 1) := by decide +kernel
theorem dX4_readToken_129 : decode cX4_readToken 129 = .ok (.invokevirtual 144, 3) := by decide +kernel
theorem dX4_readToken_132 : decode cX4_readToken 132 = .ok (.invokestatic 158, 3) := by decide +kernel
theorem dX4_readToken_135 : decode cX4_readToken 135 = .ok (.aload_n 0, 1) := by decide +kernel
theorem dX4_readToken_136 : decode cX4_readToken 136 = .ok (.getfield 52, 3) := by decide +kernel
theorem dX4_readToken_139 : decode cX4_readToken 139 = .ok (.if_icmp .ne 19, 3) := by decide +kernel
theorem dX4_readToken_142 : decode cX4_readToken 142 = .ok (.aload_n 0, 1) := by decide +kernel
theorem dX4_readToken_143 : decode cX4_readToken 143 = .ok (.dup, 1) := by decide +kernel
theorem dX4_readToken_144 : decode cX4_readToken 144 = .ok (.getfield 36, 3) := by decide +kernel
theorem dX4_readToken_147 : decode cX4_readToken 147 = .ok (.iconst 1, 1) := by decide +kernel
theorem dX4_readToken_148 : decode cX4_readToken 148 = .ok (.iadd, 1) := by decide +kernel
theorem dX4_readToken_149 : decode cX4_readToken 149 = .ok (.putfield 36, 3) := by decide +kernel
theorem dX4_readToken_152 : decode cX4_readToken 152 = .ok (.iinc 2 1, 3) := by decide +kernel
theorem dX4_readToken_155 : decode cX4_readToken 155 = .ok (.goto (-40), 3) := by decide +kernel
theorem dX4_readToken_158 : decode cX4_readToken 158 = .ok (.aload_n 0, 1) := by decide +kernel
theorem dX4_readToken_159 : decode cX4_readToken 159 = .ok (.getfield 36, 3) := by decide +kernel
theorem dX4_readToken_162 : decode cX4_readToken 162 = .ok (.aload_n 0, 1) := by decide +kernel
theorem dX4_readToken_163 : decode cX4_readToken 163 = .ok (.getfield 141, 3) := by decide +kernel
theorem dX4_readToken_166 : decode cX4_readToken 166 = .ok (.isub, 1) := by decide +kernel
theorem dX4_readToken_167 : decode cX4_readToken 167 = .ok (.istore_n 2, 1) := by decide +kernel
theorem dX4_readToken_168 : decode cX4_readToken 168 = .ok (.aload_n 0, 1) := by decide +kernel
theorem dX4_readToken_169 : decode cX4_readToken 169 = .ok (.getfield 52, 3) := by decide +kernel
theorem dX4_readToken_172 : decode cX4_readToken 172 = .ok (.iconst 2, 1) := by decide +kernel
theorem dX4_readToken_173 : decode cX4_readToken 173 = .ok (.if_icmp .ne 9, 3) := by decide +kernel
theorem dX4_readToken_176 : decode cX4_readToken 176 = .ok (.iload_n 2, 1) := by decide +kernel
theorem dX4_readToken_177 : decode cX4_readToken 177 = .ok (.bipush 8, 2) := by decide +kernel
theorem dX4_readToken_179 : decode cX4_readToken 179 = .ok (.if_icmp .gt 16, 3) := by decide +kernel
theorem dX4_readToken_182 : decode cX4_readToken 182 = .ok (.aload_n 0, 1) := by decide +kernel
theorem dX4_readToken_183 : decode cX4_readToken 183 = .ok (.getfield 52, 3) := by decide +kernel
theorem dX4_readToken_186 : decode cX4_readToken 186 = .ok (.iconst 3, 1) := by decide +kernel
theorem dX4_readToken_187 : decode cX4_readToken 187 = .ok (.if_icmp .ne 13, 3) := by decide +kernel
theorem dX4_readToken_190 : decode cX4_readToken 190 = .ok (.iload_n 2, 1) := by decide +kernel
theorem dX4_readToken_191 : decode cX4_readToken 191 = .ok (.iconst 2, 1) := by decide +kernel
theorem dX4_readToken_192 : decode cX4_readToken 192 = .ok (.if_icmp .le 8, 3) := by decide +kernel
theorem dX4_readToken_195 : decode cX4_readToken 195 = .ok (.aload_n 0, 1) := by decide +kernel
theorem dX4_readToken_196 : decode cX4_readToken 196 = .ok (.iconst 5, 1) := by decide +kernel
theorem dX4_readToken_197 : decode cX4_readToken 197 = .ok (.putfield 52, 3) := by decide +kernel
theorem dX4_readToken_200 : decode cX4_readToken 200 = .ok (.return_, 1) := by decide +kernel
theorem dX4_byteAt_0 : decode cX4_byteAt 0 = .ok (.iload_n 1, 1) := by decide +kernel
theorem dX4_byteAt_1 : decode cX4_byteAt 1 = .ok (.ifCond .lt 31, 3) := by decide +kernel
theorem dX4_byteAt_4 : decode cX4_byteAt 4 = .ok (.iload_n 1, 1) := by decide +kernel
theorem dX4_byteAt_5 : decode cX4_byteAt 5 = .ok (.aload_n 0, 1) := by decide +kernel
theorem dX4_byteAt_6 : decode cX4_byteAt 6 = .ok (.getfield 33, 3) := by decide +kernel
theorem dX4_byteAt_9 : decode cX4_byteAt 9 = .ok (.if_icmp .ge 23, 3) := by decide +kernel
theorem dX4_byteAt_12 : decode cX4_byteAt 12 = .ok (.iload_n 1, 1) := by decide +kernel
theorem dX4_byteAt_13 : decode cX4_byteAt 13 = .ok (.sipush 600, 3) := by decide +kernel
theorem dX4_byteAt_16 : decode cX4_byteAt 16 = .ok (.if_icmp .ge 16, 3) := by decide +kernel
theorem dX4_byteAt_19 : decode cX4_byteAt 19 = .ok (.aload_n 0, 1) := by decide +kernel
theorem dX4_byteAt_20 : decode cX4_byteAt 20 = .ok (.getfield 9, 3) := by decide +kernel
theorem dX4_byteAt_23 : decode cX4_byteAt 23 = .ok (.iload_n 1, 1) := by decide +kernel
theorem dX4_byteAt_24 : decode cX4_byteAt 24 = .ok (.baload, 1) := by decide +kernel
theorem dX4_byteAt_25 : decode cX4_byteAt 25 = .ok (.sipush 255, 3) := by decide +kernel
theorem dX4_byteAt_28 : decode cX4_byteAt 28 = .ok (.iand, 1) := by decide +kernel
theorem dX4_byteAt_29 : decode cX4_byteAt 29 = .ok (.goto 4, 3) := by decide +kernel
theorem dX4_byteAt_32 : decode cX4_byteAt 32 = .ok (.iconst (-1), 1) := by decide +kernel
theorem dX4_byteAt_33 : decode cX4_byteAt 33 = .ok (.ireturn, 1) := by decide +kernel
theorem dX4_kindOf_0 : decode cX4_kindOf 0 = .ok (.iload_n 0, 1) := by decide +kernel
theorem dX4_kindOf_1 : decode cX4_kindOf 1 = .ok (.iconst (-1), 1) := by decide +kernel
theorem dX4_kindOf_2 : decode cX4_kindOf 2 = .ok (.if_icmp .ne 5, 3) := by decide +kernel
theorem dX4_kindOf_5 : decode cX4_kindOf 5 = .ok (.iconst 0, 1) := by decide +kernel
theorem dX4_kindOf_6 : decode cX4_kindOf 6 = .ok (.ireturn, 1) := by decide +kernel
theorem dX4_kindOf_7 : decode cX4_kindOf 7 = .ok (.iload_n 0, 1) := by decide +kernel
theorem dX4_kindOf_8 : decode cX4_kindOf 8 = .ok (.bipush 97, 2) := by decide +kernel
theorem dX4_kindOf_10 : decode cX4_kindOf 10 = .ok (.if_icmp .lt 11, 3) := by decide +kernel
theorem dX4_kindOf_13 : decode cX4_kindOf 13 = .ok (.iload_n 0, 1) := by decide +kernel
theorem dX4_kindOf_14 : decode cX4_kindOf 14 = .ok (.bipush 122, 2) := by decide +kernel
theorem dX4_kindOf_16 : decode cX4_kindOf 16 = .ok (.if_icmp .gt 5, 3) := by decide +kernel
theorem dX4_kindOf_19 : decode cX4_kindOf 19 = .ok (.iconst 2, 1) := by decide +kernel
theorem dX4_kindOf_20 : decode cX4_kindOf 20 = .ok (.ireturn, 1) := by decide +kernel
theorem dX4_kindOf_21 : decode cX4_kindOf 21 = .ok (.iload_n 0, 1) := by decide +kernel
theorem dX4_kindOf_22 : decode cX4_kindOf 22 = .ok (.bipush 48, 2) := by decide +kernel
theorem dX4_kindOf_24 : decode cX4_kindOf 24 = .ok (.if_icmp .lt 11, 3) := by decide +kernel
theorem dX4_kindOf_27 : decode cX4_kindOf 27 = .ok (.iload_n 0, 1) := by decide +kernel
theorem dX4_kindOf_28 : decode cX4_kindOf 28 = .ok (.bipush 57, 2) := by decide +kernel
theorem dX4_kindOf_30 : decode cX4_kindOf 30 = .ok (.if_icmp .gt 5, 3) := by decide +kernel
theorem dX4_kindOf_33 : decode cX4_kindOf 33 = .ok (.iconst 3, 1) := by decide +kernel
theorem dX4_kindOf_34 : decode cX4_kindOf 34 = .ok (.ireturn, 1) := by decide +kernel
theorem dX4_kindOf_35 : decode cX4_kindOf 35 = .ok (.iload_n 0, 1) := by decide +kernel
theorem dX4_kindOf_36 : decode cX4_kindOf 36 = .ok (.bipush 32, 2) := by decide +kernel
theorem dX4_kindOf_38 : decode cX4_kindOf 38 = .ok (.if_icmp .ne 5, 3) := by decide +kernel
theorem dX4_kindOf_41 : decode cX4_kindOf 41 = .ok (.iconst 1, 1) := by decide +kernel
theorem dX4_kindOf_42 : decode cX4_kindOf 42 = .ok (.ireturn, 1) := by decide +kernel
theorem dX4_kindOf_43 : decode cX4_kindOf 43 = .ok (.iload_n 0, 1) := by decide +kernel
theorem dX4_kindOf_44 : decode cX4_kindOf 44 = .ok (.bipush 59, 2) := by decide +kernel
theorem dX4_kindOf_46 : decode cX4_kindOf 46 = .ok (.if_icmp .ne 7, 3) := by decide +kernel
theorem dX4_kindOf_49 : decode cX4_kindOf 49 = .ok (.iconst 4, 1) := by decide +kernel
theorem dX4_kindOf_50 : decode cX4_kindOf 50 = .ok (.goto 4, 3) := by decide +kernel
theorem dX4_kindOf_53 : decode cX4_kindOf 53 = .ok (.iconst 5, 1) := by decide +kernel
theorem dX4_kindOf_54 : decode cX4_kindOf 54 = .ok (.ireturn, 1) := by decide +kernel
theorem dX5_init_0 : decode cX5_init 0 = .ok (.aload_n 0, 1) := by decide +kernel
theorem dX5_init_1 : decode cX5_init 1 = .ok (.invokespecial 1, 3) := by decide +kernel
theorem dX5_init_4 : decode cX5_init 4 = .ok (.aload_n 0, 1) := by decide +kernel
theorem dX5_init_5 : decode cX5_init 5 = .ok (.new 7, 3) := by decide +kernel
theorem dX5_init_8 : decode cX5_init 8 = .ok (.dup, 1) := by decide +kernel
theorem dX5_init_9 : decode cX5_init 9 = .ok (.invokespecial 9, 3) := by decide +kernel
theorem dX5_init_12 : decode cX5_init 12 = .ok (.putfield 10, 3) := by decide +kernel
theorem dX5_init_15 : decode cX5_init 15 = .ok (.aload_n 0, 1) := by decide +kernel
theorem dX5_init_16 : decode cX5_init 16 = .ok (.iload_n 1, 1) := by decide +kernel
theorem dX5_init_17 : decode cX5_init 17 = .ok (.putfield 16, 3) := by decide +kernel
theorem dX5_init_20 : decode cX5_init 20 = .ok (.return_, 1) := by decide +kernel
theorem dX5_copyFrom_0 : decode cX5_copyFrom 0 = .ok (.aload_n 0, 1) := by decide +kernel
theorem dX5_copyFrom_1 : decode cX5_copyFrom 1 = .ok (.getfield 10, 3) := by decide +kernel
theorem dX5_copyFrom_4 : decode cX5_copyFrom 4 = .ok (.aload_n 1, 1) := by decide +kernel
theorem dX5_copyFrom_5 : decode cX5_copyFrom 5 = .ok (.getfield 10, 3) := by decide +kernel
theorem dX5_copyFrom_8 : decode cX5_copyFrom 8 = .ok (.invokevirtual 20, 3) := by decide +kernel
theorem dX5_copyFrom_11 : decode cX5_copyFrom 11 = .ok (.aload_n 0, 1) := by decide +kernel
theorem dX5_copyFrom_12 : decode cX5_copyFrom 12 = .ok (.aload_n 1, 1) := by decide +kernel
theorem dX5_copyFrom_13 : decode cX5_copyFrom 13 = .ok (.getfield 24, 3) := by decide +kernel
theorem dX5_copyFrom_16 : decode cX5_copyFrom 16 = .ok (.aload_n 1, 1) := by decide +kernel
theorem dX5_copyFrom_17 : decode cX5_copyFrom 17 = .ok (.getfield 27, 3) := by decide +kernel
theorem dX5_copyFrom_20 : decode cX5_copyFrom 20 = .ok (.aload_n 1, 1) := by decide +kernel
theorem dX5_copyFrom_21 : decode cX5_copyFrom 21 = .ok (.getfield 30, 3) := by decide +kernel
theorem dX5_copyFrom_24 : decode cX5_copyFrom 24 = .ok (.invokevirtual 34, 3) := by decide +kernel
theorem dX5_copyFrom_27 : decode cX5_copyFrom 27 = .ok (.aload_n 0, 1) := by decide +kernel
theorem dX5_copyFrom_28 : decode cX5_copyFrom 28 = .ok (.aload_n 1, 1) := by decide +kernel
theorem dX5_copyFrom_29 : decode cX5_copyFrom 29 = .ok (.getfield 38, 3) := by decide +kernel
theorem dX5_copyFrom_32 : decode cX5_copyFrom 32 = .ok (.putfield 38, 3) := by decide +kernel
theorem dX5_copyFrom_35 : decode cX5_copyFrom 35 = .ok (.aload_n 0, 1) := by decide +kernel
theorem dX5_copyFrom_36 : decode cX5_copyFrom 36 = .ok (.aload_n 1, 1) := by decide +kernel
theorem dX5_copyFrom_37 : decode cX5_copyFrom 37 = .ok (.getfield 41, 3) := by decide +kernel
theorem dX5_copyFrom_40 : decode cX5_copyFrom 40 = .ok (.putfield 41, 3) := by decide +kernel
theorem dX5_copyFrom_43 : decode cX5_copyFrom 43 = .ok (.aload_n 0, 1) := by decide +kernel
theorem dX5_copyFrom_44 : decode cX5_copyFrom 44 = .ok (.aload_n 1, 1) := by decide +kernel
theorem dX5_copyFrom_45 : decode cX5_copyFrom 45 = .ok (.getfield 44, 3) := by decide +kernel
theorem dX5_copyFrom_48 : decode cX5_copyFrom 48 = .ok (.putfield 44, 3) := by decide +kernel
theorem dX5_copyFrom_51 : decode cX5_copyFrom 51 = .ok (.aload_n 0, 1) := by decide +kernel
theorem dX5_copyFrom_52 : decode cX5_copyFrom 52 = .ok (.aload_n 1, 1) := by decide +kernel
theorem dX5_copyFrom_53 : decode cX5_copyFrom 53 = .ok (.getfield 47, 3) := by decide +kernel
theorem dX5_copyFrom_56 : decode cX5_copyFrom 56 = .ok (.putfield 47, 3) := by decide +kernel
theorem dX5_copyFrom_59 : decode cX5_copyFrom 59 = .ok (.return_, 1) := by decide +kernel
theorem dX5_setMark_0 : decode cX5_setMark 0 = .ok (.aload_n 0, 1) := by decide +kernel
theorem dX5_setMark_1 : decode cX5_setMark 1 = .ok (.iload_n 1, 1) := by decide +kernel
theorem dX5_setMark_2 : decode cX5_setMark 2 = .ok (.putfield 24, 3) := by decide +kernel
theorem dX5_setMark_5 : decode cX5_setMark 5 = .ok (.aload_n 0, 1) := by decide +kernel
theorem dX5_setMark_6 : decode cX5_setMark 6 = .ok (.iload_n 2, 1) := by decide +kernel
theorem dX5_setMark_7 : decode cX5_setMark 7 = .ok (.putfield 27, 3) := by decide +kernel
theorem dX5_setMark_10 : decode cX5_setMark 10 = .ok (.aload_n 0, 1) := by decide +kernel
theorem dX5_setMark_11 : decode cX5_setMark 11 = .ok (.iload_n 3, 1) := by decide +kernel
theorem dX5_setMark_12 : decode cX5_setMark 12 = .ok (.putfield 30, 3) := by decide +kernel
theorem dX5_setMark_15 : decode cX5_setMark 15 = .ok (.return_, 1) := by decide +kernel
theorem dX5_makeEmpty_0 : decode cX5_makeEmpty 0 = .ok (.aload_n 0, 1) := by decide +kernel
theorem dX5_makeEmpty_1 : decode cX5_makeEmpty 1 = .ok (.getfield 10, 3) := by decide +kernel
theorem dX5_makeEmpty_4 : decode cX5_makeEmpty 4 = .ok (.invokevirtual 50, 3) := by decide +kernel
theorem dX5_makeEmpty_7 : decode cX5_makeEmpty 7 = .ok (.aload_n 0, 1) := by decide +kernel
theorem dX5_makeEmpty_8 : decode cX5_makeEmpty 8 = .ok (.iconst 0, 1) := by decide +kernel
theorem dX5_makeEmpty_9 : decode cX5_makeEmpty 9 = .ok (.iconst 0, 1) := by decide +kernel
theorem dX5_makeEmpty_10 : decode cX5_makeEmpty 10 = .ok (.iconst 0, 1) := by decide +kernel
theorem dX5_makeEmpty_11 : decode cX5_makeEmpty 11 = .ok (.invokevirtual 34, 3) := by decide +kernel
theorem dX5_makeEmpty_14 : decode cX5_makeEmpty 14 = .ok (.aload_n 0, 1) := by decide +kernel
theorem dX5_makeEmpty_15 : decode cX5_makeEmpty 15 = .ok (.iconst 0, 1) := by decide +kernel
theorem dX5_makeEmpty_16 : decode cX5_makeEmpty 16 = .ok (.putfield 38, 3) := by decide +kernel
theorem dX5_makeEmpty_19 : decode cX5_makeEmpty 19 = .ok (.return_, 1) := by decide +kernel
theorem dX5_giveUp_0 : decode cX5_giveUp 0 = .ok (.aload_n 0, 1) := by decide +kernel
theorem dX5_giveUp_1 : decode cX5_giveUp 1 = .ok (.iconst 0, 1) := by decide +kernel
theorem dX5_giveUp_2 : decode cX5_giveUp 2 = .ok (.putfield 24, 3) := by decide +kernel
theorem dX5_giveUp_5 : decode cX5_giveUp 5 = .ok (.aload_n 0, 1) := by decide +kernel
theorem dX5_giveUp_6 : decode cX5_giveUp 6 = .ok (.iconst 0, 1) := by decide +kernel
theorem dX5_giveUp_7 : decode cX5_giveUp 7 = .ok (.putfield 30, 3) := by decide +kernel
theorem dX5_giveUp_10 : decode cX5_giveUp 10 = .ok (.return_, 1) := by decide +kernel
theorem dX5_isBootableFrom_0 : decode cX5_isBootableFrom 0 = .ok (.aload_n 0, 1) := by decide +kernel
theorem dX5_isBootableFrom_1 : decode cX5_isBootableFrom 1 = .ok (.getfield 10, 3) := by decide +kernel
theorem dX5_isBootableFrom_4 : decode cX5_isBootableFrom 4 = .ok (.getfield 53, 3) := by decide +kernel
theorem dX5_isBootableFrom_7 : decode cX5_isBootableFrom 7 = .ok (.ifCond .eq 28, 3) := by decide +kernel
theorem dX5_isBootableFrom_10 : decode cX5_isBootableFrom 10 = .ok (.aload_n 0, 1) := by decide +kernel
theorem dX5_isBootableFrom_11 : decode cX5_isBootableFrom 11 = .ok (.getfield 10, 3) := by decide +kernel
theorem dX5_isBootableFrom_14 : decode cX5_isBootableFrom 14 = .ok (.getfield 56, 3) := by decide +kernel
theorem dX5_isBootableFrom_17 : decode cX5_isBootableFrom 17 = .ok (.ifCond .ne 18, 3) := by decide +kernel
theorem dX5_isBootableFrom_20 : decode cX5_isBootableFrom 20 = .ok (.aload_n 0, 1) := by decide +kernel
theorem dX5_isBootableFrom_21 : decode cX5_isBootableFrom 21 = .ok (.getfield 10, 3) := by decide +kernel
theorem dX5_isBootableFrom_24 : decode cX5_isBootableFrom 24 = .ok (.getfield 59, 3) := by decide +kernel
theorem dX5_isBootableFrom_27 : decode cX5_isBootableFrom 27 = .ok (.iload_n 1, 1) := by decide +kernel
theorem dX5_isBootableFrom_28 : decode cX5_isBootableFrom 28 = .ok (.if_icmp .lt 7, 3) := by decide +kernel
theorem dX5_isBootableFrom_31 : decode cX5_isBootableFrom 31 = .ok (.iconst 1, 1) := by decide +kernel
theorem dX5_isBootableFrom_32 : decode cX5_isBootableFrom 32 = .ok (.goto 4, 3) := by decide +kernel
theorem dX5_isBootableFrom_35 : decode cX5_isBootableFrom 35 = .ok (.iconst 0, 1) := by decide +kernel
theorem dX5_isBootableFrom_36 : decode cX5_isBootableFrom 36 = .ok (.istore_n 2, 1) := by decide +kernel
theorem dX5_isBootableFrom_37 : decode cX5_isBootableFrom 37 = .ok (.iload_n 2, 1) := by decide +kernel
theorem dX5_isBootableFrom_38 : decode cX5_isBootableFrom 38 = .ok (.ifCond .eq 28, 3) := by decide +kernel
theorem dX5_isBootableFrom_41 : decode cX5_isBootableFrom 41 = .ok (.aload_n 0, 1) := by decide +kernel
theorem dX5_isBootableFrom_42 : decode cX5_isBootableFrom 42 = .ok (.getfield 24, 3) := by decide +kernel
theorem dX5_isBootableFrom_45 : decode cX5_isBootableFrom 45 = .ok (.ifCond .le 21, 3) := by decide +kernel
theorem dX5_isBootableFrom_48 : decode cX5_isBootableFrom 48 = .ok (.aload_n 0, 1) := by decide +kernel
theorem dX5_isBootableFrom_49 : decode cX5_isBootableFrom 49 = .ok (.getfield 30, 3) := by decide +kernel
theorem dX5_isBootableFrom_52 : decode cX5_isBootableFrom 52 = .ok (.ifCond .ne 10, 3) := by decide +kernel
theorem dX5_isBootableFrom_55 : decode cX5_isBootableFrom 55 = .ok (.aload_n 0, 1) := by decide +kernel
theorem dX5_isBootableFrom_56 : decode cX5_isBootableFrom 56 = .ok (.getfield 27, 3) := by decide +kernel
theorem dX5_isBootableFrom_59 : decode cX5_isBootableFrom 59 = .ok (.ifCond .le 7, 3) := by decide +kernel
theorem dX5_isBootableFrom_62 : decode cX5_isBootableFrom 62 = .ok (.iconst 1, 1) := by decide +kernel
theorem dX5_isBootableFrom_63 : decode cX5_isBootableFrom 63 = .ok (.goto 4, 3) := by decide +kernel
theorem dX5_isBootableFrom_66 : decode cX5_isBootableFrom 66 = .ok (.iconst 0, 1) := by decide +kernel
theorem dX5_isBootableFrom_67 : decode cX5_isBootableFrom 67 = .ok (.ireturn, 1) := by decide +kernel
theorem dX5_isAheadOf_0 : decode cX5_isAheadOf 0 = .ok (.aload_n 0, 1) := by decide +kernel
theorem dX5_isAheadOf_1 : decode cX5_isAheadOf 1 = .ok (.getfield 24, 3) := by decide +kernel
theorem dX5_isAheadOf_4 : decode cX5_isAheadOf 4 = .ok (.aload_n 1, 1) := by decide +kernel
theorem dX5_isAheadOf_5 : decode cX5_isAheadOf 5 = .ok (.getfield 24, 3) := by decide +kernel
theorem dX5_isAheadOf_8 : decode cX5_isAheadOf 8 = .ok (.if_icmp .eq 20, 3) := by decide +kernel
theorem dX5_isAheadOf_11 : decode cX5_isAheadOf 11 = .ok (.aload_n 0, 1) := by decide +kernel
theorem dX5_isAheadOf_12 : decode cX5_isAheadOf 12 = .ok (.getfield 24, 3) := by decide +kernel
theorem dX5_isAheadOf_15 : decode cX5_isAheadOf 15 = .ok (.aload_n 1, 1) := by decide +kernel
theorem dX5_isAheadOf_16 : decode cX5_isAheadOf 16 = .ok (.getfield 24, 3) := by decide +kernel
theorem dX5_isAheadOf_19 : decode cX5_isAheadOf 19 = .ok (.if_icmp .le 7, 3) := by decide +kernel
theorem dX5_isAheadOf_22 : decode cX5_isAheadOf 22 = .ok (.iconst 1, 1) := by decide +kernel
theorem dX5_isAheadOf_23 : decode cX5_isAheadOf 23 = .ok (.goto 4, 3) := by decide +kernel
theorem dX5_isAheadOf_26 : decode cX5_isAheadOf 26 = .ok (.iconst 0, 1) := by decide +kernel
theorem dX5_isAheadOf_27 : decode cX5_isAheadOf 27 = .ok (.ireturn, 1) := by decide +kernel
theorem dX5_isAheadOf_28 : decode cX5_isAheadOf 28 = .ok (.aload_n 0, 1) := by decide +kernel
theorem dX5_isAheadOf_29 : decode cX5_isAheadOf 29 = .ok (.getfield 30, 3) := by decide +kernel
theorem dX5_isAheadOf_32 : decode cX5_isAheadOf 32 = .ok (.aload_n 1, 1) := by decide +kernel
theorem dX5_isAheadOf_33 : decode cX5_isAheadOf 33 = .ok (.getfield 30, 3) := by decide +kernel
theorem dX5_isAheadOf_36 : decode cX5_isAheadOf 36 = .ok (.if_icmp .eq 8, 3) := by decide +kernel
theorem dX5_isAheadOf_39 : decode cX5_isAheadOf 39 = .ok (.aload_n 0, 1) := by decide +kernel
theorem dX5_isAheadOf_40 : decode cX5_isAheadOf 40 = .ok (.getfield 30, 3) := by decide +kernel
theorem dX5_isAheadOf_43 : decode cX5_isAheadOf 43 = .ok (.ireturn, 1) := by decide +kernel
theorem dX5_isAheadOf_44 : decode cX5_isAheadOf 44 = .ok (.aload_n 0, 1) := by decide +kernel
theorem dX5_isAheadOf_45 : decode cX5_isAheadOf 45 = .ok (.getfield 10, 3) := by decide +kernel
theorem dX5_isAheadOf_48 : decode cX5_isAheadOf 48 = .ok (.getfield 59, 3) := by decide +kernel
theorem dX5_isAheadOf_51 : decode cX5_isAheadOf 51 = .ok (.aload_n 1, 1) := by decide +kernel
theorem dX5_isAheadOf_52 : decode cX5_isAheadOf 52 = .ok (.getfield 10, 3) := by decide +kernel
theorem dX5_isAheadOf_55 : decode cX5_isAheadOf 55 = .ok (.getfield 59, 3) := by decide +kernel
theorem dX5_isAheadOf_58 : decode cX5_isAheadOf 58 = .ok (.if_icmp .eq 26, 3) := by decide +kernel
theorem dX5_isAheadOf_61 : decode cX5_isAheadOf 61 = .ok (.aload_n 0, 1) := by decide +kernel
theorem dX5_isAheadOf_62 : decode cX5_isAheadOf 62 = .ok (.getfield 10, 3) := by decide +kernel
theorem dX5_isAheadOf_65 : decode cX5_isAheadOf 65 = .ok (.getfield 59, 3) := by decide +kernel
theorem dX5_isAheadOf_68 : decode cX5_isAheadOf 68 = .ok (.aload_n 1, 1) := by decide +kernel
theorem dX5_isAheadOf_69 : decode cX5_isAheadOf 69 = .ok (.getfield 10, 3) := by decide +kernel
theorem dX5_isAheadOf_72 : decode cX5_isAheadOf 72 = .ok (.getfield 59, 3) := by decide +kernel
theorem dX5_isAheadOf_75 : decode cX5_isAheadOf 75 = .ok (.if_icmp .le 7, 3) := by decide +kernel
theorem dX5_isAheadOf_78 : decode cX5_isAheadOf 78 = .ok (.iconst 1, 1) := by decide +kernel
theorem dX5_isAheadOf_79 : decode cX5_isAheadOf 79 = .ok (.goto 4, 3) := by decide +kernel
theorem dX5_isAheadOf_82 : decode cX5_isAheadOf 82 = .ok (.iconst 0, 1) := by decide +kernel
theorem dX5_isAheadOf_83 : decode cX5_isAheadOf 83 = .ok (.ireturn, 1) := by decide +kernel
theorem dX5_isAheadOf_84 : decode cX5_isAheadOf 84 = .ok (.aload_n 0, 1) := by decide +kernel
theorem dX5_isAheadOf_85 : decode cX5_isAheadOf 85 = .ok (.getfield 16, 3) := by decide +kernel
theorem dX5_isAheadOf_88 : decode cX5_isAheadOf 88 = .ok (.aload_n 1, 1) := by decide +kernel
theorem dX5_isAheadOf_89 : decode cX5_isAheadOf 89 = .ok (.getfield 16, 3) := by decide +kernel
theorem dX5_isAheadOf_92 : decode cX5_isAheadOf 92 = .ok (.if_icmp .ge 7, 3) := by decide +kernel
theorem dX5_isAheadOf_95 : decode cX5_isAheadOf 95 = .ok (.iconst 1, 1) := by decide +kernel
theorem dX5_isAheadOf_96 : decode cX5_isAheadOf 96 = .ok (.goto 4, 3) := by decide +kernel
theorem dX5_isAheadOf_99 : decode cX5_isAheadOf 99 = .ok (.iconst 0, 1) := by decide +kernel
theorem dX5_isAheadOf_100 : decode cX5_isAheadOf 100 = .ok (.ireturn, 1) := by decide +kernel
theorem dX6_init_0 : decode cX6_init 0 = .ok (.aload_n 0, 1) := by decide +kernel
theorem dX6_init_1 : decode cX6_init 1 = .ok (.invokespecial 1, 3) := by decide +kernel
theorem dX6_init_4 : decode cX6_init 4 = .ok (.return_, 1) := by decide +kernel
theorem dX6_copyFrom_0 : decode cX6_copyFrom 0 = .ok (.aload_n 0, 1) := by decide +kernel
theorem dX6_copyFrom_1 : decode cX6_copyFrom 1 = .ok (.aload_n 1, 1) := by decide +kernel
theorem dX6_copyFrom_2 : decode cX6_copyFrom 2 = .ok (.getfield 7, 3) := by decide +kernel
theorem dX6_copyFrom_5 : decode cX6_copyFrom 5 = .ok (.putfield 7, 3) := by decide +kernel
theorem dX6_copyFrom_8 : decode cX6_copyFrom 8 = .ok (.aload_n 0, 1) := by decide +kernel
theorem dX6_copyFrom_9 : decode cX6_copyFrom 9 = .ok (.aload_n 1, 1) := by decide +kernel
theorem dX6_copyFrom_10 : decode cX6_copyFrom 10 = .ok (.getfield 13, 3) := by decide +kernel
theorem dX6_copyFrom_13 : decode cX6_copyFrom 13 = .ok (.putfield 13, 3) := by decide +kernel
theorem dX6_copyFrom_16 : decode cX6_copyFrom 16 = .ok (.aload_n 0, 1) := by decide +kernel
theorem dX6_copyFrom_17 : decode cX6_copyFrom 17 = .ok (.aload_n 1, 1) := by decide +kernel
theorem dX6_copyFrom_18 : decode cX6_copyFrom 18 = .ok (.getfield 16, 3) := by decide +kernel
theorem dX6_copyFrom_21 : decode cX6_copyFrom 21 = .ok (.putfield 16, 3) := by decide +kernel
theorem dX6_copyFrom_24 : decode cX6_copyFrom 24 = .ok (.aload_n 0, 1) := by decide +kernel
theorem dX6_copyFrom_25 : decode cX6_copyFrom 25 = .ok (.aload_n 1, 1) := by decide +kernel
theorem dX6_copyFrom_26 : decode cX6_copyFrom 26 = .ok (.getfield 19, 3) := by decide +kernel
theorem dX6_copyFrom_29 : decode cX6_copyFrom 29 = .ok (.putfield 19, 3) := by decide +kernel
theorem dX6_copyFrom_32 : decode cX6_copyFrom 32 = .ok (.aload_n 0, 1) := by decide +kernel
theorem dX6_copyFrom_33 : decode cX6_copyFrom 33 = .ok (.aload_n 1, 1) := by decide +kernel
theorem dX6_copyFrom_34 : decode cX6_copyFrom 34 = .ok (.getfield 22, 3) := by decide +kernel
theorem dX6_copyFrom_37 : decode cX6_copyFrom 37 = .ok (.putfield 22, 3) := by decide +kernel
theorem dX6_copyFrom_40 : decode cX6_copyFrom 40 = .ok (.aload_n 0, 1) := by decide +kernel
theorem dX6_copyFrom_41 : decode cX6_copyFrom 41 = .ok (.aload_n 1, 1) := by decide +kernel
theorem dX6_copyFrom_42 : decode cX6_copyFrom 42 = .ok (.getfield 25, 3) := by decide +kernel
theorem dX6_copyFrom_45 : decode cX6_copyFrom 45 = .ok (.putfield 25, 3) := by decide +kernel
theorem dX6_copyFrom_48 : decode cX6_copyFrom 48 = .ok (.aload_n 0, 1) := by decide +kernel
theorem dX6_copyFrom_49 : decode cX6_copyFrom 49 = .ok (.aload_n 1, 1) := by decide +kernel
theorem dX6_copyFrom_50 : decode cX6_copyFrom 50 = .ok (.getfield 28, 3) := by decide +kernel
theorem dX6_copyFrom_53 : decode cX6_copyFrom 53 = .ok (.putfield 28, 3) := by decide +kernel
theorem dX6_copyFrom_56 : decode cX6_copyFrom 56 = .ok (.return_, 1) := by decide +kernel
theorem dX7_init_0 : decode cX7_init 0 = .ok (.aload_n 0, 1) := by decide +kernel
theorem dX7_init_1 : decode cX7_init 1 = .ok (.invokespecial 3, 3) := by decide +kernel
theorem dX7_init_4 : decode cX7_init 4 = .ok (.aload_n 0, 1) := by decide +kernel
theorem dX7_init_5 : decode cX7_init 5 = .ok (.sipush 600, 3) := by decide +kernel
theorem dX7_init_8 : decode cX7_init 8 = .ok (.newarray .byte, 2) := by decide +kernel
theorem dX7_init_10 : decode cX7_init 10 = .ok (.putfield 9, 3) := by decide +kernel
theorem dX7_init_13 : decode cX7_init 13 = .ok (.return_, 1) := by decide +kernel
theorem dX7_clear_0 : decode cX7_clear 0 = .ok (.aload_n 0, 1) := by decide +kernel
theorem dX7_clear_1 : decode cX7_clear 1 = .ok (.iconst 0, 1) := by decide +kernel
theorem dX7_clear_2 : decode cX7_clear 2 = .ok (.putfield 15, 3) := by decide +kernel
theorem dX7_clear_5 : decode cX7_clear 5 = .ok (.return_, 1) := by decide +kernel
theorem dX7_put_0 : decode cX7_put 0 = .ok (.aload_n 0, 1) := by decide +kernel
theorem dX7_put_1 : decode cX7_put 1 = .ok (.getfield 15, 3) := by decide +kernel
theorem dX7_put_4 : decode cX7_put 4 = .ok (.ifCond .lt 34, 3) := by decide +kernel
theorem dX7_put_7 : decode cX7_put 7 = .ok (.aload_n 0, 1) := by decide +kernel
theorem dX7_put_8 : decode cX7_put 8 = .ok (.getfield 15, 3) := by decide +kernel
theorem dX7_put_11 : decode cX7_put 11 = .ok (.sipush 600, 3) := by decide +kernel
theorem dX7_put_14 : decode cX7_put 14 = .ok (.if_icmp .ge 24, 3) := by decide +kernel
theorem dX7_put_17 : decode cX7_put 17 = .ok (.aload_n 0, 1) := by decide +kernel
theorem dX7_put_18 : decode cX7_put 18 = .ok (.getfield 9, 3) := by decide +kernel
theorem dX7_put_21 : decode cX7_put 21 = .ok (.aload_n 0, 1) := by decide +kernel
theorem dX7_put_22 : decode cX7_put 22 = .ok (.getfield 15, 3) := by decide +kernel
theorem dX7_put_25 : decode cX7_put 25 = .ok (.iload_n 1, 1) := by decide +kernel
theorem dX7_put_26 : decode cX7_put 26 = .ok (.i2b, 1) := by decide +kernel
theorem dX7_put_27 : decode cX7_put 27 = .ok (.bastore, 1) := by decide +kernel
theorem dX7_put_28 : decode cX7_put 28 = .ok (.aload_n 0, 1) := by decide +kernel
theorem dX7_put_29 : decode cX7_put 29 = .ok (.dup, 1) := by decide +kernel
theorem dX7_put_30 : decode cX7_put 30 = .ok (.getfield 15, 3) := by decide +kernel
theorem dX7_put_33 : decode cX7_put 33 = .ok (.iconst 1, 1) := by decide +kernel
theorem dX7_put_34 : decode cX7_put 34 = .ok (.iadd, 1) := by decide +kernel
theorem dX7_put_35 : decode cX7_put 35 = .ok (.putfield 15, 3) := by decide +kernel
theorem dX7_put_38 : decode cX7_put 38 = .ok (.return_, 1) := by decide +kernel
theorem dX7_putWord_0 : decode cX7_putWord 0 = .ok (.iconst 0, 1) := by decide +kernel
theorem dX7_putWord_1 : decode cX7_putWord 1 = .ok (.istore_n 2, 1) := by decide +kernel
theorem dX7_putWord_2 : decode cX7_putWord 2 = .ok (.iload_n 2, 1) := by decide +kernel
theorem dX7_putWord_3 : decode cX7_putWord 3 = .ok (.aload_n 1, 1) := by decide +kernel
theorem dX7_putWord_4 : decode cX7_putWord 4 = .ok (.invokevirtual 19, 3) := by decide +kernel
theorem dX7_putWord_7 : decode cX7_putWord 7 = .ok (.if_icmp .ge 18, 3) := by decide +kernel
theorem dX7_putWord_10 : decode cX7_putWord 10 = .ok (.aload_n 0, 1) := by decide +kernel
theorem dX7_putWord_11 : decode cX7_putWord 11 = .ok (.aload_n 1, 1) := by decide +kernel
theorem dX7_putWord_12 : decode cX7_putWord 12 = .ok (.iload_n 2, 1) := by decide +kernel
theorem dX7_putWord_13 : decode cX7_putWord 13 = .ok (.invokevirtual 24, 3) := by decide +kernel
theorem dX7_putWord_16 : decode cX7_putWord 16 = .ok (.invokevirtual 28, 3) := by decide +kernel
theorem dX7_putWord_19 : decode cX7_putWord 19 = .ok (.iinc 2 1, 3) := by decide +kernel
theorem dX7_putWord_22 : decode cX7_putWord 22 = .ok (.goto (-20), 3) := by decide +kernel
theorem dX7_putWord_25 : decode cX7_putWord 25 = .ok (.return_, 1) := by decide +kernel
theorem dX7_putNumber_0 : decode cX7_putNumber 0 = .ok (.sipush 1000, 3) := by decide +kernel
theorem dX7_putNumber_3 : decode cX7_putNumber 3 = .ok (.istore_n 2, 1) := by decide +kernel
theorem dX7_putNumber_4 : decode cX7_putNumber 4 = .ok (.iload_n 2, 1) := by decide +kernel
theorem dX7_putNumber_5 : decode cX7_putNumber 5 = .ok (.ifCond .le 35, 3) := by decide +kernel
theorem dX7_putNumber_8 : decode cX7_putNumber 8 = .ok (.iload_n 1, 1) := by decide +kernel
theorem dX7_putNumber_9 : decode cX7_putNumber 9 = .ok (.iload_n 2, 1) := by decide +kernel
theorem dX7_putNumber_10 : decode cX7_putNumber 10 = .ok (.if_icmp .ge 8, 3) := by decide +kernel
theorem dX7_putNumber_13 : decode cX7_putNumber 13 = .ok (.iload_n 2, 1) := by decide +kernel
theorem dX7_putNumber_14 : decode cX7_putNumber 14 = .ok (.iconst 1, 1) := by decide +kernel
theorem dX7_putNumber_15 : decode cX7_putNumber 15 = .ok (.if_icmp .ne 17, 3) := by decide +kernel
theorem dX7_putNumber_18 : decode cX7_putNumber 18 = .ok (.aload_n 0, 1) := by decide +kernel
theorem dX7_putNumber_19 : decode cX7_putNumber 19 = .ok (.bipush 48, 2) := by decide +kernel
theorem dX7_putNumber_21 : decode cX7_putNumber 21 = .ok (.iload_n 1, 1) := by decide +kernel
theorem dX7_putNumber_22 : decode cX7_putNumber 22 = .ok (.iload_n 2, 1) := by decide +kernel
theorem dX7_putNumber_23 : decode cX7_putNumber 23 = .ok (.idiv, 1) := by decide +kernel
theorem dX7_putNumber_24 : decode cX7_putNumber 24 = .ok (.bipush 10, 2) := by decide +kernel
theorem dX7_putNumber_26 : decode cX7_putNumber 26 = .ok (.irem, 1) := by decide +kernel
theorem dX7_putNumber_27 : decode cX7_putNumber 27 = .ok (.iadd, 1) := by decide +kernel
theorem dX7_putNumber_28 : decode cX7_putNumber 28 = .ok (.i2c, 1) := by decide +kernel
theorem dX7_putNumber_29 : decode cX7_putNumber 29 = .ok (.invokevirtual 28, 3) := by decide +kernel
theorem dX7_putNumber_32 : decode cX7_putNumber 32 = .ok (.iload_n 2, 1) := by decide +kernel
theorem dX7_putNumber_33 : decode cX7_putNumber 33 = .ok (.bipush 10, 2) := by decide +kernel
theorem dX7_putNumber_35 : decode cX7_putNumber 35 = .ok (.idiv, 1) := by decide +kernel
theorem dX7_putNumber_36 : decode cX7_putNumber 36 = .ok (.istore_n 2, 1) := by decide +kernel
theorem dX7_putNumber_37 : decode cX7_putNumber 37 = .ok (.goto (-33), 3) := by decide +kernel
theorem dX7_putNumber_40 : decode cX7_putNumber 40 = .ok (.return_, 1) := by decide +kernel
theorem dX7_putBlankAndNumber_0 : decode cX7_putBlankAndNumber 0 = .ok (.aload_n 0, 1) := by decide +kernel
theorem dX7_putBlankAndNumber_1 : decode cX7_putBlankAndNumber 1 = .ok (.bipush 32, 2) := by decide +kernel
theorem dX7_putBlankAndNumber_3 : decode cX7_putBlankAndNumber 3 = .ok (.invokevirtual 28, 3) := by decide +kernel
theorem dX7_putBlankAndNumber_6 : decode cX7_putBlankAndNumber 6 = .ok (.aload_n 0, 1) := by decide +kernel
theorem dX7_putBlankAndNumber_7 : decode cX7_putBlankAndNumber 7 = .ok (.iload_n 1, 1) := by decide +kernel
theorem dX7_putBlankAndNumber_8 : decode cX7_putBlankAndNumber 8 = .ok (.invokevirtual 32, 3) := by decide +kernel
theorem dX7_putBlankAndNumber_11 : decode cX7_putBlankAndNumber 11 = .ok (.return_, 1) := by decide +kernel
