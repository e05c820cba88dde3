theorem dX8_init_0 : decode cX8_init 0 = .ok (.aload_n 0, 1) := by decide +kernel
theorem dX8_init_1 : decode cX8_init 1 = .ok (.invokespecial 1, 3) := by decide +kernel
theorem dX8_init_4 : decode cX8_init 4 = .ok (.aload_n 0, 1) := by decide +kernel
theorem dX8_init_5 : decode cX8_init 5 = .ok (.new 7, 3) := by decide +kernel
theorem dX8_init_8 : decode cX8_init 8 = .ok (.dup, 1) := by decide +kernel
theorem dX8_init_9 : decode cX8_init 9 = .ok (.invokespecial 9, 3) := by decide +kernel
theorem dX8_init_12 : decode cX8_init 12 = .ok (.putfield 10, 3) := by decide +kernel
theorem dX8_init_15 : decode cX8_init 15 = .ok (.aload_n 0, 1) := by decide +kernel
theorem dX8_init_16 : decode cX8_init 16 = .ok (.new 16, 3) := by decide +kernel
theorem dX8_init_19 : decode cX8_init 19 = .ok (.dup, 1) := by decide +kernel
theorem dX8_init_20 : decode cX8_init 20 = .ok (.invokespecial 18, 3) := by decide +kernel
theorem dX8_init_23 : decode cX8_init 23 = .ok (.putfield 19, 3) := by decide +kernel
theorem dX8_init_26 : decode cX8_init 26 = .ok (.aload_n 0, 1) := by decide +kernel
theorem dX8_init_27 : decode cX8_init 27 = .ok (.new 16, 3) := by decide +kernel
theorem dX8_init_30 : decode cX8_init 30 = .ok (.dup, 1) := by decide +kernel
theorem dX8_init_31 : decode cX8_init 31 = .ok (.invokespecial 18, 3) := by decide +kernel
theorem dX8_init_34 : decode cX8_init 34 = .ok (.putfield 23, 3) := by decide +kernel
theorem dX8_init_37 : decode cX8_init 37 = .ok (.aload_n 0, 1) := by decide +kernel
theorem dX8_init_38 : decode cX8_init 38 = .ok (.bipush 8, 2) := by decide +kernel
theorem dX8_init_40 : decode cX8_init 40 = .ok (.anewarray 16, 3) := by decide +kernel
theorem dX8_init_43 : decode cX8_init 43 = .ok (.putfield 26, 3) := by decide +kernel
theorem dX8_init_46 : decode cX8_init 46 = .ok (.aload_n 0, 1) := by decide +kernel
theorem dX8_init_47 : decode cX8_init 47 = .ok (.iconst 2, 1) := by decide +kernel
theorem dX8_init_48 : decode cX8_init 48 = .ok (.anewarray 16, 3) := by decide +kernel
theorem dX8_init_51 : decode cX8_init 51 = .ok (.putfield 30, 3) := by decide +kernel
theorem dX8_init_54 : decode cX8_init 54 = .ok (.aload_n 0, 1) := by decide +kernel
theorem dX8_init_55 : decode cX8_init 55 = .ok (.iconst 2, 1) := by decide +kernel
theorem dX8_init_56 : decode cX8_init 56 = .ok (.newarray .boolean, 2) := by decide +kernel
theorem dX8_init_58 : decode cX8_init 58 = .ok (.putfield 33, 3) := by decide +kernel
theorem dX8_init_61 : decode cX8_init 61 = .ok (.aload_n 0, 1) := by decide +kernel
theorem dX8_init_62 : decode cX8_init 62 = .ok (.new 37, 3) := by decide +kernel
theorem dX8_init_65 : decode cX8_init 65 = .ok (.dup, 1) := by decide +kernel
theorem dX8_init_66 : decode cX8_init 66 = .ok (.invokespecial 39, 3) := by decide +kernel
theorem dX8_init_69 : decode cX8_init 69 = .ok (.putfield 40, 3) := by decide +kernel
theorem dX8_init_72 : decode cX8_init 72 = .ok (.iconst 0, 1) := by decide +kernel
theorem dX8_init_73 : decode cX8_init 73 = .ok (.istore_n 1, 1) := by decide +kernel
theorem dX8_init_74 : decode cX8_init 74 = .ok (.iload_n 1, 1) := by decide +kernel
theorem dX8_init_75 : decode cX8_init 75 = .ok (.bipush 8, 2) := by decide +kernel
theorem dX8_init_77 : decode cX8_init 77 = .ok (.if_icmp .ge 22, 3) := by decide +kernel
theorem dX8_init_80 : decode cX8_init 80 = .ok (.aload_n 0, 1) := by decide +kernel
theorem dX8_init_81 : decode cX8_init 81 = .ok (.getfield 26, 3) := by decide +kernel
theorem dX8_init_84 : decode cX8_init 84 = .ok (.iload_n 1, 1) := by decide +kernel
theorem dX8_init_85 : decode cX8_init 85 = .ok (.new 16, 3) := by decide +kernel
theorem dX8_init_88 : decode cX8_init 88 = .ok (.dup, 1) := by decide +kernel
theorem dX8_init_89 : decode cX8_init 89 = .ok (.invokespecial 18, 3) := by decide +kernel
theorem dX8_init_92 : decode cX8_init 92 = .ok (.aastore, 1) := by decide +kernel
theorem dX8_init_93 : decode cX8_init 93 = .ok (.iinc 1 1, 3) := by decide +kernel
theorem dX8_init_96 : decode cX8_init 96 = .ok (.goto (-22), 3) := by decide +kernel
theorem dX8_init_99 : decode cX8_init 99 = .ok (.iconst 0, 1) := by decide +kernel
theorem dX8_init_100 : decode cX8_init 100 = .ok (.istore_n 1, 1) := by decide +kernel
theorem dX8_init_101 : decode cX8_init 101 = .ok (.iload_n 1, 1) := by decide +kernel
theorem dX8_init_102 : decode cX8_init 102 = .ok (.iconst 2, 1) := by decide +kernel
theorem dX8_init_103 : decode cX8_init 103 = .ok (.if_icmp .ge 22, 3) := by decide +kernel
theorem dX8_init_106 : decode cX8_init 106 = .ok (.aload_n 0, 1) := by decide +kernel
theorem dX8_init_107 : decode cX8_init 107 = .ok (.getfield 30, 3) := by decide +kernel
theorem dX8_init_110 : decode cX8_init 110 = .ok (.iload_n 1, 1) := by decide +kernel
theorem dX8_init_111 : decode cX8_init 111 = .ok (.new 16, 3) := by decide +kernel
theorem dX8_init_114 : decode cX8_init 114 = .ok (.dup, 1) := by decide +kernel
theorem dX8_init_115 : decode cX8_init 115 = .ok (.invokespecial 18, 3) := by decide +kernel
theorem dX8_init_118 : decode cX8_init 118 = .ok (.aastore, 1) := by decide +kernel
theorem dX8_init_119 : decode cX8_init 119 = .ok (.iinc 1 1, 3) := by decide +kernel
theorem dX8_init_122 : decode cX8_init 122 = .ok (.goto (-21), 3) := by decide +kernel
theorem dX8_init_125 : decode cX8_init 125 = .ok (.return_, 1) := by decide +kernel
theorem dX8_append_0 : decode cX8_append 0 = .ok (.aload_n 0, 1) := by decide +kernel
theorem dX8_append_1 : decode cX8_append 1 = .ok (.getfield 10, 3) := by decide +kernel
theorem dX8_append_4 : decode cX8_append 4 = .ok (.getfield 44, 3) := by decide +kernel
theorem dX8_append_7 : decode cX8_append 7 = .ok (.bipush 20, 2) := by decide +kernel
theorem dX8_append_9 : decode cX8_append 9 = .ok (.iadd, 1) := by decide +kernel
theorem dX8_append_10 : decode cX8_append 10 = .ok (.sipush 600, 3) := by decide +kernel
theorem dX8_append_13 : decode cX8_append 13 = .ok (.if_icmp .le 5, 3) := by decide +kernel
theorem dX8_append_16 : decode cX8_append 16 = .ok (.iconst (-1), 1) := by decide +kernel
theorem dX8_append_17 : decode cX8_append 17 = .ok (.ireturn, 1) := by decide +kernel
theorem dX8_append_18 : decode cX8_append 18 = .ok (.aload_n 0, 1) := by decide +kernel
theorem dX8_append_19 : decode cX8_append 19 = .ok (.getfield 10, 3) := by decide +kernel
theorem dX8_append_22 : decode cX8_append 22 = .ok (.iload_n 1, 1) := by decide +kernel
theorem dX8_append_23 : decode cX8_append 23 = .ok (.invokevirtual 48, 3) := by decide +kernel
theorem dX8_append_26 : decode cX8_append 26 = .ok (.aload_n 0, 1) := by decide +kernel
theorem dX8_append_27 : decode cX8_append 27 = .ok (.getfield 10, 3) := by decide +kernel
theorem dX8_append_30 : decode cX8_append 30 = .ok (.iload_n 2, 1) := by decide +kernel
theorem dX8_append_31 : decode cX8_append 31 = .ok (.invokevirtual 48, 3) := by decide +kernel
theorem dX8_append_34 : decode cX8_append 34 = .ok (.aload_n 0, 1) := by decide +kernel
theorem dX8_append_35 : decode cX8_append 35 = .ok (.getfield 10, 3) := by decide +kernel
theorem dX8_append_38 : decode cX8_append 38 = .ok (.iload_n 3, 1) := by decide +kernel
theorem dX8_append_39 : decode cX8_append 39 = .ok (.invokevirtual 48, 3) := by decide +kernel
theorem dX8_append_42 : decode cX8_append 42 = .ok (.aload_n 0, 1) := by decide +kernel
theorem dX8_append_43 : decode cX8_append 43 = .ok (.getfield 10, 3) := by decide +kernel
theorem dX8_append_46 : decode cX8_append 46 = .ok (.iload 4, 2) := by decide +kernel
theorem dX8_append_48 : decode cX8_append 48 = .ok (.invokevirtual 48, 3) := by decide +kernel
theorem dX8_append_51 : decode cX8_append 51 = .ok (.aload_n 0, 1) := by decide +kernel
theorem dX8_append_52 : decode cX8_append 52 = .ok (.getfield 10, 3) := by decide +kernel
theorem dX8_append_55 : decode cX8_append 55 = .ok (.iload 5, 2) := by decide +kernel
theorem dX8_append_57 : decode cX8_append 57 = .ok (.invokevirtual 48, 3) := by decide +kernel
theorem dX8_append_60 : decode cX8_append 60 = .ok (.aload_n 0, 1) := by decide +kernel
theorem dX8_append_61 : decode cX8_append 61 = .ok (.getfield 10, 3) := by decide +kernel
theorem dX8_append_64 : decode cX8_append 64 = .ok (.getfield 44, 3) := by decide +kernel
theorem dX8_append_67 : decode cX8_append 67 = .ok (.ireturn, 1) := by decide +kernel
theorem dX8_load_0 : decode cX8_load 0 = .ok (.iload_n 1, 1) := by decide +kernel
theorem dX8_load_1 : decode cX8_load 1 = .ok (.ifCond .lt 14, 3) := by decide +kernel
theorem dX8_load_4 : decode cX8_load 4 = .ok (.iload_n 1, 1) := by decide +kernel
theorem dX8_load_5 : decode cX8_load 5 = .ok (.aload_n 0, 1) := by decide +kernel
theorem dX8_load_6 : decode cX8_load 6 = .ok (.getfield 10, 3) := by decide +kernel
theorem dX8_load_9 : decode cX8_load 9 = .ok (.getfield 44, 3) := by decide +kernel
theorem dX8_load_12 : decode cX8_load 12 = .ok (.if_icmp .le 11, 3) := by decide +kernel
theorem dX8_load_15 : decode cX8_load 15 = .ok (.new 52, 3) := by decide +kernel
theorem dX8_load_18 : decode cX8_load 18 = .ok (.dup, 1) := by decide +kernel
theorem dX8_load_19 : decode cX8_load 19 = .ok (.invokespecial 54, 3) := by decide +kernel
theorem dX8_load_22 : decode cX8_load 22 = .ok (.athrow, 1) := by decide +kernel
theorem dX8_load_23 : decode cX8_load 23 = .ok (.aload_n 0, 1) := by decide +kernel
theorem dX8_load_24 : decode cX8_load 24 = .ok (.getfield 10, 3) := by decide +kernel
theorem dX8_load_27 : decode cX8_load 27 = .ok (.iload_n 1, 1) := by decide +kernel
theorem dX8_load_28 : decode cX8_load 28 = .ok (.aload_n 0, 1) := by decide +kernel
theorem dX8_load_29 : decode cX8_load 29 = .ok (.getfield 23, 3) := by decide +kernel
theorem dX8_load_32 : decode cX8_load 32 = .ok (.invokevirtual 55, 3) := by decide +kernel
theorem dX8_load_35 : decode cX8_load 35 = .ok (.aload_n 0, 1) := by decide +kernel
theorem dX8_load_36 : decode cX8_load 36 = .ok (.getfield 10, 3) := by decide +kernel
theorem dX8_load_39 : decode cX8_load 39 = .ok (.getfield 59, 3) := by decide +kernel
theorem dX8_load_42 : decode cX8_load 42 = .ok (.ifCond .eq 11, 3) := by decide +kernel
theorem dX8_load_45 : decode cX8_load 45 = .ok (.new 62, 3) := by decide +kernel
theorem dX8_load_48 : decode cX8_load 48 = .ok (.dup, 1) := by decide +kernel
theorem dX8_load_49 : decode cX8_load 49 = .ok (.invokespecial 64, 3) := by decide +kernel
theorem dX8_load_52 : decode cX8_load 52 = .ok (.athrow, 1) := by decide +kernel
theorem dX8_load_53 : decode cX8_load 53 = .ok (.aload_n 0, 1) := by decide +kernel
theorem dX8_load_54 : decode cX8_load 54 = .ok (.getfield 19, 3) := by decide +kernel
theorem dX8_load_57 : decode cX8_load 57 = .ok (.aload_n 0, 1) := by decide +kernel
theorem dX8_load_58 : decode cX8_load 58 = .ok (.getfield 23, 3) := by decide +kernel
theorem dX8_load_61 : decode cX8_load 61 = .ok (.invokevirtual 65, 3) := by decide +kernel
theorem dX8_load_64 : decode cX8_load 64 = .ok (.aload_n 0, 1) := by decide +kernel
theorem dX8_load_65 : decode cX8_load 65 = .ok (.iconst 1, 1) := by decide +kernel
theorem dX8_load_66 : decode cX8_load 66 = .ok (.putfield 69, 3) := by decide +kernel
theorem dX8_load_69 : decode cX8_load 69 = .ok (.aload_n 0, 1) := by decide +kernel
theorem dX8_load_70 : decode cX8_load 70 = .ok (.invokevirtual 73, 3) := by decide +kernel
theorem dX8_load_73 : decode cX8_load 73 = .ok (.iconst 0, 1) := by decide +kernel
theorem dX8_load_74 : decode cX8_load 74 = .ok (.istore_n 2, 1) := by decide +kernel
theorem dX8_load_75 : decode cX8_load 75 = .ok (.iload_n 2, 1) := by decide +kernel
theorem dX8_load_76 : decode cX8_load 76 = .ok (.iconst 2, 1) := by decide +kernel
theorem dX8_load_77 : decode cX8_load 77 = .ok (.if_icmp .ge 16, 3) := by decide +kernel
theorem dX8_load_80 : decode cX8_load 80 = .ok (.aload_n 0, 1) := by decide +kernel
theorem dX8_load_81 : decode cX8_load 81 = .ok (.getfield 33, 3) := by decide +kernel
theorem dX8_load_84 : decode cX8_load 84 = .ok (.iload_n 2, 1) := by decide +kernel
theorem dX8_load_85 : decode cX8_load 85 = .ok (.iconst 0, 1) := by decide +kernel
theorem dX8_load_86 : decode cX8_load 86 = .ok (.bastore, 1) := by decide +kernel
theorem dX8_load_87 : decode cX8_load 87 = .ok (.iinc 2 1, 3) := by decide +kernel
theorem dX8_load_90 : decode cX8_load 90 = .ok (.goto (-15), 3) := by decide +kernel
theorem dX8_load_93 : decode cX8_load 93 = .ok (.aload_n 0, 1) := by decide +kernel
theorem dX8_load_94 : decode cX8_load 94 = .ok (.getfield 19, 3) := by decide +kernel
theorem dX8_load_97 : decode cX8_load 97 = .ok (.getfield 76, 3) := by decide +kernel
theorem dX8_load_100 : decode cX8_load 100 = .ok (.ireturn, 1) := by decide +kernel
theorem dX8_parseError_0 : decode cX8_parseError 0 = .ok (.aload_n 0, 1) := by decide +kernel
theorem dX8_parseError_1 : decode cX8_parseError 1 = .ok (.getfield 10, 3) := by decide +kernel
theorem dX8_parseError_4 : decode cX8_parseError 4 = .ok (.getfield 59, 3) := by decide +kernel
theorem dX8_parseError_7 : decode cX8_parseError 7 = .ok (.ireturn, 1) := by decide +kernel
theorem dX8_errorPosition_0 : decode cX8_errorPosition 0 = .ok (.aload_n 0, 1) := by decide +kernel
theorem dX8_errorPosition_1 : decode cX8_errorPosition 1 = .ok (.getfield 10, 3) := by decide +kernel
theorem dX8_errorPosition_4 : decode cX8_errorPosition 4 = .ok (.getfield 79, 3) := by decide +kernel
theorem dX8_errorPosition_7 : decode cX8_errorPosition 7 = .ok (.ireturn, 1) := by decide +kernel
theorem dX8_count_0 : decode cX8_count 0 = .ok (.aload_n 0, 1) := by decide +kernel
theorem dX8_count_1 : decode cX8_count 1 = .ok (.invokevirtual 82, 3) := by decide +kernel
theorem dX8_count_4 : decode cX8_count 4 = .ok (.iload_n 1, 1) := by decide +kernel
theorem dX8_count_5 : decode cX8_count 5 = .ok (.tableswitch 279 0 19 #[95, 103, 111, 119, 127, 135, 143, 151, 159, 167, 175, 183, 191, 202, 213, 224, 235, 246, 257, 268], 95) := by decide +kernel
theorem dX8_count_100 : decode cX8_count 100 = .ok (.aload_n 0, 1) := by decide +kernel
theorem dX8_count_101 : decode cX8_count 101 = .ok (.getfield 19, 3) := by decide +kernel
theorem dX8_count_104 : decode cX8_count 104 = .ok (.getfield 76, 3) := by decide +kernel
theorem dX8_count_107 : decode cX8_count 107 = .ok (.ireturn, 1) := by decide +kernel
theorem dX8_count_108 : decode cX8_count 108 = .ok (.aload_n 0, 1) := by decide +kernel
theorem dX8_count_109 : decode cX8_count 109 = .ok (.getfield 19, 3) := by decide +kernel
theorem dX8_count_112 : decode cX8_count 112 = .ok (.getfield 85, 3) := by decide +kernel
theorem dX8_count_115 : decode cX8_count 115 = .ok (.ireturn, 1) := by decide +kernel
theorem dX8_count_116 : decode cX8_count 116 = .ok (.aload_n 0, 1) := by decide +kernel
theorem dX8_count_117 : decode cX8_count 117 = .ok (.getfield 19, 3) := by decide +kernel
theorem dX8_count_120 : decode cX8_count 120 = .ok (.getfield 88, 3) := by decide +kernel
theorem dX8_count_123 : decode cX8_count 123 = .ok (.ireturn, 1) := by decide +kernel
theorem dX8_count_124 : decode cX8_count 124 = .ok (.aload_n 0, 1) := by decide +kernel
theorem dX8_count_125 : decode cX8_count 125 = .ok (.getfield 19, 3) := by decide +kernel
theorem dX8_count_128 : decode cX8_count 128 = .ok (.getfield 91, 3) := by decide +kernel
theorem dX8_count_131 : decode cX8_count 131 = .ok (.ireturn, 1) := by decide +kernel
theorem dX8_count_132 : decode cX8_count 132 = .ok (.aload_n 0, 1) := by decide +kernel
theorem dX8_count_133 : decode cX8_count 133 = .ok (.getfield 19, 3) := by decide +kernel
theorem dX8_count_136 : decode cX8_count 136 = .ok (.getfield 94, 3) := by decide +kernel
theorem dX8_count_139 : decode cX8_count 139 = .ok (.ireturn, 1) := by decide +kernel
theorem dX8_count_140 : decode cX8_count 140 = .ok (.aload_n 0, 1) := by decide +kernel
theorem dX8_count_141 : decode cX8_count 141 = .ok (.getfield 19, 3) := by decide +kernel
theorem dX8_count_144 : decode cX8_count 144 = .ok (.getfield 97, 3) := by decide +kernel
theorem dX8_count_147 : decode cX8_count 147 = .ok (.ireturn, 1) := by decide +kernel
theorem dX8_count_148 : decode cX8_count 148 = .ok (.aload_n 0, 1) := by decide +kernel
theorem dX8_count_149 : decode cX8_count 149 = .ok (.getfield 19, 3) := by decide +kernel
theorem dX8_count_152 : decode cX8_count 152 = .ok (.invokevirtual 100, 3) := by decide +kernel
theorem dX8_count_155 : decode cX8_count 155 = .ok (.ireturn, 1) := by decide +kernel
theorem dX8_count_156 : decode cX8_count 156 = .ok (.aload_n 0, 1) := by decide +kernel
theorem dX8_count_157 : decode cX8_count 157 = .ok (.getfield 19, 3) := by decide +kernel
theorem dX8_count_160 : decode cX8_count 160 = .ok (.getfield 104, 3) := by decide +kernel
theorem dX8_count_163 : decode cX8_count 163 = .ok (.ireturn, 1) := by decide +kernel
theorem dX8_count_164 : decode cX8_count 164 = .ok (.aload_n 0, 1) := by decide +kernel
theorem dX8_count_165 : decode cX8_count 165 = .ok (.getfield 19, 3) := by decide +kernel
theorem dX8_count_168 : decode cX8_count 168 = .ok (.getfield 107, 3) := by decide +kernel
theorem dX8_count_171 : decode cX8_count 171 = .ok (.ireturn, 1) := by decide +kernel
theorem dX8_count_172 : decode cX8_count 172 = .ok (.aload_n 0, 1) := by decide +kernel
theorem dX8_count_173 : decode cX8_count 173 = .ok (.getfield 19, 3) := by decide +kernel
theorem dX8_count_176 : decode cX8_count 176 = .ok (.invokevirtual 110, 3) := by decide +kernel
theorem dX8_count_179 : decode cX8_count 179 = .ok (.ireturn, 1) := by decide +kernel
theorem dX8_count_180 : decode cX8_count 180 = .ok (.aload_n 0, 1) := by decide +kernel
theorem dX8_count_181 : decode cX8_count 181 = .ok (.getfield 19, 3) := by decide +kernel
theorem dX8_count_184 : decode cX8_count 184 = .ok (.invokevirtual 113, 3) := by decide +kernel
theorem dX8_count_187 : decode cX8_count 187 = .ok (.ireturn, 1) := by decide +kernel
theorem dX8_count_188 : decode cX8_count 188 = .ok (.aload_n 0, 1) := by decide +kernel
theorem dX8_count_189 : decode cX8_count 189 = .ok (.getfield 19, 3) := by decide +kernel
theorem dX8_count_192 : decode cX8_count 192 = .ok (.invokevirtual 116, 3) := by decide +kernel
theorem dX8_count_195 : decode cX8_count 195 = .ok (.ireturn, 1) := by decide +kernel
theorem dX8_count_196 : decode cX8_count 196 = .ok (.aload_n 0, 1) := by decide +kernel
theorem dX8_count_197 : decode cX8_count 197 = .ok (.getfield 19, 3) := by decide +kernel
theorem dX8_count_200 : decode cX8_count 200 = .ok (.getfield 119, 3) := by decide +kernel
theorem dX8_count_203 : decode cX8_count 203 = .ok (.getfield 123, 3) := by decide +kernel
theorem dX8_count_206 : decode cX8_count 206 = .ok (.ireturn, 1) := by decide +kernel
theorem dX8_count_207 : decode cX8_count 207 = .ok (.aload_n 0, 1) := by decide +kernel
theorem dX8_count_208 : decode cX8_count 208 = .ok (.getfield 19, 3) := by decide +kernel
theorem dX8_count_211 : decode cX8_count 211 = .ok (.getfield 128, 3) := by decide +kernel
theorem dX8_count_214 : decode cX8_count 214 = .ok (.getfield 132, 3) := by decide +kernel
theorem dX8_count_217 : decode cX8_count 217 = .ok (.ireturn, 1) := by decide +kernel
theorem dX8_count_218 : decode cX8_count 218 = .ok (.aload_n 0, 1) := by decide +kernel
theorem dX8_count_219 : decode cX8_count 219 = .ok (.getfield 19, 3) := by decide +kernel
theorem dX8_count_222 : decode cX8_count 222 = .ok (.getfield 128, 3) := by decide +kernel
theorem dX8_count_225 : decode cX8_count 225 = .ok (.getfield 137, 3) := by decide +kernel
theorem dX8_count_228 : decode cX8_count 228 = .ok (.ireturn, 1) := by decide +kernel
theorem dX8_count_229 : decode cX8_count 229 = .ok (.aload_n 0, 1) := by decide +kernel
theorem dX8_count_230 : decode cX8_count 230 = .ok (.getfield 19, 3) := by decide +kernel
theorem dX8_count_233 : decode cX8_count 233 = .ok (.getfield 128, 3) := by decide +kernel
theorem dX8_count_236 : decode cX8_count 236 = .ok (.getfield 140, 3) := by decide +kernel
theorem dX8_count_239 : decode cX8_count 239 = .ok (.ireturn, 1) := by decide +kernel
theorem dX8_count_240 : decode cX8_count 240 = .ok (.aload_n 0, 1) := by decide +kernel
theorem dX8_count_241 : decode cX8_count 241 = .ok (.getfield 19, 3) := by decide +kernel
theorem dX8_count_244 : decode cX8_count 244 = .ok (.getfield 128, 3) := by decide +kernel
theorem dX8_count_247 : decode cX8_count 247 = .ok (.getfield 143, 3) := by decide +kernel
theorem dX8_count_250 : decode cX8_count 250 = .ok (.ireturn, 1) := by decide +kernel
theorem dX8_count_251 : decode cX8_count 251 = .ok (.aload_n 0, 1) := by decide +kernel
theorem dX8_count_252 : decode cX8_count 252 = .ok (.getfield 19, 3) := by decide +kernel
theorem dX8_count_255 : decode cX8_count 255 = .ok (.getfield 128, 3) := by decide +kernel
theorem dX8_count_258 : decode cX8_count 258 = .ok (.getfield 146, 3) := by decide +kernel
theorem dX8_count_261 : decode cX8_count 261 = .ok (.ireturn, 1) := by decide +kernel
theorem dX8_count_262 : decode cX8_count 262 = .ok (.aload_n 0, 1) := by decide +kernel
theorem dX8_count_263 : decode cX8_count 263 = .ok (.getfield 19, 3) := by decide +kernel
theorem dX8_count_266 : decode cX8_count 266 = .ok (.getfield 128, 3) := by decide +kernel
theorem dX8_count_269 : decode cX8_count 269 = .ok (.getfield 149, 3) := by decide +kernel
theorem dX8_count_272 : decode cX8_count 272 = .ok (.ireturn, 1) := by decide +kernel
theorem dX8_count_273 : decode cX8_count 273 = .ok (.aload_n 0, 1) := by decide +kernel
theorem dX8_count_274 : decode cX8_count 274 = .ok (.getfield 19, 3) := by decide +kernel
theorem dX8_count_277 : decode cX8_count 277 = .ok (.getfield 128, 3) := by decide +kernel
theorem dX8_count_280 : decode cX8_count 280 = .ok (.getfield 152, 3) := by decide +kernel
theorem dX8_count_283 : decode cX8_count 283 = .ok (.ireturn, 1) := by decide +kernel
theorem dX8_count_284 : decode cX8_count 284 = .ok (.new 62, 3) := by decide +kernel
theorem dX8_count_287 : decode cX8_count 287 = .ok (.dup, 1) := by decide +kernel
theorem dX8_count_288 : decode cX8_count 288 = .ok (.invokespecial 64, 3) := by decide +kernel
theorem dX8_count_291 : decode cX8_count 291 = .ok (.athrow, 1) := by decide +kernel
theorem dX8_slot_0 : decode cX8_slot 0 = .ok (.aload_n 0, 1) := by decide +kernel
theorem dX8_slot_1 : decode cX8_slot 1 = .ok (.iload_n 1, 1) := by decide +kernel
theorem dX8_slot_2 : decode cX8_slot 2 = .ok (.invokevirtual 155, 3) := by decide +kernel
theorem dX8_slot_5 : decode cX8_slot 5 = .ok (.aload_n 0, 1) := by decide +kernel
theorem dX8_slot_6 : decode cX8_slot 6 = .ok (.getfield 19, 3) := by decide +kernel
theorem dX8_slot_9 : decode cX8_slot 9 = .ok (.getfield 158, 3) := by decide +kernel
theorem dX8_slot_12 : decode cX8_slot 12 = .ok (.iload_n 1, 1) := by decide +kernel
theorem dX8_slot_13 : decode cX8_slot 13 = .ok (.aaload, 1) := by decide +kernel
theorem dX8_slot_14 : decode cX8_slot 14 = .ok (.astore_n 3, 1) := by decide +kernel
theorem dX8_slot_15 : decode cX8_slot 15 = .ok (.iload_n 2, 1) := by decide +kernel
theorem dX8_slot_16 : decode cX8_slot 16 = .ok (.tableswitch 113 0 8 #[52, 63, 68, 73, 81, 86, 98, 103, 108], 52) := by decide +kernel
theorem dX8_slot_68 : decode cX8_slot 68 = .ok (.aload_n 3, 1) := by decide +kernel
theorem dX8_slot_69 : decode cX8_slot 69 = .ok (.getfield 162, 3) := by decide +kernel
theorem dX8_slot_72 : decode cX8_slot 72 = .ok (.getfield 168, 3) := by decide +kernel
theorem dX8_slot_75 : decode cX8_slot 75 = .ok (.invokestatic 173, 3) := by decide +kernel
theorem dX8_slot_78 : decode cX8_slot 78 = .ok (.ireturn, 1) := by decide +kernel
theorem dX8_slot_79 : decode cX8_slot 79 = .ok (.aload_n 3, 1) := by decide +kernel
theorem dX8_slot_80 : decode cX8_slot 80 = .ok (.getfield 177, 3) := by decide +kernel
theorem dX8_slot_83 : decode cX8_slot 83 = .ok (.ireturn, 1) := by decide +kernel
theorem dX8_slot_84 : decode cX8_slot 84 = .ok (.aload_n 3, 1) := by decide +kernel
theorem dX8_slot_85 : decode cX8_slot 85 = .ok (.getfield 180, 3) := by decide +kernel
theorem dX8_slot_88 : decode cX8_slot 88 = .ok (.ireturn, 1) := by decide +kernel
theorem dX8_slot_89 : decode cX8_slot 89 = .ok (.aload_n 3, 1) := by decide +kernel
theorem dX8_slot_90 : decode cX8_slot 90 = .ok (.getfield 183, 3) := by decide +kernel
theorem dX8_slot_93 : decode cX8_slot 93 = .ok (.invokestatic 173, 3) := by decide +kernel
theorem dX8_slot_96 : decode cX8_slot 96 = .ok (.ireturn, 1) := by decide +kernel
theorem dX8_slot_97 : decode cX8_slot 97 = .ok (.aload_n 3, 1) := by decide +kernel
theorem dX8_slot_98 : decode cX8_slot 98 = .ok (.getfield 186, 3) := by decide +kernel
theorem dX8_slot_101 : decode cX8_slot 101 = .ok (.ireturn, 1) := by decide +kernel
theorem dX8_slot_102 : decode cX8_slot 102 = .ok (.aload_n 0, 1) := by decide +kernel
theorem dX8_slot_103 : decode cX8_slot 103 = .ok (.getfield 19, 3) := by decide +kernel
theorem dX8_slot_106 : decode cX8_slot 106 = .ok (.aload_n 3, 1) := by decide +kernel
theorem dX8_slot_107 : decode cX8_slot 107 = .ok (.invokevirtual 189, 3) := by decide +kernel
theorem dX8_slot_110 : decode cX8_slot 110 = .ok (.invokestatic 173, 3) := by decide +kernel
theorem dX8_slot_113 : decode cX8_slot 113 = .ok (.ireturn, 1) := by decide +kernel
theorem dX8_slot_114 : decode cX8_slot 114 = .ok (.aload_n 3, 1) := by decide +kernel
theorem dX8_slot_115 : decode cX8_slot 115 = .ok (.getfield 193, 3) := by decide +kernel
theorem dX8_slot_118 : decode cX8_slot 118 = .ok (.ireturn, 1) := by decide +kernel
theorem dX8_slot_119 : decode cX8_slot 119 = .ok (.aload_n 3, 1) := by decide +kernel
theorem dX8_slot_120 : decode cX8_slot 120 = .ok (.getfield 196, 3) := by decide +kernel
theorem dX8_slot_123 : decode cX8_slot 123 = .ok (.ireturn, 1) := by decide +kernel
theorem dX8_slot_124 : decode cX8_slot 124 = .ok (.aload_n 3, 1) := by decide +kernel
theorem dX8_slot_125 : decode cX8_slot 125 = .ok (.getfield 197, 3) := by decide +kernel
theorem dX8_slot_128 : decode cX8_slot 128 = .ok (.ireturn, 1) := by decide +kernel
theorem dX8_slot_129 : decode cX8_slot 129 = .ok (.new 62, 3) := by decide +kernel
theorem dX8_slot_132 : decode cX8_slot 132 = .ok (.dup, 1) := by decide +kernel
theorem dX8_slot_133 : decode cX8_slot 133 = .ok (.invokespecial 64, 3) := by decide +kernel
theorem dX8_slot_136 : decode cX8_slot 136 = .ok (.athrow, 1) := by decide +kernel
theorem dX8_image_0 : decode cX8_image 0 = .ok (.aload_n 0, 1) := by decide +kernel
theorem dX8_image_1 : decode cX8_image 1 = .ok (.iload_n 1, 1) := by decide +kernel
theorem dX8_image_2 : decode cX8_image 2 = .ok (.invokevirtual 155, 3) := by decide +kernel
theorem dX8_image_5 : decode cX8_image 5 = .ok (.iload_n 2, 1) := by decide +kernel
theorem dX8_image_6 : decode cX8_image 6 = .ok (.iconst 0, 1) := by decide +kernel
theorem dX8_image_7 : decode cX8_image 7 = .ok (.iconst 4, 1) := by decide +kernel
theorem dX8_image_8 : decode cX8_image 8 = .ok (.invokestatic 198, 3) := by decide +kernel
theorem dX8_image_11 : decode cX8_image 11 = .ok (.aload_n 0, 1) := by decide +kernel
theorem dX8_image_12 : decode cX8_image 12 = .ok (.getfield 19, 3) := by decide +kernel
theorem dX8_image_15 : decode cX8_image 15 = .ok (.getfield 158, 3) := by decide +kernel
theorem dX8_image_18 : decode cX8_image 18 = .ok (.iload_n 1, 1) := by decide +kernel
theorem dX8_image_19 : decode cX8_image 19 = .ok (.aaload, 1) := by decide +kernel
theorem dX8_image_20 : decode cX8_image 20 = .ok (.getfield 162, 3) := by decide +kernel
theorem dX8_image_23 : decode cX8_image 23 = .ok (.astore_n 3, 1) := by decide +kernel
theorem dX8_image_24 : decode cX8_image 24 = .ok (.aload_n 3, 1) := by decide +kernel
theorem dX8_image_25 : decode cX8_image 25 = .ok (.getfield 168, 3) := by decide +kernel
theorem dX8_image_28 : decode cX8_image 28 = .ok (.ifCond .ne 5, 3) := by decide +kernel
theorem dX8_image_31 : decode cX8_image 31 = .ok (.iconst (-1), 1) := by decide +kernel
theorem dX8_image_32 : decode cX8_image 32 = .ok (.ireturn, 1) := by decide +kernel
theorem dX8_image_33 : decode cX8_image 33 = .ok (.iload_n 2, 1) := by decide +kernel
theorem dX8_image_34 : decode cX8_image 34 = .ok (.tableswitch 53 0 3 #[30, 35, 40, 45], 30) := by decide +kernel
theorem dX8_image_64 : decode cX8_image 64 = .ok (.aload_n 3, 1) := by decide +kernel
theorem dX8_image_65 : decode cX8_image 65 = .ok (.getfield 202, 3) := by decide +kernel
theorem dX8_image_68 : decode cX8_image 68 = .ok (.ireturn, 1) := by decide +kernel
theorem dX8_image_69 : decode cX8_image 69 = .ok (.aload_n 3, 1) := by decide +kernel
theorem dX8_image_70 : decode cX8_image 70 = .ok (.getfield 205, 3) := by decide +kernel
theorem dX8_image_73 : decode cX8_image 73 = .ok (.ireturn, 1) := by decide +kernel
theorem dX8_image_74 : decode cX8_image 74 = .ok (.aload_n 3, 1) := by decide +kernel
theorem dX8_image_75 : decode cX8_image 75 = .ok (.getfield 208, 3) := by decide +kernel
theorem dX8_image_78 : decode cX8_image 78 = .ok (.ireturn, 1) := by decide +kernel
theorem dX8_image_79 : decode cX8_image 79 = .ok (.aload_n 3, 1) := by decide +kernel
theorem dX8_image_80 : decode cX8_image 80 = .ok (.getfield 211, 3) := by decide +kernel
theorem dX8_image_83 : decode cX8_image 83 = .ok (.invokestatic 173, 3) := by decide +kernel
theorem dX8_image_86 : decode cX8_image 86 = .ok (.ireturn, 1) := by decide +kernel
theorem dX8_image_87 : decode cX8_image 87 = .ok (.aload_n 3, 1) := by decide +kernel
theorem dX8_image_88 : decode cX8_image 88 = .ok (.getfield 214, 3) := by decide +kernel
theorem dX8_image_91 : decode cX8_image 91 = .ok (.invokestatic 173, 3) := by decide +kernel
theorem dX8_image_94 : decode cX8_image 94 = .ok (.ireturn, 1) := by decide +kernel
theorem dX8_install_0 : decode cX8_install 0 = .ok (.aload_n 0, 1) := by decide +kernel
theorem dX8_install_1 : decode cX8_install 1 = .ok (.invokevirtual 82, 3) := by decide +kernel
theorem dX8_install_4 : decode cX8_install 4 = .ok (.iload_n 1, 1) := by decide +kernel
theorem dX8_install_5 : decode cX8_install 5 = .ok (.iconst 0, 1) := by decide +kernel
theorem dX8_install_6 : decode cX8_install 6 = .ok (.iconst 3, 1) := by decide +kernel
theorem dX8_install_7 : decode cX8_install 7 = .ok (.invokestatic 198, 3) := by decide +kernel
theorem dX8_install_10 : decode cX8_install 10 = .ok (.aload_n 0, 1) := by decide +kernel
theorem dX8_install_11 : decode cX8_install 11 = .ok (.getfield 19, 3) := by decide +kernel
theorem dX8_install_14 : decode cX8_install 14 = .ok (.getfield 217, 3) := by decide +kernel
theorem dX8_install_17 : decode cX8_install 17 = .ok (.astore_n 2, 1) := by decide +kernel
theorem dX8_install_18 : decode cX8_install 18 = .ok (.aload_n 2, 1) := by decide +kernel
theorem dX8_install_19 : decode cX8_install 19 = .ok (.invokevirtual 221, 3) := by decide +kernel
theorem dX8_install_22 : decode cX8_install 22 = .ok (.ifCond .ne 5, 3) := by decide +kernel
theorem dX8_install_25 : decode cX8_install 25 = .ok (.iconst (-1), 1) := by decide +kernel
theorem dX8_install_26 : decode cX8_install 26 = .ok (.ireturn, 1) := by decide +kernel
theorem dX8_install_27 : decode cX8_install 27 = .ok (.iload_n 1, 1) := by decide +kernel
theorem dX8_install_28 : decode cX8_install 28 = .ok (.tableswitch 46 0 2 #[28, 33, 38], 28) := by decide +kernel
theorem dX8_install_56 : decode cX8_install 56 = .ok (.aload_n 2, 1) := by decide +kernel
theorem dX8_install_57 : decode cX8_install 57 = .ok (.getfield 227, 3) := by decide +kernel
theorem dX8_install_60 : decode cX8_install 60 = .ok (.ireturn, 1) := by decide +kernel
theorem dX8_install_61 : decode cX8_install 61 = .ok (.aload_n 2, 1) := by decide +kernel
theorem dX8_install_62 : decode cX8_install 62 = .ok (.getfield 230, 3) := by decide +kernel
theorem dX8_install_65 : decode cX8_install 65 = .ok (.ireturn, 1) := by decide +kernel
theorem dX8_install_66 : decode cX8_install 66 = .ok (.aload_n 2, 1) := by decide +kernel
theorem dX8_install_67 : decode cX8_install 67 = .ok (.getfield 233, 3) := by decide +kernel
theorem dX8_install_70 : decode cX8_install 70 = .ok (.getfield 202, 3) := by decide +kernel
theorem dX8_install_73 : decode cX8_install 73 = .ok (.ireturn, 1) := by decide +kernel
theorem dX8_install_74 : decode cX8_install 74 = .ok (.aload_n 2, 1) := by decide +kernel
theorem dX8_install_75 : decode cX8_install 75 = .ok (.getfield 234, 3) := by decide +kernel
theorem dX8_install_78 : decode cX8_install 78 = .ok (.ireturn, 1) := by decide +kernel
theorem dX8_boot_0 : decode cX8_boot 0 = .ok (.aload_n 0, 1) := by decide +kernel
theorem dX8_boot_1 : decode cX8_boot 1 = .ok (.invokevirtual 82, 3) := by decide +kernel
theorem dX8_boot_4 : decode cX8_boot 4 = .ok (.iload_n 2, 1) := by decide +kernel
theorem dX8_boot_5 : decode cX8_boot 5 = .ok (.iconst 0, 1) := by decide +kernel
theorem dX8_boot_6 : decode cX8_boot 6 = .ok (.iconst 3, 1) := by decide +kernel
theorem dX8_boot_7 : decode cX8_boot 7 = .ok (.invokestatic 198, 3) := by decide +kernel
theorem dX8_boot_10 : decode cX8_boot 10 = .ok (.aload_n 0, 1) := by decide +kernel
theorem dX8_boot_11 : decode cX8_boot 11 = .ok (.getfield 19, 3) := by decide +kernel
theorem dX8_boot_14 : decode cX8_boot 14 = .ok (.getfield 119, 3) := by decide +kernel
theorem dX8_boot_17 : decode cX8_boot 17 = .ok (.iload_n 1, 1) := by decide +kernel
theorem dX8_boot_18 : decode cX8_boot 18 = .ok (.invokevirtual 235, 3) := by decide +kernel
theorem dX8_boot_21 : decode cX8_boot 21 = .ok (.istore_n 3, 1) := by decide +kernel
theorem dX8_boot_22 : decode cX8_boot 22 = .ok (.iload_n 3, 1) := by decide +kernel
theorem dX8_boot_23 : decode cX8_boot 23 = .ok (.ifCond .lt 9, 3) := by decide +kernel
theorem dX8_boot_26 : decode cX8_boot 26 = .ok (.iload_n 3, 1) := by decide +kernel
theorem dX8_boot_27 : decode cX8_boot 27 = .ok (.bipush 12, 2) := by decide +kernel
theorem dX8_boot_29 : decode cX8_boot 29 = .ok (.if_icmp .lt 6, 3) := by decide +kernel
theorem dX8_boot_32 : decode cX8_boot 32 = .ok (.bipush (-2), 2) := by decide +kernel
theorem dX8_boot_34 : decode cX8_boot 34 = .ok (.ireturn, 1) := by decide +kernel
theorem dX8_boot_35 : decode cX8_boot 35 = .ok (.iload_n 2, 1) := by decide +kernel
theorem dX8_boot_36 : decode cX8_boot 36 = .ok (.tableswitch 67 0 2 #[28, 41, 54], 28) := by decide +kernel
theorem dX8_boot_64 : decode cX8_boot 64 = .ok (.aload_n 0, 1) := by decide +kernel
theorem dX8_boot_65 : decode cX8_boot 65 = .ok (.getfield 19, 3) := by decide +kernel
theorem dX8_boot_68 : decode cX8_boot 68 = .ok (.getfield 119, 3) := by decide +kernel
theorem dX8_boot_71 : decode cX8_boot 71 = .ok (.getfield 239, 3) := by decide +kernel
theorem dX8_boot_74 : decode cX8_boot 74 = .ok (.iload_n 3, 1) := by decide +kernel
theorem dX8_boot_75 : decode cX8_boot 75 = .ok (.iaload, 1) := by decide +kernel
theorem dX8_boot_76 : decode cX8_boot 76 = .ok (.ireturn, 1) := by decide +kernel
theorem dX8_boot_77 : decode cX8_boot 77 = .ok (.aload_n 0, 1) := by decide +kernel
theorem dX8_boot_78 : decode cX8_boot 78 = .ok (.getfield 19, 3) := by decide +kernel
theorem dX8_boot_81 : decode cX8_boot 81 = .ok (.getfield 119, 3) := by decide +kernel
theorem dX8_boot_84 : decode cX8_boot 84 = .ok (.getfield 243, 3) := by decide +kernel
theorem dX8_boot_87 : decode cX8_boot 87 = .ok (.iload_n 3, 1) := by decide +kernel
theorem dX8_boot_88 : decode cX8_boot 88 = .ok (.iaload, 1) := by decide +kernel
theorem dX8_boot_89 : decode cX8_boot 89 = .ok (.ireturn, 1) := by decide +kernel
theorem dX8_boot_90 : decode cX8_boot 90 = .ok (.aload_n 0, 1) := by decide +kernel
theorem dX8_boot_91 : decode cX8_boot 91 = .ok (.getfield 19, 3) := by decide +kernel
theorem dX8_boot_94 : decode cX8_boot 94 = .ok (.getfield 119, 3) := by decide +kernel
theorem dX8_boot_97 : decode cX8_boot 97 = .ok (.getfield 246, 3) := by decide +kernel
theorem dX8_boot_100 : decode cX8_boot 100 = .ok (.iload_n 3, 1) := by decide +kernel
theorem dX8_boot_101 : decode cX8_boot 101 = .ok (.iaload, 1) := by decide +kernel
theorem dX8_boot_102 : decode cX8_boot 102 = .ok (.ireturn, 1) := by decide +kernel
theorem dX8_boot_103 : decode cX8_boot 103 = .ok (.aload_n 0, 1) := by decide +kernel
theorem dX8_boot_104 : decode cX8_boot 104 = .ok (.getfield 19, 3) := by decide +kernel
theorem dX8_boot_107 : decode cX8_boot 107 = .ok (.getfield 119, 3) := by decide +kernel
theorem dX8_boot_110 : decode cX8_boot 110 = .ok (.getfield 248, 3) := by decide +kernel
theorem dX8_boot_113 : decode cX8_boot 113 = .ok (.iload_n 3, 1) := by decide +kernel
theorem dX8_boot_114 : decode cX8_boot 114 = .ok (.iaload, 1) := by decide +kernel
theorem dX8_boot_115 : decode cX8_boot 115 = .ok (.ireturn, 1) := by decide +kernel
theorem dX8_whyNot_0 : decode cX8_whyNot 0 = .ok (.aload_n 0, 1) := by decide +kernel
theorem dX8_whyNot_1 : decode cX8_whyNot 1 = .ok (.iload_n 1, 1) := by decide +kernel
theorem dX8_whyNot_2 : decode cX8_whyNot 2 = .ok (.invokevirtual 155, 3) := by decide +kernel
theorem dX8_whyNot_5 : decode cX8_whyNot 5 = .ok (.aload_n 0, 1) := by decide +kernel
theorem dX8_whyNot_6 : decode cX8_whyNot 6 = .ok (.getfield 19, 3) := by decide +kernel
theorem dX8_whyNot_9 : decode cX8_whyNot 9 = .ok (.aload_n 0, 1) := by decide +kernel
theorem dX8_whyNot_10 : decode cX8_whyNot 10 = .ok (.getfield 19, 3) := by decide +kernel
theorem dX8_whyNot_13 : decode cX8_whyNot 13 = .ok (.getfield 158, 3) := by decide +kernel
theorem dX8_whyNot_16 : decode cX8_whyNot 16 = .ok (.iload_n 1, 1) := by decide +kernel
theorem dX8_whyNot_17 : decode cX8_whyNot 17 = .ok (.aaload, 1) := by decide +kernel
theorem dX8_whyNot_18 : decode cX8_whyNot 18 = .ok (.invokevirtual 251, 3) := by decide +kernel
theorem dX8_whyNot_21 : decode cX8_whyNot 21 = .ok (.ireturn, 1) := by decide +kernel
theorem dX8_choice_0 : decode cX8_choice 0 = .ok (.aload_n 0, 1) := by decide +kernel
theorem dX8_choice_1 : decode cX8_choice 1 = .ok (.invokevirtual 82, 3) := by decide +kernel
theorem dX8_choice_4 : decode cX8_choice 4 = .ok (.aload_n 0, 1) := by decide +kernel
theorem dX8_choice_5 : decode cX8_choice 5 = .ok (.getfield 19, 3) := by decide +kernel
theorem dX8_choice_8 : decode cX8_choice 8 = .ok (.iconst (-1), 1) := by decide +kernel
theorem dX8_choice_9 : decode cX8_choice 9 = .ok (.invokevirtual 255, 3) := by decide +kernel
theorem dX8_choice_12 : decode cX8_choice 12 = .ok (.ireturn, 1) := by decide +kernel
theorem dX8_place_0 : decode cX8_place 0 = .ok (.aload_n 0, 1) := by decide +kernel
theorem dX8_place_1 : decode cX8_place 1 = .ok (.iload_n 1, 1) := by decide +kernel
theorem dX8_place_2 : decode cX8_place 2 = .ok (.invokevirtual 155, 3) := by decide +kernel
theorem dX8_place_5 : decode cX8_place 5 = .ok (.aload_n 0, 1) := by decide +kernel
theorem dX8_place_6 : decode cX8_place 6 = .ok (.getfield 19, 3) := by decide +kernel
theorem dX8_place_9 : decode cX8_place 9 = .ok (.getfield 158, 3) := by decide +kernel
theorem dX8_place_12 : decode cX8_place 12 = .ok (.iload_n 1, 1) := by decide +kernel
theorem dX8_place_13 : decode cX8_place 13 = .ok (.aaload, 1) := by decide +kernel
theorem dX8_place_14 : decode cX8_place 14 = .ok (.astore_n 2, 1) := by decide +kernel
theorem dX8_place_15 : decode cX8_place 15 = .ok (.aload_n 0, 1) := by decide +kernel
theorem dX8_place_16 : decode cX8_place 16 = .ok (.getfield 19, 3) := by decide +kernel
theorem dX8_place_19 : decode cX8_place 19 = .ok (.aload_n 2, 1) := by decide +kernel
theorem dX8_place_20 : decode cX8_place 20 = .ok (.invokevirtual 189, 3) := by decide +kernel
theorem dX8_place_23 : decode cX8_place 23 = .ok (.ifCond .ne 5, 3) := by decide +kernel
theorem dX8_place_26 : decode cX8_place 26 = .ok (.iconst (-1), 1) := by decide +kernel
theorem dX8_place_27 : decode cX8_place 27 = .ok (.ireturn, 1) := by decide +kernel
theorem dX8_place_28 : decode cX8_place 28 = .ok (.iconst 0, 1) := by decide +kernel
theorem dX8_place_29 : decode cX8_place 29 = .ok (.istore_n 3, 1) := by decide +kernel
theorem dX8_place_30 : decode cX8_place 30 = .ok (.iconst 0, 1) := by decide +kernel
theorem dX8_place_31 : decode cX8_place 31 = .ok (.istore 4, 2) := by decide +kernel
theorem dX8_place_33 : decode cX8_place 33 = .ok (.iload 4, 2) := by decide +kernel
theorem dX8_place_35 : decode cX8_place 35 = .ok (.bipush 6, 2) := by decide +kernel
theorem dX8_place_37 : decode cX8_place 37 = .ok (.if_icmp .ge 45, 3) := by decide +kernel
theorem dX8_place_40 : decode cX8_place 40 = .ok (.aload_n 0, 1) := by decide +kernel
theorem dX8_place_41 : decode cX8_place 41 = .ok (.getfield 19, 3) := by decide +kernel
theorem dX8_place_44 : decode cX8_place 44 = .ok (.getfield 158, 3) := by decide +kernel
theorem dX8_place_47 : decode cX8_place 47 = .ok (.iload 4, 2) := by decide +kernel
theorem dX8_place_49 : decode cX8_place 49 = .ok (.aaload, 1) := by decide +kernel
theorem dX8_place_50 : decode cX8_place 50 = .ok (.astore 5, 2) := by decide +kernel
theorem dX8_place_52 : decode cX8_place 52 = .ok (.aload_n 0, 1) := by decide +kernel
theorem dX8_place_53 : decode cX8_place 53 = .ok (.getfield 19, 3) := by decide +kernel
theorem dX8_place_56 : decode cX8_place 56 = .ok (.aload 5, 2) := by decide +kernel
theorem dX8_place_58 : decode cX8_place 58 = .ok (.invokevirtual 189, 3) := by decide +kernel
theorem dX8_place_61 : decode cX8_place 61 = .ok (.ifCond .eq 15, 3) := by decide +kernel
theorem dX8_place_64 : decode cX8_place 64 = .ok (.aload 5, 2) := by decide +kernel
theorem dX8_place_66 : decode cX8_place 66 = .ok (.aload_n 2, 1) := by decide +kernel
theorem dX8_place_67 : decode cX8_place 67 = .ok (.invokevirtual 258, 3) := by decide +kernel
theorem dX8_place_70 : decode cX8_place 70 = .ok (.ifCond .eq 6, 3) := by decide +kernel
theorem dX8_place_73 : decode cX8_place 73 = .ok (.iinc 3 1, 3) := by decide +kernel
theorem dX8_place_76 : decode cX8_place 76 = .ok (.iinc 4 1, 3) := by decide +kernel
theorem dX8_place_79 : decode cX8_place 79 = .ok (.goto (-46), 3) := by decide +kernel
theorem dX8_place_82 : decode cX8_place 82 = .ok (.iload_n 3, 1) := by decide +kernel
theorem dX8_place_83 : decode cX8_place 83 = .ok (.ireturn, 1) := by decide +kernel
theorem dX8_newest_0 : decode cX8_newest 0 = .ok (.aload_n 0, 1) := by decide +kernel
theorem dX8_newest_1 : decode cX8_newest 1 = .ok (.invokevirtual 82, 3) := by decide +kernel
theorem dX8_newest_4 : decode cX8_newest 4 = .ok (.iconst (-1), 1) := by decide +kernel
theorem dX8_newest_5 : decode cX8_newest 5 = .ok (.istore_n 1, 1) := by decide +kernel
theorem dX8_newest_6 : decode cX8_newest 6 = .ok (.iconst (-1), 1) := by decide +kernel
theorem dX8_newest_7 : decode cX8_newest 7 = .ok (.istore_n 2, 1) := by decide +kernel
theorem dX8_newest_8 : decode cX8_newest 8 = .ok (.iconst 0, 1) := by decide +kernel
theorem dX8_newest_9 : decode cX8_newest 9 = .ok (.istore_n 3, 1) := by decide +kernel
theorem dX8_newest_10 : decode cX8_newest 10 = .ok (.iload_n 3, 1) := by decide +kernel
theorem dX8_newest_11 : decode cX8_newest 11 = .ok (.bipush 6, 2) := by decide +kernel
theorem dX8_newest_13 : decode cX8_newest 13 = .ok (.if_icmp .ge 48, 3) := by decide +kernel
theorem dX8_newest_16 : decode cX8_newest 16 = .ok (.aload_n 0, 1) := by decide +kernel
theorem dX8_newest_17 : decode cX8_newest 17 = .ok (.getfield 19, 3) := by decide +kernel
theorem dX8_newest_20 : decode cX8_newest 20 = .ok (.getfield 158, 3) := by decide +kernel
theorem dX8_newest_23 : decode cX8_newest 23 = .ok (.iload_n 3, 1) := by decide +kernel
theorem dX8_newest_24 : decode cX8_newest 24 = .ok (.aaload, 1) := by decide +kernel
theorem dX8_newest_25 : decode cX8_newest 25 = .ok (.getfield 162, 3) := by decide +kernel
theorem dX8_newest_28 : decode cX8_newest 28 = .ok (.astore 4, 2) := by decide +kernel
theorem dX8_newest_30 : decode cX8_newest 30 = .ok (.aload 4, 2) := by decide +kernel
theorem dX8_newest_32 : decode cX8_newest 32 = .ok (.getfield 168, 3) := by decide +kernel
theorem dX8_newest_35 : decode cX8_newest 35 = .ok (.ifCond .eq 20, 3) := by decide +kernel
theorem dX8_newest_38 : decode cX8_newest 38 = .ok (.aload 4, 2) := by decide +kernel
theorem dX8_newest_40 : decode cX8_newest 40 = .ok (.getfield 202, 3) := by decide +kernel
theorem dX8_newest_43 : decode cX8_newest 43 = .ok (.iload_n 2, 1) := by decide +kernel
theorem dX8_newest_44 : decode cX8_newest 44 = .ok (.if_icmp .le 11, 3) := by decide +kernel
theorem dX8_newest_47 : decode cX8_newest 47 = .ok (.iload_n 3, 1) := by decide +kernel
theorem dX8_newest_48 : decode cX8_newest 48 = .ok (.istore_n 1, 1) := by decide +kernel
theorem dX8_newest_49 : decode cX8_newest 49 = .ok (.aload 4, 2) := by decide +kernel
theorem dX8_newest_51 : decode cX8_newest 51 = .ok (.getfield 202, 3) := by decide +kernel
theorem dX8_newest_54 : decode cX8_newest 54 = .ok (.istore_n 2, 1) := by decide +kernel
theorem dX8_newest_55 : decode cX8_newest 55 = .ok (.iinc 3 1, 3) := by decide +kernel
theorem dX8_newest_58 : decode cX8_newest 58 = .ok (.goto (-48), 3) := by decide +kernel
theorem dX8_newest_61 : decode cX8_newest 61 = .ok (.iload_n 1, 1) := by decide +kernel
theorem dX8_newest_62 : decode cX8_newest 62 = .ok (.ireturn, 1) := by decide +kernel
theorem dX8_spare_0 : decode cX8_spare 0 = .ok (.aload_n 0, 1) := by decide +kernel
theorem dX8_spare_1 : decode cX8_spare 1 = .ok (.invokevirtual 82, 3) := by decide +kernel
theorem dX8_spare_4 : decode cX8_spare 4 = .ok (.iconst (-1), 1) := by decide +kernel
theorem dX8_spare_5 : decode cX8_spare 5 = .ok (.istore_n 1, 1) := by decide +kernel
theorem dX8_spare_6 : decode cX8_spare 6 = .ok (.iconst 0, 1) := by decide +kernel
theorem dX8_spare_7 : decode cX8_spare 7 = .ok (.istore_n 2, 1) := by decide +kernel
theorem dX8_spare_8 : decode cX8_spare 8 = .ok (.iload_n 2, 1) := by decide +kernel
theorem dX8_spare_9 : decode cX8_spare 9 = .ok (.bipush 6, 2) := by decide +kernel
theorem dX8_spare_11 : decode cX8_spare 11 = .ok (.if_icmp .ge 86, 3) := by decide +kernel
theorem dX8_spare_14 : decode cX8_spare 14 = .ok (.iload_n 2, 1) := by decide +kernel
theorem dX8_spare_15 : decode cX8_spare 15 = .ok (.aload_n 0, 1) := by decide +kernel
theorem dX8_spare_16 : decode cX8_spare 16 = .ok (.getfield 19, 3) := by decide +kernel
theorem dX8_spare_19 : decode cX8_spare 19 = .ok (.getfield 76, 3) := by decide +kernel
theorem dX8_spare_22 : decode cX8_spare 22 = .ok (.if_icmp .ge 75, 3) := by decide +kernel
theorem dX8_spare_25 : decode cX8_spare 25 = .ok (.iload_n 2, 1) := by decide +kernel
theorem dX8_spare_26 : decode cX8_spare 26 = .ok (.aload_n 0, 1) := by decide +kernel
theorem dX8_spare_27 : decode cX8_spare 27 = .ok (.getfield 19, 3) := by decide +kernel
theorem dX8_spare_30 : decode cX8_spare 30 = .ok (.getfield 104, 3) := by decide +kernel
theorem dX8_spare_33 : decode cX8_spare 33 = .ok (.if_icmp .eq 21, 3) := by decide +kernel
theorem dX8_spare_36 : decode cX8_spare 36 = .ok (.iload_n 2, 1) := by decide +kernel
theorem dX8_spare_37 : decode cX8_spare 37 = .ok (.aload_n 0, 1) := by decide +kernel
theorem dX8_spare_38 : decode cX8_spare 38 = .ok (.getfield 19, 3) := by decide +kernel
theorem dX8_spare_41 : decode cX8_spare 41 = .ok (.getfield 217, 3) := by decide +kernel
theorem dX8_spare_44 : decode cX8_spare 44 = .ok (.getfield 227, 3) := by decide +kernel
theorem dX8_spare_47 : decode cX8_spare 47 = .ok (.if_icmp .eq 7, 3) := by decide +kernel
theorem dX8_spare_50 : decode cX8_spare 50 = .ok (.iconst 1, 1) := by decide +kernel
theorem dX8_spare_51 : decode cX8_spare 51 = .ok (.goto 4, 3) := by decide +kernel
theorem dX8_spare_54 : decode cX8_spare 54 = .ok (.iconst 0, 1) := by decide +kernel
theorem dX8_spare_55 : decode cX8_spare 55 = .ok (.istore_n 3, 1) := by decide +kernel
theorem dX8_spare_56 : decode cX8_spare 56 = .ok (.iload_n 3, 1) := by decide +kernel
theorem dX8_spare_57 : decode cX8_spare 57 = .ok (.ifCond .eq 34, 3) := by decide +kernel
theorem dX8_spare_60 : decode cX8_spare 60 = .ok (.iload_n 1, 1) := by decide +kernel
theorem dX8_spare_61 : decode cX8_spare 61 = .ok (.ifCond .lt 28, 3) := by decide +kernel
theorem dX8_spare_64 : decode cX8_spare 64 = .ok (.aload_n 0, 1) := by decide +kernel
theorem dX8_spare_65 : decode cX8_spare 65 = .ok (.aload_n 0, 1) := by decide +kernel
theorem dX8_spare_66 : decode cX8_spare 66 = .ok (.getfield 19, 3) := by decide +kernel
theorem dX8_spare_69 : decode cX8_spare 69 = .ok (.getfield 158, 3) := by decide +kernel
theorem dX8_spare_72 : decode cX8_spare 72 = .ok (.iload_n 2, 1) := by decide +kernel
theorem dX8_spare_73 : decode cX8_spare 73 = .ok (.aaload, 1) := by decide +kernel
theorem dX8_spare_74 : decode cX8_spare 74 = .ok (.aload_n 0, 1) := by decide +kernel
theorem dX8_spare_75 : decode cX8_spare 75 = .ok (.getfield 19, 3) := by decide +kernel
theorem dX8_spare_78 : decode cX8_spare 78 = .ok (.getfield 158, 3) := by decide +kernel
theorem dX8_spare_81 : decode cX8_spare 81 = .ok (.iload_n 1, 1) := by decide +kernel
theorem dX8_spare_82 : decode cX8_spare 82 = .ok (.aaload, 1) := by decide +kernel
theorem dX8_spare_83 : decode cX8_spare 83 = .ok (.invokevirtual 261, 3) := by decide +kernel
theorem dX8_spare_86 : decode cX8_spare 86 = .ok (.ifCond .eq 5, 3) := by decide +kernel
theorem dX8_spare_89 : decode cX8_spare 89 = .ok (.iload_n 2, 1) := by decide +kernel
theorem dX8_spare_90 : decode cX8_spare 90 = .ok (.istore_n 1, 1) := by decide +kernel
theorem dX8_spare_91 : decode cX8_spare 91 = .ok (.iinc 2 1, 3) := by decide +kernel
theorem dX8_spare_94 : decode cX8_spare 94 = .ok (.goto (-86), 3) := by decide +kernel
theorem dX8_spare_97 : decode cX8_spare 97 = .ok (.iload_n 1, 1) := by decide +kernel
theorem dX8_spare_98 : decode cX8_spare 98 = .ok (.ireturn, 1) := by decide +kernel
theorem dX8_hurtsLess_0 : decode cX8_hurtsLess 0 = .ok (.aload_n 0, 1) := by decide +kernel
theorem dX8_hurtsLess_1 : decode cX8_hurtsLess 1 = .ok (.aload_n 1, 1) := by decide +kernel
theorem dX8_hurtsLess_2 : decode cX8_hurtsLess 2 = .ok (.invokevirtual 265, 3) := by decide +kernel
theorem dX8_hurtsLess_5 : decode cX8_hurtsLess 5 = .ok (.istore_n 3, 1) := by decide +kernel
theorem dX8_hurtsLess_6 : decode cX8_hurtsLess 6 = .ok (.aload_n 0, 1) := by decide +kernel
theorem dX8_hurtsLess_7 : decode cX8_hurtsLess 7 = .ok (.aload_n 2, 1) := by decide +kernel
theorem dX8_hurtsLess_8 : decode cX8_hurtsLess 8 = .ok (.invokevirtual 265, 3) := by decide +kernel
theorem dX8_hurtsLess_11 : decode cX8_hurtsLess 11 = .ok (.istore 4, 2) := by decide +kernel
theorem dX8_hurtsLess_13 : decode cX8_hurtsLess 13 = .ok (.iload_n 3, 1) := by decide +kernel
theorem dX8_hurtsLess_14 : decode cX8_hurtsLess 14 = .ok (.iload 4, 2) := by decide +kernel
theorem dX8_hurtsLess_16 : decode cX8_hurtsLess 16 = .ok (.if_icmp .eq 15, 3) := by decide +kernel
theorem dX8_hurtsLess_19 : decode cX8_hurtsLess 19 = .ok (.iload_n 3, 1) := by decide +kernel
theorem dX8_hurtsLess_20 : decode cX8_hurtsLess 20 = .ok (.iload 4, 2) := by decide +kernel
theorem dX8_hurtsLess_22 : decode cX8_hurtsLess 22 = .ok (.if_icmp .ge 7, 3) := by decide +kernel
theorem dX8_hurtsLess_25 : decode cX8_hurtsLess 25 = .ok (.iconst 1, 1) := by decide +kernel
theorem dX8_hurtsLess_26 : decode cX8_hurtsLess 26 = .ok (.goto 4, 3) := by decide +kernel
theorem dX8_hurtsLess_29 : decode cX8_hurtsLess 29 = .ok (.iconst 0, 1) := by decide +kernel
theorem dX8_hurtsLess_30 : decode cX8_hurtsLess 30 = .ok (.ireturn, 1) := by decide +kernel
theorem dX8_hurtsLess_31 : decode cX8_hurtsLess 31 = .ok (.iload_n 3, 1) := by decide +kernel
theorem dX8_hurtsLess_32 : decode cX8_hurtsLess 32 = .ok (.iconst 2, 1) := by decide +kernel
theorem dX8_hurtsLess_33 : decode cX8_hurtsLess 33 = .ok (.if_icmp .ne 15, 3) := by decide +kernel
theorem dX8_hurtsLess_36 : decode cX8_hurtsLess 36 = .ok (.aload_n 2, 1) := by decide +kernel
theorem dX8_hurtsLess_37 : decode cX8_hurtsLess 37 = .ok (.aload_n 1, 1) := by decide +kernel
theorem dX8_hurtsLess_38 : decode cX8_hurtsLess 38 = .ok (.invokevirtual 258, 3) := by decide +kernel
theorem dX8_hurtsLess_41 : decode cX8_hurtsLess 41 = .ok (.ifCond .eq 7, 3) := by decide +kernel
theorem dX8_hurtsLess_44 : decode cX8_hurtsLess 44 = .ok (.iconst 1, 1) := by decide +kernel
theorem dX8_hurtsLess_45 : decode cX8_hurtsLess 45 = .ok (.goto 4, 3) := by decide +kernel
theorem dX8_hurtsLess_48 : decode cX8_hurtsLess 48 = .ok (.iconst 0, 1) := by decide +kernel
theorem dX8_hurtsLess_49 : decode cX8_hurtsLess 49 = .ok (.ireturn, 1) := by decide +kernel
theorem dX8_harm_0 : decode cX8_harm 0 = .ok (.aload_n 1, 1) := by decide +kernel
theorem dX8_harm_1 : decode cX8_harm 1 = .ok (.getfield 162, 3) := by decide +kernel
theorem dX8_harm_4 : decode cX8_harm 4 = .ok (.getfield 168, 3) := by decide +kernel
theorem dX8_harm_7 : decode cX8_harm 7 = .ok (.ifCond .ne 5, 3) := by decide +kernel
theorem dX8_harm_10 : decode cX8_harm 10 = .ok (.iconst 0, 1) := by decide +kernel
theorem dX8_harm_11 : decode cX8_harm 11 = .ok (.ireturn, 1) := by decide +kernel
theorem dX8_harm_12 : decode cX8_harm 12 = .ok (.aload_n 0, 1) := by decide +kernel
theorem dX8_harm_13 : decode cX8_harm 13 = .ok (.getfield 19, 3) := by decide +kernel
theorem dX8_harm_16 : decode cX8_harm 16 = .ok (.aload_n 1, 1) := by decide +kernel
theorem dX8_harm_17 : decode cX8_harm 17 = .ok (.invokevirtual 189, 3) := by decide +kernel
theorem dX8_harm_20 : decode cX8_harm 20 = .ok (.ifCond .eq 7, 3) := by decide +kernel
theorem dX8_harm_23 : decode cX8_harm 23 = .ok (.iconst 2, 1) := by decide +kernel
theorem dX8_harm_24 : decode cX8_harm 24 = .ok (.goto 4, 3) := by decide +kernel
theorem dX8_harm_27 : decode cX8_harm 27 = .ok (.iconst 1, 1) := by decide +kernel
theorem dX8_harm_28 : decode cX8_harm 28 = .ok (.ireturn, 1) := by decide +kernel
theorem dX8_fallback_0 : decode cX8_fallback 0 = .ok (.aload_n 0, 1) := by decide +kernel
theorem dX8_fallback_1 : decode cX8_fallback 1 = .ok (.invokevirtual 82, 3) := by decide +kernel
theorem dX8_fallback_4 : decode cX8_fallback 4 = .ok (.aload_n 0, 1) := by decide +kernel
theorem dX8_fallback_5 : decode cX8_fallback 5 = .ok (.getfield 19, 3) := by decide +kernel
theorem dX8_fallback_8 : decode cX8_fallback 8 = .ok (.invokevirtual 268, 3) := by decide +kernel
theorem dX8_fallback_11 : decode cX8_fallback 11 = .ok (.ifCond .eq 20, 3) := by decide +kernel
theorem dX8_fallback_14 : decode cX8_fallback 14 = .ok (.aload_n 0, 1) := by decide +kernel
theorem dX8_fallback_15 : decode cX8_fallback 15 = .ok (.getfield 19, 3) := by decide +kernel
theorem dX8_fallback_18 : decode cX8_fallback 18 = .ok (.aload_n 0, 1) := by decide +kernel
theorem dX8_fallback_19 : decode cX8_fallback 19 = .ok (.getfield 19, 3) := by decide +kernel
theorem dX8_fallback_22 : decode cX8_fallback 22 = .ok (.getfield 104, 3) := by decide +kernel
theorem dX8_fallback_25 : decode cX8_fallback 25 = .ok (.invokevirtual 255, 3) := by decide +kernel
theorem dX8_fallback_28 : decode cX8_fallback 28 = .ok (.goto 4, 3) := by decide +kernel
theorem dX8_fallback_31 : decode cX8_fallback 31 = .ok (.iconst (-1), 1) := by decide +kernel
theorem dX8_fallback_32 : decode cX8_fallback 32 = .ok (.ireturn, 1) := by decide +kernel
theorem dX8_weakest_0 : decode cX8_weakest 0 = .ok (.aload_n 0, 1) := by decide +kernel
theorem dX8_weakest_1 : decode cX8_weakest 1 = .ok (.invokevirtual 82, 3) := by decide +kernel
theorem dX8_weakest_4 : decode cX8_weakest 4 = .ok (.iconst (-1), 1) := by decide +kernel
theorem dX8_weakest_5 : decode cX8_weakest 5 = .ok (.istore_n 1, 1) := by decide +kernel
theorem dX8_weakest_6 : decode cX8_weakest 6 = .ok (.bipush 8, 2) := by decide +kernel
theorem dX8_weakest_8 : decode cX8_weakest 8 = .ok (.istore_n 2, 1) := by decide +kernel
theorem dX8_weakest_9 : decode cX8_weakest 9 = .ok (.iconst 0, 1) := by decide +kernel
theorem dX8_weakest_10 : decode cX8_weakest 10 = .ok (.istore_n 3, 1) := by decide +kernel
theorem dX8_weakest_11 : decode cX8_weakest 11 = .ok (.iload_n 3, 1) := by decide +kernel
theorem dX8_weakest_12 : decode cX8_weakest 12 = .ok (.bipush 6, 2) := by decide +kernel
theorem dX8_weakest_14 : decode cX8_weakest 14 = .ok (.if_icmp .ge 57, 3) := by decide +kernel
theorem dX8_weakest_17 : decode cX8_weakest 17 = .ok (.aload_n 0, 1) := by decide +kernel
theorem dX8_weakest_18 : decode cX8_weakest 18 = .ok (.getfield 19, 3) := by decide +kernel
theorem dX8_weakest_21 : decode cX8_weakest 21 = .ok (.getfield 158, 3) := by decide +kernel
theorem dX8_weakest_24 : decode cX8_weakest 24 = .ok (.iload_n 3, 1) := by decide +kernel
theorem dX8_weakest_25 : decode cX8_weakest 25 = .ok (.aaload, 1) := by decide +kernel
theorem dX8_weakest_26 : decode cX8_weakest 26 = .ok (.astore 4, 2) := by decide +kernel
theorem dX8_weakest_28 : decode cX8_weakest 28 = .ok (.aload_n 0, 1) := by decide +kernel
theorem dX8_weakest_29 : decode cX8_weakest 29 = .ok (.getfield 19, 3) := by decide +kernel
theorem dX8_weakest_32 : decode cX8_weakest 32 = .ok (.aload 4, 2) := by decide +kernel
theorem dX8_weakest_34 : decode cX8_weakest 34 = .ok (.invokevirtual 189, 3) := by decide +kernel
theorem dX8_weakest_37 : decode cX8_weakest 37 = .ok (.ifCond .eq 28, 3) := by decide +kernel
theorem dX8_weakest_40 : decode cX8_weakest 40 = .ok (.aload 4, 2) := by decide +kernel
theorem dX8_weakest_42 : decode cX8_weakest 42 = .ok (.getfield 183, 3) := by decide +kernel
theorem dX8_weakest_45 : decode cX8_weakest 45 = .ok (.ifCond .ne 20, 3) := by decide +kernel
theorem dX8_weakest_48 : decode cX8_weakest 48 = .ok (.aload 4, 2) := by decide +kernel
theorem dX8_weakest_50 : decode cX8_weakest 50 = .ok (.getfield 180, 3) := by decide +kernel
theorem dX8_weakest_53 : decode cX8_weakest 53 = .ok (.iload_n 2, 1) := by decide +kernel
theorem dX8_weakest_54 : decode cX8_weakest 54 = .ok (.if_icmp .ge 11, 3) := by decide +kernel
theorem dX8_weakest_57 : decode cX8_weakest 57 = .ok (.iload_n 3, 1) := by decide +kernel
theorem dX8_weakest_58 : decode cX8_weakest 58 = .ok (.istore_n 1, 1) := by decide +kernel
theorem dX8_weakest_59 : decode cX8_weakest 59 = .ok (.aload 4, 2) := by decide +kernel
theorem dX8_weakest_61 : decode cX8_weakest 61 = .ok (.getfield 180, 3) := by decide +kernel
theorem dX8_weakest_64 : decode cX8_weakest 64 = .ok (.istore_n 2, 1) := by decide +kernel
theorem dX8_weakest_65 : decode cX8_weakest 65 = .ok (.iinc 3 1, 3) := by decide +kernel
theorem dX8_weakest_68 : decode cX8_weakest 68 = .ok (.goto (-57), 3) := by decide +kernel
theorem dX8_weakest_71 : decode cX8_weakest 71 = .ok (.iload_n 1, 1) := by decide +kernel
theorem dX8_weakest_72 : decode cX8_weakest 72 = .ok (.ireturn, 1) := by decide +kernel
theorem dX8_twins_0 : decode cX8_twins 0 = .ok (.aload_n 0, 1) := by decide +kernel
theorem dX8_twins_1 : decode cX8_twins 1 = .ok (.iload_n 1, 1) := by decide +kernel
theorem dX8_twins_2 : decode cX8_twins 2 = .ok (.invokevirtual 155, 3) := by decide +kernel
theorem dX8_twins_5 : decode cX8_twins 5 = .ok (.aload_n 0, 1) := by decide +kernel
theorem dX8_twins_6 : decode cX8_twins 6 = .ok (.getfield 19, 3) := by decide +kernel
theorem dX8_twins_9 : decode cX8_twins 9 = .ok (.getfield 158, 3) := by decide +kernel
theorem dX8_twins_12 : decode cX8_twins 12 = .ok (.iload_n 1, 1) := by decide +kernel
theorem dX8_twins_13 : decode cX8_twins 13 = .ok (.aaload, 1) := by decide +kernel
theorem dX8_twins_14 : decode cX8_twins 14 = .ok (.getfield 162, 3) := by decide +kernel
theorem dX8_twins_17 : decode cX8_twins 17 = .ok (.astore_n 2, 1) := by decide +kernel
theorem dX8_twins_18 : decode cX8_twins 18 = .ok (.iconst 0, 1) := by decide +kernel
theorem dX8_twins_19 : decode cX8_twins 19 = .ok (.istore_n 3, 1) := by decide +kernel
theorem dX8_twins_20 : decode cX8_twins 20 = .ok (.iconst 0, 1) := by decide +kernel
theorem dX8_twins_21 : decode cX8_twins 21 = .ok (.istore 4, 2) := by decide +kernel
theorem dX8_twins_23 : decode cX8_twins 23 = .ok (.iload 4, 2) := by decide +kernel
theorem dX8_twins_25 : decode cX8_twins 25 = .ok (.bipush 6, 2) := by decide +kernel
theorem dX8_twins_27 : decode cX8_twins 27 = .ok (.if_icmp .ge 64, 3) := by decide +kernel
theorem dX8_twins_30 : decode cX8_twins 30 = .ok (.aload_n 0, 1) := by decide +kernel
theorem dX8_twins_31 : decode cX8_twins 31 = .ok (.getfield 19, 3) := by decide +kernel
theorem dX8_twins_34 : decode cX8_twins 34 = .ok (.getfield 158, 3) := by decide +kernel
theorem dX8_twins_37 : decode cX8_twins 37 = .ok (.iload 4, 2) := by decide +kernel
theorem dX8_twins_39 : decode cX8_twins 39 = .ok (.aaload, 1) := by decide +kernel
theorem dX8_twins_40 : decode cX8_twins 40 = .ok (.getfield 162, 3) := by decide +kernel
theorem dX8_twins_43 : decode cX8_twins 43 = .ok (.astore 5, 2) := by decide +kernel
theorem dX8_twins_45 : decode cX8_twins 45 = .ok (.iload 4, 2) := by decide +kernel
theorem dX8_twins_47 : decode cX8_twins 47 = .ok (.iload_n 1, 1) := by decide +kernel
theorem dX8_twins_48 : decode cX8_twins 48 = .ok (.if_icmp .eq 37, 3) := by decide +kernel
theorem dX8_twins_51 : decode cX8_twins 51 = .ok (.aload_n 2, 1) := by decide +kernel
theorem dX8_twins_52 : decode cX8_twins 52 = .ok (.getfield 168, 3) := by decide +kernel
theorem dX8_twins_55 : decode cX8_twins 55 = .ok (.ifCond .eq 30, 3) := by decide +kernel
theorem dX8_twins_58 : decode cX8_twins 58 = .ok (.aload 5, 2) := by decide +kernel
theorem dX8_twins_60 : decode cX8_twins 60 = .ok (.getfield 168, 3) := by decide +kernel
theorem dX8_twins_63 : decode cX8_twins 63 = .ok (.ifCond .eq 22, 3) := by decide +kernel
theorem dX8_twins_66 : decode cX8_twins 66 = .ok (.aload 5, 2) := by decide +kernel
theorem dX8_twins_68 : decode cX8_twins 68 = .ok (.getfield 202, 3) := by decide +kernel
theorem dX8_twins_71 : decode cX8_twins 71 = .ok (.aload_n 2, 1) := by decide +kernel
theorem dX8_twins_72 : decode cX8_twins 72 = .ok (.getfield 202, 3) := by decide +kernel
theorem dX8_twins_75 : decode cX8_twins 75 = .ok (.if_icmp .ne 10, 3) := by decide +kernel
theorem dX8_twins_78 : decode cX8_twins 78 = .ok (.iload_n 3, 1) := by decide +kernel
theorem dX8_twins_79 : decode cX8_twins 79 = .ok (.iconst 1, 1) := by decide +kernel
theorem dX8_twins_80 : decode cX8_twins 80 = .ok (.iload 4, 2) := by decide +kernel
theorem dX8_twins_82 : decode cX8_twins 82 = .ok (.ishl, 1) := by decide +kernel
theorem dX8_twins_83 : decode cX8_twins 83 = .ok (.ior, 1) := by decide +kernel
theorem dX8_twins_84 : decode cX8_twins 84 = .ok (.istore_n 3, 1) := by decide +kernel
theorem dX8_twins_85 : decode cX8_twins 85 = .ok (.iinc 4 1, 3) := by decide +kernel
theorem dX8_twins_88 : decode cX8_twins 88 = .ok (.goto (-65), 3) := by decide +kernel
theorem dX8_twins_91 : decode cX8_twins 91 = .ok (.iload_n 3, 1) := by decide +kernel
theorem dX8_twins_92 : decode cX8_twins 92 = .ok (.ireturn, 1) := by decide +kernel
theorem dX8_sinking_0 : decode cX8_sinking 0 = .ok (.aload_n 0, 1) := by decide +kernel
theorem dX8_sinking_1 : decode cX8_sinking 1 = .ok (.invokevirtual 82, 3) := by decide +kernel
theorem dX8_sinking_4 : decode cX8_sinking 4 = .ok (.iconst 0, 1) := by decide +kernel
theorem dX8_sinking_5 : decode cX8_sinking 5 = .ok (.istore_n 1, 1) := by decide +kernel
theorem dX8_sinking_6 : decode cX8_sinking 6 = .ok (.iconst 0, 1) := by decide +kernel
theorem dX8_sinking_7 : decode cX8_sinking 7 = .ok (.istore_n 2, 1) := by decide +kernel
theorem dX8_sinking_8 : decode cX8_sinking 8 = .ok (.iload_n 2, 1) := by decide +kernel
theorem dX8_sinking_9 : decode cX8_sinking 9 = .ok (.bipush 6, 2) := by decide +kernel
theorem dX8_sinking_11 : decode cX8_sinking 11 = .ok (.if_icmp .ge 49, 3) := by decide +kernel
theorem dX8_sinking_14 : decode cX8_sinking 14 = .ok (.aload_n 0, 1) := by decide +kernel
theorem dX8_sinking_15 : decode cX8_sinking 15 = .ok (.getfield 19, 3) := by decide +kernel
theorem dX8_sinking_18 : decode cX8_sinking 18 = .ok (.getfield 158, 3) := by decide +kernel
theorem dX8_sinking_21 : decode cX8_sinking 21 = .ok (.iload_n 2, 1) := by decide +kernel
theorem dX8_sinking_22 : decode cX8_sinking 22 = .ok (.aaload, 1) := by decide +kernel
theorem dX8_sinking_23 : decode cX8_sinking 23 = .ok (.getfield 162, 3) := by decide +kernel
theorem dX8_sinking_26 : decode cX8_sinking 26 = .ok (.astore_n 3, 1) := by decide +kernel
theorem dX8_sinking_27 : decode cX8_sinking 27 = .ok (.aload_n 3, 1) := by decide +kernel
theorem dX8_sinking_28 : decode cX8_sinking 28 = .ok (.getfield 168, 3) := by decide +kernel
theorem dX8_sinking_31 : decode cX8_sinking 31 = .ok (.ifCond .eq 23, 3) := by decide +kernel
theorem dX8_sinking_34 : decode cX8_sinking 34 = .ok (.aload_n 3, 1) := by decide +kernel
theorem dX8_sinking_35 : decode cX8_sinking 35 = .ok (.getfield 202, 3) := by decide +kernel
theorem dX8_sinking_38 : decode cX8_sinking 38 = .ok (.aload_n 0, 1) := by decide +kernel
theorem dX8_sinking_39 : decode cX8_sinking 39 = .ok (.getfield 19, 3) := by decide +kernel
theorem dX8_sinking_42 : decode cX8_sinking 42 = .ok (.getfield 97, 3) := by decide +kernel
theorem dX8_sinking_45 : decode cX8_sinking 45 = .ok (.if_icmp .ge 9, 3) := by decide +kernel
theorem dX8_sinking_48 : decode cX8_sinking 48 = .ok (.iload_n 1, 1) := by decide +kernel
theorem dX8_sinking_49 : decode cX8_sinking 49 = .ok (.iconst 1, 1) := by decide +kernel
theorem dX8_sinking_50 : decode cX8_sinking 50 = .ok (.iload_n 2, 1) := by decide +kernel
theorem dX8_sinking_51 : decode cX8_sinking 51 = .ok (.ishl, 1) := by decide +kernel
theorem dX8_sinking_52 : decode cX8_sinking 52 = .ok (.ior, 1) := by decide +kernel
theorem dX8_sinking_53 : decode cX8_sinking 53 = .ok (.istore_n 1, 1) := by decide +kernel
theorem dX8_sinking_54 : decode cX8_sinking 54 = .ok (.iinc 2 1, 3) := by decide +kernel
theorem dX8_sinking_57 : decode cX8_sinking 57 = .ok (.goto (-49), 3) := by decide +kernel
theorem dX8_sinking_60 : decode cX8_sinking 60 = .ok (.iload_n 1, 1) := by decide +kernel
theorem dX8_sinking_61 : decode cX8_sinking 61 = .ok (.ireturn, 1) := by decide +kernel
theorem dX8_floorWith_0 : decode cX8_floorWith 0 = .ok (.aload_n 0, 1) := by decide +kernel
theorem dX8_floorWith_1 : decode cX8_floorWith 1 = .ok (.iload_n 1, 1) := by decide +kernel
theorem dX8_floorWith_2 : decode cX8_floorWith 2 = .ok (.invokevirtual 155, 3) := by decide +kernel
theorem dX8_floorWith_5 : decode cX8_floorWith 5 = .ok (.aload_n 0, 1) := by decide +kernel
theorem dX8_floorWith_6 : decode cX8_floorWith 6 = .ok (.getfield 19, 3) := by decide +kernel
theorem dX8_floorWith_9 : decode cX8_floorWith 9 = .ok (.getfield 158, 3) := by decide +kernel
theorem dX8_floorWith_12 : decode cX8_floorWith 12 = .ok (.iload_n 1, 1) := by decide +kernel
theorem dX8_floorWith_13 : decode cX8_floorWith 13 = .ok (.aaload, 1) := by decide +kernel
theorem dX8_floorWith_14 : decode cX8_floorWith 14 = .ok (.getfield 162, 3) := by decide +kernel
theorem dX8_floorWith_17 : decode cX8_floorWith 17 = .ok (.getfield 168, 3) := by decide +kernel
theorem dX8_floorWith_20 : decode cX8_floorWith 20 = .ok (.ifCond .ne 11, 3) := by decide +kernel
theorem dX8_floorWith_23 : decode cX8_floorWith 23 = .ok (.aload_n 0, 1) := by decide +kernel
theorem dX8_floorWith_24 : decode cX8_floorWith 24 = .ok (.getfield 19, 3) := by decide +kernel
theorem dX8_floorWith_27 : decode cX8_floorWith 27 = .ok (.getfield 97, 3) := by decide +kernel
theorem dX8_floorWith_30 : decode cX8_floorWith 30 = .ok (.ireturn, 1) := by decide +kernel
theorem dX8_floorWith_31 : decode cX8_floorWith 31 = .ok (.aload_n 0, 1) := by decide +kernel
theorem dX8_floorWith_32 : decode cX8_floorWith 32 = .ok (.getfield 19, 3) := by decide +kernel
theorem dX8_floorWith_35 : decode cX8_floorWith 35 = .ok (.iload_n 1, 1) := by decide +kernel
theorem dX8_floorWith_36 : decode cX8_floorWith 36 = .ok (.invokevirtual 271, 3) := by decide +kernel
theorem dX8_floorWith_39 : decode cX8_floorWith 39 = .ok (.ireturn, 1) := by decide +kernel
theorem dX8_mayHold_0 : decode cX8_mayHold 0 = .ok (.aload_n 0, 1) := by decide +kernel
theorem dX8_mayHold_1 : decode cX8_mayHold 1 = .ok (.iload_n 1, 1) := by decide +kernel
theorem dX8_mayHold_2 : decode cX8_mayHold 2 = .ok (.invokevirtual 155, 3) := by decide +kernel
theorem dX8_mayHold_5 : decode cX8_mayHold 5 = .ok (.aload_n 0, 1) := by decide +kernel
theorem dX8_mayHold_6 : decode cX8_mayHold 6 = .ok (.getfield 19, 3) := by decide +kernel
theorem dX8_mayHold_9 : decode cX8_mayHold 9 = .ok (.getfield 158, 3) := by decide +kernel
theorem dX8_mayHold_12 : decode cX8_mayHold 12 = .ok (.iload_n 1, 1) := by decide +kernel
theorem dX8_mayHold_13 : decode cX8_mayHold 13 = .ok (.aaload, 1) := by decide +kernel
theorem dX8_mayHold_14 : decode cX8_mayHold 14 = .ok (.astore_n 2, 1) := by decide +kernel
theorem dX8_mayHold_15 : decode cX8_mayHold 15 = .ok (.aload_n 2, 1) := by decide +kernel
theorem dX8_mayHold_16 : decode cX8_mayHold 16 = .ok (.getfield 162, 3) := by decide +kernel
theorem dX8_mayHold_19 : decode cX8_mayHold 19 = .ok (.astore_n 3, 1) := by decide +kernel
theorem dX8_mayHold_20 : decode cX8_mayHold 20 = .ok (.aload_n 3, 1) := by decide +kernel
theorem dX8_mayHold_21 : decode cX8_mayHold 21 = .ok (.getfield 208, 3) := by decide +kernel
theorem dX8_mayHold_24 : decode cX8_mayHold 24 = .ok (.ifCond .eq 14, 3) := by decide +kernel
theorem dX8_mayHold_27 : decode cX8_mayHold 27 = .ok (.aload_n 3, 1) := by decide +kernel
theorem dX8_mayHold_28 : decode cX8_mayHold 28 = .ok (.getfield 208, 3) := by decide +kernel
theorem dX8_mayHold_31 : decode cX8_mayHold 31 = .ok (.aload_n 3, 1) := by decide +kernel
theorem dX8_mayHold_32 : decode cX8_mayHold 32 = .ok (.getfield 205, 3) := by decide +kernel
theorem dX8_mayHold_35 : decode cX8_mayHold 35 = .ok (.if_icmp .le 7, 3) := by decide +kernel
theorem dX8_mayHold_38 : decode cX8_mayHold 38 = .ok (.iconst 1, 1) := by decide +kernel
theorem dX8_mayHold_39 : decode cX8_mayHold 39 = .ok (.goto 4, 3) := by decide +kernel
theorem dX8_mayHold_42 : decode cX8_mayHold 42 = .ok (.iconst 0, 1) := by decide +kernel
theorem dX8_mayHold_43 : decode cX8_mayHold 43 = .ok (.istore 4, 2) := by decide +kernel
theorem dX8_mayHold_45 : decode cX8_mayHold 45 = .ok (.aload_n 3, 1) := by decide +kernel
theorem dX8_mayHold_46 : decode cX8_mayHold 46 = .ok (.getfield 168, 3) := by decide +kernel
theorem dX8_mayHold_49 : decode cX8_mayHold 49 = .ok (.ifCond .eq 33, 3) := by decide +kernel
theorem dX8_mayHold_52 : decode cX8_mayHold 52 = .ok (.iload 4, 2) := by decide +kernel
theorem dX8_mayHold_54 : decode cX8_mayHold 54 = .ok (.ifCond .eq 28, 3) := by decide +kernel
theorem dX8_mayHold_57 : decode cX8_mayHold 57 = .ok (.aload_n 2, 1) := by decide +kernel
theorem dX8_mayHold_58 : decode cX8_mayHold 58 = .ok (.getfield 183, 3) := by decide +kernel
theorem dX8_mayHold_61 : decode cX8_mayHold 61 = .ok (.ifCond .ne 17, 3) := by decide +kernel
theorem dX8_mayHold_64 : decode cX8_mayHold 64 = .ok (.aload_n 3, 1) := by decide +kernel
theorem dX8_mayHold_65 : decode cX8_mayHold 65 = .ok (.getfield 205, 3) := by decide +kernel
theorem dX8_mayHold_68 : decode cX8_mayHold 68 = .ok (.aload_n 0, 1) := by decide +kernel
theorem dX8_mayHold_69 : decode cX8_mayHold 69 = .ok (.getfield 19, 3) := by decide +kernel
theorem dX8_mayHold_72 : decode cX8_mayHold 72 = .ok (.getfield 88, 3) := by decide +kernel
theorem dX8_mayHold_75 : decode cX8_mayHold 75 = .ok (.if_icmp .gt 7, 3) := by decide +kernel
theorem dX8_mayHold_78 : decode cX8_mayHold 78 = .ok (.iconst 1, 1) := by decide +kernel
theorem dX8_mayHold_79 : decode cX8_mayHold 79 = .ok (.goto 4, 3) := by decide +kernel
theorem dX8_mayHold_82 : decode cX8_mayHold 82 = .ok (.iconst 0, 1) := by decide +kernel
theorem dX8_mayHold_83 : decode cX8_mayHold 83 = .ok (.ireturn, 1) := by decide +kernel
theorem dX8_mostBoots_0 : decode cX8_mostBoots 0 = .ok (.aload_n 0, 1) := by decide +kernel
theorem dX8_mostBoots_1 : decode cX8_mostBoots 1 = .ok (.invokevirtual 82, 3) := by decide +kernel
theorem dX8_mostBoots_4 : decode cX8_mostBoots 4 = .ok (.iconst 0, 1) := by decide +kernel
theorem dX8_mostBoots_5 : decode cX8_mostBoots 5 = .ok (.istore_n 1, 1) := by decide +kernel
theorem dX8_mostBoots_6 : decode cX8_mostBoots 6 = .ok (.iconst 0, 1) := by decide +kernel
theorem dX8_mostBoots_7 : decode cX8_mostBoots 7 = .ok (.istore_n 2, 1) := by decide +kernel
theorem dX8_mostBoots_8 : decode cX8_mostBoots 8 = .ok (.iload_n 2, 1) := by decide +kernel
theorem dX8_mostBoots_9 : decode cX8_mostBoots 9 = .ok (.bipush 6, 2) := by decide +kernel
theorem dX8_mostBoots_11 : decode cX8_mostBoots 11 = .ok (.if_icmp .ge 43, 3) := by decide +kernel
theorem dX8_mostBoots_14 : decode cX8_mostBoots 14 = .ok (.aload_n 0, 1) := by decide +kernel
theorem dX8_mostBoots_15 : decode cX8_mostBoots 15 = .ok (.getfield 19, 3) := by decide +kernel
theorem dX8_mostBoots_18 : decode cX8_mostBoots 18 = .ok (.aload_n 0, 1) := by decide +kernel
theorem dX8_mostBoots_19 : decode cX8_mostBoots 19 = .ok (.getfield 19, 3) := by decide +kernel
theorem dX8_mostBoots_22 : decode cX8_mostBoots 22 = .ok (.getfield 158, 3) := by decide +kernel
theorem dX8_mostBoots_25 : decode cX8_mostBoots 25 = .ok (.iload_n 2, 1) := by decide +kernel
theorem dX8_mostBoots_26 : decode cX8_mostBoots 26 = .ok (.aaload, 1) := by decide +kernel
theorem dX8_mostBoots_27 : decode cX8_mostBoots 27 = .ok (.invokevirtual 189, 3) := by decide +kernel
theorem dX8_mostBoots_30 : decode cX8_mostBoots 30 = .ok (.ifCond .eq 18, 3) := by decide +kernel
theorem dX8_mostBoots_33 : decode cX8_mostBoots 33 = .ok (.iload_n 1, 1) := by decide +kernel
theorem dX8_mostBoots_34 : decode cX8_mostBoots 34 = .ok (.aload_n 0, 1) := by decide +kernel
theorem dX8_mostBoots_35 : decode cX8_mostBoots 35 = .ok (.getfield 19, 3) := by decide +kernel
theorem dX8_mostBoots_38 : decode cX8_mostBoots 38 = .ok (.getfield 158, 3) := by decide +kernel
theorem dX8_mostBoots_41 : decode cX8_mostBoots 41 = .ok (.iload_n 2, 1) := by decide +kernel
theorem dX8_mostBoots_42 : decode cX8_mostBoots 42 = .ok (.aaload, 1) := by decide +kernel
theorem dX8_mostBoots_43 : decode cX8_mostBoots 43 = .ok (.getfield 180, 3) := by decide +kernel
theorem dX8_mostBoots_46 : decode cX8_mostBoots 46 = .ok (.iadd, 1) := by decide +kernel
theorem dX8_mostBoots_47 : decode cX8_mostBoots 47 = .ok (.istore_n 1, 1) := by decide +kernel
theorem dX8_mostBoots_48 : decode cX8_mostBoots 48 = .ok (.iinc 2 1, 3) := by decide +kernel
theorem dX8_mostBoots_51 : decode cX8_mostBoots 51 = .ok (.goto (-43), 3) := by decide +kernel
theorem dX8_mostBoots_54 : decode cX8_mostBoots 54 = .ok (.iload_n 1, 1) := by decide +kernel
theorem dX8_mostBoots_55 : decode cX8_mostBoots 55 = .ok (.ireturn, 1) := by decide +kernel
theorem dX8_bootsOf_0 : decode cX8_bootsOf 0 = .ok (.aload_n 0, 1) := by decide +kernel
theorem dX8_bootsOf_1 : decode cX8_bootsOf 1 = .ok (.iload_n 1, 1) := by decide +kernel
theorem dX8_bootsOf_2 : decode cX8_bootsOf 2 = .ok (.invokevirtual 155, 3) := by decide +kernel
theorem dX8_bootsOf_5 : decode cX8_bootsOf 5 = .ok (.iconst 0, 1) := by decide +kernel
theorem dX8_bootsOf_6 : decode cX8_bootsOf 6 = .ok (.istore_n 2, 1) := by decide +kernel
theorem dX8_bootsOf_7 : decode cX8_bootsOf 7 = .ok (.iconst 0, 1) := by decide +kernel
theorem dX8_bootsOf_8 : decode cX8_bootsOf 8 = .ok (.istore_n 3, 1) := by decide +kernel
theorem dX8_bootsOf_9 : decode cX8_bootsOf 9 = .ok (.iload_n 3, 1) := by decide +kernel
theorem dX8_bootsOf_10 : decode cX8_bootsOf 10 = .ok (.aload_n 0, 1) := by decide +kernel
theorem dX8_bootsOf_11 : decode cX8_bootsOf 11 = .ok (.getfield 19, 3) := by decide +kernel
theorem dX8_bootsOf_14 : decode cX8_bootsOf 14 = .ok (.getfield 119, 3) := by decide +kernel
theorem dX8_bootsOf_17 : decode cX8_bootsOf 17 = .ok (.invokevirtual 274, 3) := by decide +kernel
theorem dX8_bootsOf_20 : decode cX8_bootsOf 20 = .ok (.if_icmp .ge 28, 3) := by decide +kernel
theorem dX8_bootsOf_23 : decode cX8_bootsOf 23 = .ok (.aload_n 0, 1) := by decide +kernel
theorem dX8_bootsOf_24 : decode cX8_bootsOf 24 = .ok (.getfield 19, 3) := by decide +kernel
theorem dX8_bootsOf_27 : decode cX8_bootsOf 27 = .ok (.getfield 119, 3) := by decide +kernel
theorem dX8_bootsOf_30 : decode cX8_bootsOf 30 = .ok (.getfield 248, 3) := by decide +kernel
theorem dX8_bootsOf_33 : decode cX8_bootsOf 33 = .ok (.iload_n 3, 1) := by decide +kernel
theorem dX8_bootsOf_34 : decode cX8_bootsOf 34 = .ok (.iaload, 1) := by decide +kernel
theorem dX8_bootsOf_35 : decode cX8_bootsOf 35 = .ok (.iload_n 1, 1) := by decide +kernel
theorem dX8_bootsOf_36 : decode cX8_bootsOf 36 = .ok (.if_icmp .ne 6, 3) := by decide +kernel
theorem dX8_bootsOf_39 : decode cX8_bootsOf 39 = .ok (.iinc 2 1, 3) := by decide +kernel
theorem dX8_bootsOf_42 : decode cX8_bootsOf 42 = .ok (.iinc 3 1, 3) := by decide +kernel
theorem dX8_bootsOf_45 : decode cX8_bootsOf 45 = .ok (.goto (-36), 3) := by decide +kernel
theorem dX8_bootsOf_48 : decode cX8_bootsOf 48 = .ok (.iload_n 2, 1) := by decide +kernel
theorem dX8_bootsOf_49 : decode cX8_bootsOf 49 = .ok (.ireturn, 1) := by decide +kernel
theorem dX8_stateIn_0 : decode cX8_stateIn 0 = .ok (.aload_n 0, 1) := by decide +kernel
theorem dX8_stateIn_1 : decode cX8_stateIn 1 = .ok (.iload_n 1, 1) := by decide +kernel
theorem dX8_stateIn_2 : decode cX8_stateIn 2 = .ok (.invokevirtual 277, 3) := by decide +kernel
theorem dX8_stateIn_5 : decode cX8_stateIn 5 = .ok (.aload_n 0, 1) := by decide +kernel
theorem dX8_stateIn_6 : decode cX8_stateIn 6 = .ok (.getfield 23, 3) := by decide +kernel
theorem dX8_stateIn_9 : decode cX8_stateIn 9 = .ok (.invokevirtual 100, 3) := by decide +kernel
theorem dX8_stateIn_12 : decode cX8_stateIn 12 = .ok (.ireturn, 1) := by decide +kernel
theorem dX8_lookAhead_0 : decode cX8_lookAhead 0 = .ok (.aload_n 0, 1) := by decide +kernel
theorem dX8_lookAhead_1 : decode cX8_lookAhead 1 = .ok (.invokevirtual 82, 3) := by decide +kernel
theorem dX8_lookAhead_4 : decode cX8_lookAhead 4 = .ok (.iload_n 1, 1) := by decide +kernel
theorem dX8_lookAhead_5 : decode cX8_lookAhead 5 = .ok (.iconst 0, 1) := by decide +kernel
theorem dX8_lookAhead_6 : decode cX8_lookAhead 6 = .ok (.sipush 300, 3) := by decide +kernel
theorem dX8_lookAhead_9 : decode cX8_lookAhead 9 = .ok (.invokestatic 198, 3) := by decide +kernel
theorem dX8_lookAhead_12 : decode cX8_lookAhead 12 = .ok (.aload_n 0, 1) := by decide +kernel
theorem dX8_lookAhead_13 : decode cX8_lookAhead 13 = .ok (.getfield 23, 3) := by decide +kernel
theorem dX8_lookAhead_16 : decode cX8_lookAhead 16 = .ok (.aload_n 0, 1) := by decide +kernel
theorem dX8_lookAhead_17 : decode cX8_lookAhead 17 = .ok (.getfield 19, 3) := by decide +kernel
theorem dX8_lookAhead_20 : decode cX8_lookAhead 20 = .ok (.invokevirtual 65, 3) := by decide +kernel
theorem dX8_lookAhead_23 : decode cX8_lookAhead 23 = .ok (.aload_n 0, 1) := by decide +kernel
theorem dX8_lookAhead_24 : decode cX8_lookAhead 24 = .ok (.getfield 23, 3) := by decide +kernel
theorem dX8_lookAhead_27 : decode cX8_lookAhead 27 = .ok (.iload_n 1, 1) := by decide +kernel
theorem dX8_lookAhead_28 : decode cX8_lookAhead 28 = .ok (.invokevirtual 295, 3) := by decide +kernel
theorem dX8_lookAhead_31 : decode cX8_lookAhead 31 = .ok (.return_, 1) := by decide +kernel
theorem dX8_ifInstalled_0 : decode cX8_ifInstalled 0 = .ok (.aload_n 0, 1) := by decide +kernel
theorem dX8_ifInstalled_1 : decode cX8_ifInstalled 1 = .ok (.iload_n 1, 1) := by decide +kernel
theorem dX8_ifInstalled_2 : decode cX8_ifInstalled 2 = .ok (.invokevirtual 155, 3) := by decide +kernel
theorem dX8_ifInstalled_5 : decode cX8_ifInstalled 5 = .ok (.iload_n 2, 1) := by decide +kernel
theorem dX8_ifInstalled_6 : decode cX8_ifInstalled 6 = .ok (.iconst 0, 1) := by decide +kernel
theorem dX8_ifInstalled_7 : decode cX8_ifInstalled 7 = .ok (.bipush 99, 2) := by decide +kernel
theorem dX8_ifInstalled_9 : decode cX8_ifInstalled 9 = .ok (.invokestatic 198, 3) := by decide +kernel
theorem dX8_ifInstalled_12 : decode cX8_ifInstalled 12 = .ok (.iload_n 3, 1) := by decide +kernel
theorem dX8_ifInstalled_13 : decode cX8_ifInstalled 13 = .ok (.iconst 1, 1) := by decide +kernel
theorem dX8_ifInstalled_14 : decode cX8_ifInstalled 14 = .ok (.bipush 99, 2) := by decide +kernel
theorem dX8_ifInstalled_16 : decode cX8_ifInstalled 16 = .ok (.invokestatic 198, 3) := by decide +kernel
theorem dX8_ifInstalled_19 : decode cX8_ifInstalled 19 = .ok (.aload_n 0, 1) := by decide +kernel
theorem dX8_ifInstalled_20 : decode cX8_ifInstalled 20 = .ok (.getfield 23, 3) := by decide +kernel
theorem dX8_ifInstalled_23 : decode cX8_ifInstalled 23 = .ok (.aload_n 0, 1) := by decide +kernel
theorem dX8_ifInstalled_24 : decode cX8_ifInstalled 24 = .ok (.getfield 19, 3) := by decide +kernel
theorem dX8_ifInstalled_27 : decode cX8_ifInstalled 27 = .ok (.invokevirtual 65, 3) := by decide +kernel
theorem dX8_ifInstalled_30 : decode cX8_ifInstalled 30 = .ok (.aload_n 0, 1) := by decide +kernel
theorem dX8_ifInstalled_31 : decode cX8_ifInstalled 31 = .ok (.getfield 23, 3) := by decide +kernel
theorem dX8_ifInstalled_34 : decode cX8_ifInstalled 34 = .ok (.getfield 217, 3) := by decide +kernel
theorem dX8_ifInstalled_37 : decode cX8_ifInstalled 37 = .ok (.iload_n 1, 1) := by decide +kernel
theorem dX8_ifInstalled_38 : decode cX8_ifInstalled 38 = .ok (.iconst 1, 1) := by decide +kernel
theorem dX8_ifInstalled_39 : decode cX8_ifInstalled 39 = .ok (.invokevirtual 310, 3) := by decide +kernel
theorem dX8_ifInstalled_42 : decode cX8_ifInstalled 42 = .ok (.aload_n 0, 1) := by decide +kernel
theorem dX8_ifInstalled_43 : decode cX8_ifInstalled 43 = .ok (.getfield 23, 3) := by decide +kernel
theorem dX8_ifInstalled_46 : decode cX8_ifInstalled 46 = .ok (.getfield 217, 3) := by decide +kernel
theorem dX8_ifInstalled_49 : decode cX8_ifInstalled 49 = .ok (.getfield 233, 3) := by decide +kernel
theorem dX8_ifInstalled_52 : decode cX8_ifInstalled 52 = .ok (.iload_n 2, 1) := by decide +kernel
theorem dX8_ifInstalled_53 : decode cX8_ifInstalled 53 = .ok (.iload_n 3, 1) := by decide +kernel
theorem dX8_ifInstalled_54 : decode cX8_ifInstalled 54 = .ok (.iconst 0, 1) := by decide +kernel
theorem dX8_ifInstalled_55 : decode cX8_ifInstalled 55 = .ok (.invokevirtual 314, 3) := by decide +kernel
theorem dX8_ifInstalled_58 : decode cX8_ifInstalled 58 = .ok (.aload_n 0, 1) := by decide +kernel
theorem dX8_ifInstalled_59 : decode cX8_ifInstalled 59 = .ok (.getfield 23, 3) := by decide +kernel
theorem dX8_ifInstalled_62 : decode cX8_ifInstalled 62 = .ok (.invokevirtual 316, 3) := by decide +kernel
theorem dX8_ifInstalled_65 : decode cX8_ifInstalled 65 = .ok (.aload_n 0, 1) := by decide +kernel
theorem dX8_ifInstalled_66 : decode cX8_ifInstalled 66 = .ok (.invokevirtual 301, 3) := by decide +kernel
theorem dX8_ifInstalled_69 : decode cX8_ifInstalled 69 = .ok (.ireturn, 1) := by decide +kernel
theorem dX8_bootAndSettle_0 : decode cX8_bootAndSettle 0 = .ok (.aload_n 0, 1) := by decide +kernel
theorem dX8_bootAndSettle_1 : decode cX8_bootAndSettle 1 = .ok (.getfield 23, 3) := by decide +kernel
theorem dX8_bootAndSettle_4 : decode cX8_bootAndSettle 4 = .ok (.iconst 1, 1) := by decide +kernel
theorem dX8_bootAndSettle_5 : decode cX8_bootAndSettle 5 = .ok (.invokevirtual 298, 3) := by decide +kernel
theorem dX8_bootAndSettle_8 : decode cX8_bootAndSettle 8 = .ok (.pop, 1) := by decide +kernel
theorem dX8_bootAndSettle_9 : decode cX8_bootAndSettle 9 = .ok (.aload_n 0, 1) := by decide +kernel
theorem dX8_bootAndSettle_10 : decode cX8_bootAndSettle 10 = .ok (.getfield 23, 3) := by decide +kernel
theorem dX8_bootAndSettle_13 : decode cX8_bootAndSettle 13 = .ok (.sipush 300, 3) := by decide +kernel
theorem dX8_bootAndSettle_16 : decode cX8_bootAndSettle 16 = .ok (.invokevirtual 295, 3) := by decide +kernel
theorem dX8_bootAndSettle_19 : decode cX8_bootAndSettle 19 = .ok (.aload_n 0, 1) := by decide +kernel
theorem dX8_bootAndSettle_20 : decode cX8_bootAndSettle 20 = .ok (.getfield 23, 3) := by decide +kernel
theorem dX8_bootAndSettle_23 : decode cX8_bootAndSettle 23 = .ok (.getfield 104, 3) := by decide +kernel
theorem dX8_bootAndSettle_26 : decode cX8_bootAndSettle 26 = .ok (.ireturn, 1) := by decide +kernel
theorem dX8_highestFloor_0 : decode cX8_highestFloor 0 = .ok (.aload_n 0, 1) := by decide +kernel
theorem dX8_highestFloor_1 : decode cX8_highestFloor 1 = .ok (.invokevirtual 82, 3) := by decide +kernel
theorem dX8_highestFloor_4 : decode cX8_highestFloor 4 = .ok (.iconst (-1), 1) := by decide +kernel
theorem dX8_highestFloor_5 : decode cX8_highestFloor 5 = .ok (.istore_n 1, 1) := by decide +kernel
theorem dX8_highestFloor_6 : decode cX8_highestFloor 6 = .ok (.iconst 0, 1) := by decide +kernel
theorem dX8_highestFloor_7 : decode cX8_highestFloor 7 = .ok (.istore_n 2, 1) := by decide +kernel
theorem dX8_highestFloor_8 : decode cX8_highestFloor 8 = .ok (.iload_n 2, 1) := by decide +kernel
theorem dX8_highestFloor_9 : decode cX8_highestFloor 9 = .ok (.bipush 6, 2) := by decide +kernel
theorem dX8_highestFloor_11 : decode cX8_highestFloor 11 = .ok (.if_icmp .ge 46, 3) := by decide +kernel
theorem dX8_highestFloor_14 : decode cX8_highestFloor 14 = .ok (.aload_n 0, 1) := by decide +kernel
theorem dX8_highestFloor_15 : decode cX8_highestFloor 15 = .ok (.getfield 19, 3) := by decide +kernel
theorem dX8_highestFloor_18 : decode cX8_highestFloor 18 = .ok (.getfield 158, 3) := by decide +kernel
theorem dX8_highestFloor_21 : decode cX8_highestFloor 21 = .ok (.iload_n 2, 1) := by decide +kernel
theorem dX8_highestFloor_22 : decode cX8_highestFloor 22 = .ok (.aaload, 1) := by decide +kernel
theorem dX8_highestFloor_23 : decode cX8_highestFloor 23 = .ok (.astore_n 3, 1) := by decide +kernel
theorem dX8_highestFloor_24 : decode cX8_highestFloor 24 = .ok (.aload_n 3, 1) := by decide +kernel
theorem dX8_highestFloor_25 : decode cX8_highestFloor 25 = .ok (.iconst 0, 1) := by decide +kernel
theorem dX8_highestFloor_26 : decode cX8_highestFloor 26 = .ok (.invokevirtual 319, 3) := by decide +kernel
theorem dX8_highestFloor_29 : decode cX8_highestFloor 29 = .ok (.ifCond .eq 22, 3) := by decide +kernel
theorem dX8_highestFloor_32 : decode cX8_highestFloor 32 = .ok (.aload_n 3, 1) := by decide +kernel
theorem dX8_highestFloor_33 : decode cX8_highestFloor 33 = .ok (.getfield 162, 3) := by decide +kernel
theorem dX8_highestFloor_36 : decode cX8_highestFloor 36 = .ok (.getfield 202, 3) := by decide +kernel
theorem dX8_highestFloor_39 : decode cX8_highestFloor 39 = .ok (.iload_n 1, 1) := by decide +kernel
theorem dX8_highestFloor_40 : decode cX8_highestFloor 40 = .ok (.if_icmp .le 11, 3) := by decide +kernel
theorem dX8_highestFloor_43 : decode cX8_highestFloor 43 = .ok (.aload_n 3, 1) := by decide +kernel
theorem dX8_highestFloor_44 : decode cX8_highestFloor 44 = .ok (.getfield 162, 3) := by decide +kernel
theorem dX8_highestFloor_47 : decode cX8_highestFloor 47 = .ok (.getfield 202, 3) := by decide +kernel
theorem dX8_highestFloor_50 : decode cX8_highestFloor 50 = .ok (.istore_n 1, 1) := by decide +kernel
theorem dX8_highestFloor_51 : decode cX8_highestFloor 51 = .ok (.iinc 2 1, 3) := by decide +kernel
theorem dX8_highestFloor_54 : decode cX8_highestFloor 54 = .ok (.goto (-46), 3) := by decide +kernel
theorem dX8_highestFloor_57 : decode cX8_highestFloor 57 = .ok (.iload_n 1, 1) := by decide +kernel
theorem dX8_highestFloor_58 : decode cX8_highestFloor 58 = .ok (.ireturn, 1) := by decide +kernel
theorem dX8_successShare_0 : decode cX8_successShare 0 = .ok (.aload_n 0, 1) := by decide +kernel
theorem dX8_successShare_1 : decode cX8_successShare 1 = .ok (.invokevirtual 82, 3) := by decide +kernel
theorem dX8_successShare_4 : decode cX8_successShare 4 = .ok (.aload_n 0, 1) := by decide +kernel
theorem dX8_successShare_5 : decode cX8_successShare 5 = .ok (.getfield 19, 3) := by decide +kernel
theorem dX8_successShare_8 : decode cX8_successShare 8 = .ok (.getfield 128, 3) := by decide +kernel
theorem dX8_successShare_11 : decode cX8_successShare 11 = .ok (.getfield 132, 3) := by decide +kernel
theorem dX8_successShare_14 : decode cX8_successShare 14 = .ok (.ifCond .ne 5, 3) := by decide +kernel
theorem dX8_successShare_17 : decode cX8_successShare 17 = .ok (.fconst 0, 1) := by decide +kernel
theorem dX8_successShare_18 : decode cX8_successShare 18 = .ok (.freturn, 1) := by decide +kernel
theorem dX8_successShare_19 : decode cX8_successShare 19 = .ok (.aload_n 0, 1) := by decide +kernel
theorem dX8_successShare_20 : decode cX8_successShare 20 = .ok (.getfield 19, 3) := by decide +kernel
theorem dX8_successShare_23 : decode cX8_successShare 23 = .ok (.getfield 128, 3) := by decide +kernel
theorem dX8_successShare_26 : decode cX8_successShare 26 = .ok (.getfield 146, 3) := by decide +kernel
theorem dX8_successShare_29 : decode cX8_successShare 29 = .ok (.i2f, 1) := by decide +kernel
theorem dX8_successShare_30 : decode cX8_successShare 30 = .ok (.aload_n 0, 1) := by decide +kernel
theorem dX8_successShare_31 : decode cX8_successShare 31 = .ok (.getfield 19, 3) := by decide +kernel
theorem dX8_successShare_34 : decode cX8_successShare 34 = .ok (.getfield 128, 3) := by decide +kernel
theorem dX8_successShare_37 : decode cX8_successShare 37 = .ok (.getfield 132, 3) := by decide +kernel
theorem dX8_successShare_40 : decode cX8_successShare 40 = .ok (.i2f, 1) := by decide +kernel
theorem dX8_successShare_41 : decode cX8_successShare 41 = .ok (.fdiv, 1) := by decide +kernel
theorem dX8_successShare_42 : decode cX8_successShare 42 = .ok (.freturn, 1) := by decide +kernel
theorem dX8_meanBoot_0 : decode cX8_meanBoot 0 = .ok (.aload_n 0, 1) := by decide +kernel
theorem dX8_meanBoot_1 : decode cX8_meanBoot 1 = .ok (.invokevirtual 82, 3) := by decide +kernel
theorem dX8_meanBoot_4 : decode cX8_meanBoot 4 = .ok (.aload_n 0, 1) := by decide +kernel
theorem dX8_meanBoot_5 : decode cX8_meanBoot 5 = .ok (.getfield 19, 3) := by decide +kernel
theorem dX8_meanBoot_8 : decode cX8_meanBoot 8 = .ok (.getfield 119, 3) := by decide +kernel
theorem dX8_meanBoot_11 : decode cX8_meanBoot 11 = .ok (.getfield 123, 3) := by decide +kernel
theorem dX8_meanBoot_14 : decode cX8_meanBoot 14 = .ok (.ifCond .ne 5, 3) := by decide +kernel
theorem dX8_meanBoot_17 : decode cX8_meanBoot 17 = .ok (.dconst 0, 1) := by decide +kernel
theorem dX8_meanBoot_18 : decode cX8_meanBoot 18 = .ok (.dreturn, 1) := by decide +kernel
theorem dX8_meanBoot_19 : decode cX8_meanBoot 19 = .ok (.aload_n 0, 1) := by decide +kernel
theorem dX8_meanBoot_20 : decode cX8_meanBoot 20 = .ok (.getfield 19, 3) := by decide +kernel
theorem dX8_meanBoot_23 : decode cX8_meanBoot 23 = .ok (.getfield 85, 3) := by decide +kernel
theorem dX8_meanBoot_26 : decode cX8_meanBoot 26 = .ok (.i2d, 1) := by decide +kernel
theorem dX8_meanBoot_27 : decode cX8_meanBoot 27 = .ok (.aload_n 0, 1) := by decide +kernel
theorem dX8_meanBoot_28 : decode cX8_meanBoot 28 = .ok (.getfield 19, 3) := by decide +kernel
theorem dX8_meanBoot_31 : decode cX8_meanBoot 31 = .ok (.getfield 119, 3) := by decide +kernel
theorem dX8_meanBoot_34 : decode cX8_meanBoot 34 = .ok (.getfield 123, 3) := by decide +kernel
theorem dX8_meanBoot_37 : decode cX8_meanBoot 37 = .ok (.i2d, 1) := by decide +kernel
theorem dX8_meanBoot_38 : decode cX8_meanBoot 38 = .ok (.ddiv, 1) := by decide +kernel
theorem dX8_meanBoot_39 : decode cX8_meanBoot 39 = .ok (.dreturn, 1) := by decide +kernel
theorem dX8_writeSlots_0 : decode cX8_writeSlots 0 = .ok (.aload_n 0, 1) := by decide +kernel
theorem dX8_writeSlots_1 : decode cX8_writeSlots 1 = .ok (.invokevirtual 82, 3) := by decide +kernel
theorem dX8_writeSlots_4 : decode cX8_writeSlots 4 = .ok (.aload_n 0, 1) := by decide +kernel
theorem dX8_writeSlots_5 : decode cX8_writeSlots 5 = .ok (.getfield 40, 3) := by decide +kernel
theorem dX8_writeSlots_8 : decode cX8_writeSlots 8 = .ok (.invokevirtual 326, 3) := by decide +kernel
theorem dX8_writeSlots_11 : decode cX8_writeSlots 11 = .ok (.iconst 0, 1) := by decide +kernel
theorem dX8_writeSlots_12 : decode cX8_writeSlots 12 = .ok (.istore_n 1, 1) := by decide +kernel
theorem dX8_writeSlots_13 : decode cX8_writeSlots 13 = .ok (.iload_n 1, 1) := by decide +kernel
theorem dX8_writeSlots_14 : decode cX8_writeSlots 14 = .ok (.bipush 6, 2) := by decide +kernel
theorem dX8_writeSlots_16 : decode cX8_writeSlots 16 = .ok (.if_icmp .ge 46, 3) := by decide +kernel
theorem dX8_writeSlots_19 : decode cX8_writeSlots 19 = .ok (.iload_n 1, 1) := by decide +kernel
theorem dX8_writeSlots_20 : decode cX8_writeSlots 20 = .ok (.aload_n 0, 1) := by decide +kernel
theorem dX8_writeSlots_21 : decode cX8_writeSlots 21 = .ok (.getfield 19, 3) := by decide +kernel
theorem dX8_writeSlots_24 : decode cX8_writeSlots 24 = .ok (.getfield 76, 3) := by decide +kernel
theorem dX8_writeSlots_27 : decode cX8_writeSlots 27 = .ok (.if_icmp .ge 35, 3) := by decide +kernel
theorem dX8_writeSlots_30 : decode cX8_writeSlots 30 = .ok (.iload_n 1, 1) := by decide +kernel
theorem dX8_writeSlots_31 : decode cX8_writeSlots 31 = .ok (.ifCond .le 12, 3) := by decide +kernel
theorem dX8_writeSlots_34 : decode cX8_writeSlots 34 = .ok (.aload_n 0, 1) := by decide +kernel
theorem dX8_writeSlots_35 : decode cX8_writeSlots 35 = .ok (.getfield 40, 3) := by decide +kernel
theorem dX8_writeSlots_38 : decode cX8_writeSlots 38 = .ok (.bipush 32, 2) := by decide +kernel
theorem dX8_writeSlots_40 : decode cX8_writeSlots 40 = .ok (.invokevirtual 329, 3) := by decide +kernel
theorem dX8_writeSlots_43 : decode cX8_writeSlots 43 = .ok (.aload_n 0, 1) := by decide +kernel
theorem dX8_writeSlots_44 : decode cX8_writeSlots 44 = .ok (.aload_n 0, 1) := by decide +kernel
theorem dX8_writeSlots_45 : decode cX8_writeSlots 45 = .ok (.getfield 19, 3) := by decide +kernel
theorem dX8_writeSlots_48 : decode cX8_writeSlots 48 = .ok (.getfield 158, 3) := by decide +kernel
theorem dX8_writeSlots_51 : decode cX8_writeSlots 51 = .ok (.iload_n 1, 1) := by decide +kernel
theorem dX8_writeSlots_52 : decode cX8_writeSlots 52 = .ok (.aaload, 1) := by decide +kernel
theorem dX8_writeSlots_53 : decode cX8_writeSlots 53 = .ok (.invokevirtual 333, 3) := by decide +kernel
theorem dX8_writeSlots_56 : decode cX8_writeSlots 56 = .ok (.iinc 1 1, 3) := by decide +kernel
theorem dX8_writeSlots_59 : decode cX8_writeSlots 59 = .ok (.goto (-46), 3) := by decide +kernel
theorem dX8_writeSlots_62 : decode cX8_writeSlots 62 = .ok (.aload_n 0, 1) := by decide +kernel
theorem dX8_writeSlots_63 : decode cX8_writeSlots 63 = .ok (.getfield 40, 3) := by decide +kernel
theorem dX8_writeSlots_66 : decode cX8_writeSlots 66 = .ok (.getfield 337, 3) := by decide +kernel
theorem dX8_writeSlots_69 : decode cX8_writeSlots 69 = .ok (.ireturn, 1) := by decide +kernel
theorem dX8_writeSlot_0 : decode cX8_writeSlot 0 = .ok (.aload_n 1, 1) := by decide +kernel
theorem dX8_writeSlot_1 : decode cX8_writeSlot 1 = .ok (.getfield 162, 3) := by decide +kernel
theorem dX8_writeSlot_4 : decode cX8_writeSlot 4 = .ok (.getfield 168, 3) := by decide +kernel
theorem dX8_writeSlot_7 : decode cX8_writeSlot 7 = .ok (.ifCond .ne 13, 3) := by decide +kernel
theorem dX8_writeSlot_10 : decode cX8_writeSlot 10 = .ok (.aload_n 0, 1) := by decide +kernel
theorem dX8_writeSlot_11 : decode cX8_writeSlot 11 = .ok (.getfield 40, 3) := by decide +kernel
theorem dX8_writeSlot_14 : decode cX8_writeSlot 14 = .ok (.bipush 45, 2) := by decide +kernel
theorem dX8_writeSlot_16 : decode cX8_writeSlot 16 = .ok (.invokevirtual 329, 3) := by decide +kernel
theorem dX8_writeSlot_19 : decode cX8_writeSlot 19 = .ok (.return_, 1) := by decide +kernel
theorem dX8_writeSlot_20 : decode cX8_writeSlot 20 = .ok (.aload_n 0, 1) := by decide +kernel
theorem dX8_writeSlot_21 : decode cX8_writeSlot 21 = .ok (.getfield 40, 3) := by decide +kernel
theorem dX8_writeSlot_24 : decode cX8_writeSlot 24 = .ok (.aload_n 1, 1) := by decide +kernel
theorem dX8_writeSlot_25 : decode cX8_writeSlot 25 = .ok (.getfield 162, 3) := by decide +kernel
theorem dX8_writeSlot_28 : decode cX8_writeSlot 28 = .ok (.getfield 202, 3) := by decide +kernel
theorem dX8_writeSlot_31 : decode cX8_writeSlot 31 = .ok (.invokevirtual 340, 3) := by decide +kernel
theorem dX8_writeSlot_34 : decode cX8_writeSlot 34 = .ok (.aload_n 0, 1) := by decide +kernel
theorem dX8_writeSlot_35 : decode cX8_writeSlot 35 = .ok (.getfield 40, 3) := by decide +kernel
theorem dX8_writeSlot_38 : decode cX8_writeSlot 38 = .ok (.bipush 58, 2) := by decide +kernel
theorem dX8_writeSlot_40 : decode cX8_writeSlot 40 = .ok (.invokevirtual 329, 3) := by decide +kernel
theorem dX8_writeSlot_43 : decode cX8_writeSlot 43 = .ok (.aload_n 0, 1) := by decide +kernel
theorem dX8_writeSlot_44 : decode cX8_writeSlot 44 = .ok (.getfield 40, 3) := by decide +kernel
theorem dX8_writeSlot_47 : decode cX8_writeSlot 47 = .ok (.aload_n 1, 1) := by decide +kernel
theorem dX8_writeSlot_48 : decode cX8_writeSlot 48 = .ok (.getfield 177, 3) := by decide +kernel
theorem dX8_writeSlot_51 : decode cX8_writeSlot 51 = .ok (.invokevirtual 340, 3) := by decide +kernel
theorem dX8_writeSlot_54 : decode cX8_writeSlot 54 = .ok (.aload_n 0, 1) := by decide +kernel
theorem dX8_writeSlot_55 : decode cX8_writeSlot 55 = .ok (.getfield 40, 3) := by decide +kernel
theorem dX8_writeSlot_58 : decode cX8_writeSlot 58 = .ok (.bipush 47, 2) := by decide +kernel
theorem dX8_writeSlot_60 : decode cX8_writeSlot 60 = .ok (.invokevirtual 329, 3) := by decide +kernel
theorem dX8_writeSlot_63 : decode cX8_writeSlot 63 = .ok (.aload_n 0, 1) := by decide +kernel
theorem dX8_writeSlot_64 : decode cX8_writeSlot 64 = .ok (.getfield 40, 3) := by decide +kernel
theorem dX8_writeSlot_67 : decode cX8_writeSlot 67 = .ok (.aload_n 1, 1) := by decide +kernel
theorem dX8_writeSlot_68 : decode cX8_writeSlot 68 = .ok (.getfield 180, 3) := by decide +kernel
theorem dX8_writeSlot_71 : decode cX8_writeSlot 71 = .ok (.invokevirtual 340, 3) := by decide +kernel
theorem dX8_writeSlot_74 : decode cX8_writeSlot 74 = .ok (.aload_n 1, 1) := by decide +kernel
theorem dX8_writeSlot_75 : decode cX8_writeSlot 75 = .ok (.getfield 183, 3) := by decide +kernel
theorem dX8_writeSlot_78 : decode cX8_writeSlot 78 = .ok (.ifCond .eq 12, 3) := by decide +kernel
theorem dX8_writeSlot_81 : decode cX8_writeSlot 81 = .ok (.aload_n 0, 1) := by decide +kernel
theorem dX8_writeSlot_82 : decode cX8_writeSlot 82 = .ok (.getfield 40, 3) := by decide +kernel
theorem dX8_writeSlot_85 : decode cX8_writeSlot 85 = .ok (.bipush 33, 2) := by decide +kernel
theorem dX8_writeSlot_87 : decode cX8_writeSlot 87 = .ok (.invokevirtual 329, 3) := by decide +kernel
theorem dX8_writeSlot_90 : decode cX8_writeSlot 90 = .ok (.aload_n 1, 1) := by decide +kernel
theorem dX8_writeSlot_91 : decode cX8_writeSlot 91 = .ok (.getfield 343, 3) := by decide +kernel
theorem dX8_writeSlot_94 : decode cX8_writeSlot 94 = .ok (.aload_n 0, 1) := by decide +kernel
theorem dX8_writeSlot_95 : decode cX8_writeSlot 95 = .ok (.getfield 19, 3) := by decide +kernel
theorem dX8_writeSlot_98 : decode cX8_writeSlot 98 = .ok (.getfield 104, 3) := by decide +kernel
theorem dX8_writeSlot_101 : decode cX8_writeSlot 101 = .ok (.if_icmp .ne 12, 3) := by decide +kernel
theorem dX8_writeSlot_104 : decode cX8_writeSlot 104 = .ok (.aload_n 0, 1) := by decide +kernel
theorem dX8_writeSlot_105 : decode cX8_writeSlot 105 = .ok (.getfield 40, 3) := by decide +kernel
theorem dX8_writeSlot_108 : decode cX8_writeSlot 108 = .ok (.bipush 42, 2) := by decide +kernel
theorem dX8_writeSlot_110 : decode cX8_writeSlot 110 = .ok (.invokevirtual 329, 3) := by decide +kernel
theorem dX8_writeSlot_113 : decode cX8_writeSlot 113 = .ok (.return_, 1) := by decide +kernel
theorem dX8_writeBoots_0 : decode cX8_writeBoots 0 = .ok (.aload_n 0, 1) := by decide +kernel
theorem dX8_writeBoots_1 : decode cX8_writeBoots 1 = .ok (.invokevirtual 82, 3) := by decide +kernel
theorem dX8_writeBoots_4 : decode cX8_writeBoots 4 = .ok (.aload_n 0, 1) := by decide +kernel
theorem dX8_writeBoots_5 : decode cX8_writeBoots 5 = .ok (.getfield 40, 3) := by decide +kernel
theorem dX8_writeBoots_8 : decode cX8_writeBoots 8 = .ok (.invokevirtual 326, 3) := by decide +kernel
theorem dX8_writeBoots_11 : decode cX8_writeBoots 11 = .ok (.aload_n 0, 1) := by decide +kernel
theorem dX8_writeBoots_12 : decode cX8_writeBoots 12 = .ok (.getfield 19, 3) := by decide +kernel
theorem dX8_writeBoots_15 : decode cX8_writeBoots 15 = .ok (.getfield 119, 3) := by decide +kernel
theorem dX8_writeBoots_18 : decode cX8_writeBoots 18 = .ok (.invokevirtual 274, 3) := by decide +kernel
theorem dX8_writeBoots_21 : decode cX8_writeBoots 21 = .ok (.istore_n 1, 1) := by decide +kernel
theorem dX8_writeBoots_22 : decode cX8_writeBoots 22 = .ok (.iload_n 1, 1) := by decide +kernel
theorem dX8_writeBoots_23 : decode cX8_writeBoots 23 = .ok (.iconst 1, 1) := by decide +kernel
theorem dX8_writeBoots_24 : decode cX8_writeBoots 24 = .ok (.isub, 1) := by decide +kernel
theorem dX8_writeBoots_25 : decode cX8_writeBoots 25 = .ok (.istore_n 2, 1) := by decide +kernel
theorem dX8_writeBoots_26 : decode cX8_writeBoots 26 = .ok (.iload_n 2, 1) := by decide +kernel
theorem dX8_writeBoots_27 : decode cX8_writeBoots 27 = .ok (.ifCond .lt 37, 3) := by decide +kernel
theorem dX8_writeBoots_30 : decode cX8_writeBoots 30 = .ok (.aload_n 0, 1) := by decide +kernel
theorem dX8_writeBoots_31 : decode cX8_writeBoots 31 = .ok (.aload_n 0, 1) := by decide +kernel
theorem dX8_writeBoots_32 : decode cX8_writeBoots 32 = .ok (.getfield 19, 3) := by decide +kernel
theorem dX8_writeBoots_35 : decode cX8_writeBoots 35 = .ok (.getfield 119, 3) := by decide +kernel
theorem dX8_writeBoots_38 : decode cX8_writeBoots 38 = .ok (.iload_n 2, 1) := by decide +kernel
theorem dX8_writeBoots_39 : decode cX8_writeBoots 39 = .ok (.invokevirtual 235, 3) := by decide +kernel
theorem dX8_writeBoots_42 : decode cX8_writeBoots 42 = .ok (.invokevirtual 346, 3) := by decide +kernel
theorem dX8_writeBoots_45 : decode cX8_writeBoots 45 = .ok (.iload_n 2, 1) := by decide +kernel
theorem dX8_writeBoots_46 : decode cX8_writeBoots 46 = .ok (.ifCond .le 12, 3) := by decide +kernel
theorem dX8_writeBoots_49 : decode cX8_writeBoots 49 = .ok (.aload_n 0, 1) := by decide +kernel
theorem dX8_writeBoots_50 : decode cX8_writeBoots 50 = .ok (.getfield 40, 3) := by decide +kernel
theorem dX8_writeBoots_53 : decode cX8_writeBoots 53 = .ok (.bipush 32, 2) := by decide +kernel
theorem dX8_writeBoots_55 : decode cX8_writeBoots 55 = .ok (.invokevirtual 329, 3) := by decide +kernel
theorem dX8_writeBoots_58 : decode cX8_writeBoots 58 = .ok (.iinc 2 (-1), 3) := by decide +kernel
theorem dX8_writeBoots_61 : decode cX8_writeBoots 61 = .ok (.goto (-35), 3) := by decide +kernel
theorem dX8_writeBoots_64 : decode cX8_writeBoots 64 = .ok (.iload_n 1, 1) := by decide +kernel
theorem dX8_writeBoots_65 : decode cX8_writeBoots 65 = .ok (.ifCond .ne 12, 3) := by decide +kernel
theorem dX8_writeBoots_68 : decode cX8_writeBoots 68 = .ok (.aload_n 0, 1) := by decide +kernel
theorem dX8_writeBoots_69 : decode cX8_writeBoots 69 = .ok (.getfield 40, 3) := by decide +kernel
theorem dX8_writeBoots_72 : decode cX8_writeBoots 72 = .ok (.bipush 45, 2) := by decide +kernel
theorem dX8_writeBoots_74 : decode cX8_writeBoots 74 = .ok (.invokevirtual 329, 3) := by decide +kernel
theorem dX8_writeBoots_77 : decode cX8_writeBoots 77 = .ok (.aload_n 0, 1) := by decide +kernel
theorem dX8_writeBoots_78 : decode cX8_writeBoots 78 = .ok (.getfield 40, 3) := by decide +kernel
theorem dX8_writeBoots_81 : decode cX8_writeBoots 81 = .ok (.getfield 337, 3) := by decide +kernel
theorem dX8_writeBoots_84 : decode cX8_writeBoots 84 = .ok (.ireturn, 1) := by decide +kernel
theorem dX8_writeBoot_0 : decode cX8_writeBoot 0 = .ok (.iload_n 1, 1) := by decide +kernel
theorem dX8_writeBoot_1 : decode cX8_writeBoot 1 = .ok (.ifCond .lt 9, 3) := by decide +kernel
theorem dX8_writeBoot_4 : decode cX8_writeBoot 4 = .ok (.iload_n 1, 1) := by decide +kernel
theorem dX8_writeBoot_5 : decode cX8_writeBoot 5 = .ok (.bipush 12, 2) := by decide +kernel
theorem dX8_writeBoot_7 : decode cX8_writeBoot 7 = .ok (.if_icmp .lt 4, 3) := by decide +kernel
theorem dX8_writeBoot_10 : decode cX8_writeBoot 10 = .ok (.return_, 1) := by decide +kernel
theorem dX8_writeBoot_11 : decode cX8_writeBoot 11 = .ok (.aload_n 0, 1) := by decide +kernel
theorem dX8_writeBoot_12 : decode cX8_writeBoot 12 = .ok (.getfield 40, 3) := by decide +kernel
theorem dX8_writeBoot_15 : decode cX8_writeBoot 15 = .ok (.aload_n 0, 1) := by decide +kernel
theorem dX8_writeBoot_16 : decode cX8_writeBoot 16 = .ok (.getfield 19, 3) := by decide +kernel
theorem dX8_writeBoot_19 : decode cX8_writeBoot 19 = .ok (.getfield 119, 3) := by decide +kernel
theorem dX8_writeBoot_22 : decode cX8_writeBoot 22 = .ok (.getfield 239, 3) := by decide +kernel
theorem dX8_writeBoot_25 : decode cX8_writeBoot 25 = .ok (.iload_n 1, 1) := by decide +kernel
theorem dX8_writeBoot_26 : decode cX8_writeBoot 26 = .ok (.iaload, 1) := by decide +kernel
theorem dX8_writeBoot_27 : decode cX8_writeBoot 27 = .ok (.invokevirtual 340, 3) := by decide +kernel
theorem dX8_writeBoot_30 : decode cX8_writeBoot 30 = .ok (.aload_n 0, 1) := by decide +kernel
theorem dX8_writeBoot_31 : decode cX8_writeBoot 31 = .ok (.getfield 19, 3) := by decide +kernel
theorem dX8_writeBoot_34 : decode cX8_writeBoot 34 = .ok (.getfield 119, 3) := by decide +kernel
theorem dX8_writeBoot_37 : decode cX8_writeBoot 37 = .ok (.getfield 243, 3) := by decide +kernel
theorem dX8_writeBoot_40 : decode cX8_writeBoot 40 = .ok (.iload_n 1, 1) := by decide +kernel
theorem dX8_writeBoot_41 : decode cX8_writeBoot 41 = .ok (.iaload, 1) := by decide +kernel
theorem dX8_writeBoot_42 : decode cX8_writeBoot 42 = .ok (.istore_n 2, 1) := by decide +kernel
theorem dX8_writeBoot_43 : decode cX8_writeBoot 43 = .ok (.iload_n 2, 1) := by decide +kernel
theorem dX8_writeBoot_44 : decode cX8_writeBoot 44 = .ok (.ifCond .lt 27, 3) := by decide +kernel
theorem dX8_writeBoot_47 : decode cX8_writeBoot 47 = .ok (.iload_n 2, 1) := by decide +kernel
theorem dX8_writeBoot_48 : decode cX8_writeBoot 48 = .ok (.ldc_w 349, 3) := by decide +kernel
theorem dX8_writeBoot_51 : decode cX8_writeBoot 51 = .ok (.invokevirtual 351, 3) := by decide +kernel
theorem dX8_writeBoot_54 : decode cX8_writeBoot 54 = .ok (.if_icmp .ge 17, 3) := by decide +kernel
theorem dX8_writeBoot_57 : decode cX8_writeBoot 57 = .ok (.aload_n 0, 1) := by decide +kernel
theorem dX8_writeBoot_58 : decode cX8_writeBoot 58 = .ok (.getfield 40, 3) := by decide +kernel
theorem dX8_writeBoot_61 : decode cX8_writeBoot 61 = .ok (.ldc_w 349, 3) := by decide +kernel
theorem dX8_writeBoot_64 : decode cX8_writeBoot 64 = .ok (.iload_n 2, 1) := by decide +kernel
theorem dX8_writeBoot_65 : decode cX8_writeBoot 65 = .ok (.invokevirtual 355, 3) := by decide +kernel
theorem dX8_writeBoot_68 : decode cX8_writeBoot 68 = .ok (.invokevirtual 329, 3) := by decide +kernel
theorem dX8_writeBoot_71 : decode cX8_writeBoot 71 = .ok (.aload_n 0, 1) := by decide +kernel
theorem dX8_writeBoot_72 : decode cX8_writeBoot 72 = .ok (.getfield 19, 3) := by decide +kernel
theorem dX8_writeBoot_75 : decode cX8_writeBoot 75 = .ok (.getfield 119, 3) := by decide +kernel
theorem dX8_writeBoot_78 : decode cX8_writeBoot 78 = .ok (.getfield 248, 3) := by decide +kernel
theorem dX8_writeBoot_81 : decode cX8_writeBoot 81 = .ok (.iload_n 1, 1) := by decide +kernel
theorem dX8_writeBoot_82 : decode cX8_writeBoot 82 = .ok (.iaload, 1) := by decide +kernel
theorem dX8_writeBoot_83 : decode cX8_writeBoot 83 = .ok (.ifCond .ge 15, 3) := by decide +kernel
theorem dX8_writeBoot_86 : decode cX8_writeBoot 86 = .ok (.aload_n 0, 1) := by decide +kernel
theorem dX8_writeBoot_87 : decode cX8_writeBoot 87 = .ok (.getfield 40, 3) := by decide +kernel
theorem dX8_writeBoot_90 : decode cX8_writeBoot 90 = .ok (.bipush 114, 2) := by decide +kernel
theorem dX8_writeBoot_92 : decode cX8_writeBoot 92 = .ok (.invokevirtual 329, 3) := by decide +kernel
theorem dX8_writeBoot_95 : decode cX8_writeBoot 95 = .ok (.goto 22, 3) := by decide +kernel
theorem dX8_writeBoot_98 : decode cX8_writeBoot 98 = .ok (.aload_n 0, 1) := by decide +kernel
theorem dX8_writeBoot_99 : decode cX8_writeBoot 99 = .ok (.getfield 40, 3) := by decide +kernel
theorem dX8_writeBoot_102 : decode cX8_writeBoot 102 = .ok (.aload_n 0, 1) := by decide +kernel
theorem dX8_writeBoot_103 : decode cX8_writeBoot 103 = .ok (.getfield 19, 3) := by decide +kernel
theorem dX8_writeBoot_106 : decode cX8_writeBoot 106 = .ok (.getfield 119, 3) := by decide +kernel
theorem dX8_writeBoot_109 : decode cX8_writeBoot 109 = .ok (.getfield 248, 3) := by decide +kernel
theorem dX8_writeBoot_112 : decode cX8_writeBoot 112 = .ok (.iload_n 1, 1) := by decide +kernel
theorem dX8_writeBoot_113 : decode cX8_writeBoot 113 = .ok (.iaload, 1) := by decide +kernel
theorem dX8_writeBoot_114 : decode cX8_writeBoot 114 = .ok (.invokevirtual 340, 3) := by decide +kernel
theorem dX8_writeBoot_117 : decode cX8_writeBoot 117 = .ok (.return_, 1) := by decide +kernel
theorem dX8_writeMachine_0 : decode cX8_writeMachine 0 = .ok (.aload_n 0, 1) := by decide +kernel
theorem dX8_writeMachine_1 : decode cX8_writeMachine 1 = .ok (.invokevirtual 82, 3) := by decide +kernel
theorem dX8_writeMachine_4 : decode cX8_writeMachine 4 = .ok (.aload_n 0, 1) := by decide +kernel
theorem dX8_writeMachine_5 : decode cX8_writeMachine 5 = .ok (.getfield 40, 3) := by decide +kernel
theorem dX8_writeMachine_8 : decode cX8_writeMachine 8 = .ok (.invokevirtual 326, 3) := by decide +kernel
theorem dX8_writeMachine_11 : decode cX8_writeMachine 11 = .ok (.aload_n 0, 1) := by decide +kernel
theorem dX8_writeMachine_12 : decode cX8_writeMachine 12 = .ok (.getfield 40, 3) := by decide +kernel
theorem dX8_writeMachine_15 : decode cX8_writeMachine 15 = .ok (.ldc_w 359, 3) := by decide +kernel
theorem dX8_writeMachine_18 : decode cX8_writeMachine 18 = .ok (.invokevirtual 360, 3) := by decide +kernel
theorem dX8_writeMachine_21 : decode cX8_writeMachine 21 = .ok (.aload_n 0, 1) := by decide +kernel
theorem dX8_writeMachine_22 : decode cX8_writeMachine 22 = .ok (.getfield 40, 3) := by decide +kernel
theorem dX8_writeMachine_25 : decode cX8_writeMachine 25 = .ok (.aload_n 0, 1) := by decide +kernel
theorem dX8_writeMachine_26 : decode cX8_writeMachine 26 = .ok (.getfield 19, 3) := by decide +kernel
theorem dX8_writeMachine_29 : decode cX8_writeMachine 29 = .ok (.getfield 88, 3) := by decide +kernel
theorem dX8_writeMachine_32 : decode cX8_writeMachine 32 = .ok (.invokevirtual 364, 3) := by decide +kernel
theorem dX8_writeMachine_35 : decode cX8_writeMachine 35 = .ok (.aload_n 0, 1) := by decide +kernel
theorem dX8_writeMachine_36 : decode cX8_writeMachine 36 = .ok (.getfield 40, 3) := by decide +kernel
theorem dX8_writeMachine_39 : decode cX8_writeMachine 39 = .ok (.aload_n 0, 1) := by decide +kernel
theorem dX8_writeMachine_40 : decode cX8_writeMachine 40 = .ok (.getfield 19, 3) := by decide +kernel
theorem dX8_writeMachine_43 : decode cX8_writeMachine 43 = .ok (.getfield 91, 3) := by decide +kernel
theorem dX8_writeMachine_46 : decode cX8_writeMachine 46 = .ok (.invokevirtual 364, 3) := by decide +kernel
theorem dX8_writeMachine_49 : decode cX8_writeMachine 49 = .ok (.aload_n 0, 1) := by decide +kernel
theorem dX8_writeMachine_50 : decode cX8_writeMachine 50 = .ok (.getfield 40, 3) := by decide +kernel
theorem dX8_writeMachine_53 : decode cX8_writeMachine 53 = .ok (.aload_n 0, 1) := by decide +kernel
theorem dX8_writeMachine_54 : decode cX8_writeMachine 54 = .ok (.getfield 19, 3) := by decide +kernel
theorem dX8_writeMachine_57 : decode cX8_writeMachine 57 = .ok (.getfield 94, 3) := by decide +kernel
theorem dX8_writeMachine_60 : decode cX8_writeMachine 60 = .ok (.invokevirtual 364, 3) := by decide +kernel
theorem dX8_writeMachine_63 : decode cX8_writeMachine 63 = .ok (.aload_n 0, 1) := by decide +kernel
theorem dX8_writeMachine_64 : decode cX8_writeMachine 64 = .ok (.getfield 40, 3) := by decide +kernel
theorem dX8_writeMachine_67 : decode cX8_writeMachine 67 = .ok (.aload_n 0, 1) := by decide +kernel
theorem dX8_writeMachine_68 : decode cX8_writeMachine 68 = .ok (.getfield 19, 3) := by decide +kernel
theorem dX8_writeMachine_71 : decode cX8_writeMachine 71 = .ok (.getfield 97, 3) := by decide +kernel
theorem dX8_writeMachine_74 : decode cX8_writeMachine 74 = .ok (.invokevirtual 364, 3) := by decide +kernel
theorem dX8_writeMachine_77 : decode cX8_writeMachine 77 = .ok (.iconst 0, 1) := by decide +kernel
theorem dX8_writeMachine_78 : decode cX8_writeMachine 78 = .ok (.istore_n 1, 1) := by decide +kernel
theorem dX8_writeMachine_79 : decode cX8_writeMachine 79 = .ok (.iload_n 1, 1) := by decide +kernel
theorem dX8_writeMachine_80 : decode cX8_writeMachine 80 = .ok (.aload_n 0, 1) := by decide +kernel
theorem dX8_writeMachine_81 : decode cX8_writeMachine 81 = .ok (.getfield 19, 3) := by decide +kernel
theorem dX8_writeMachine_84 : decode cX8_writeMachine 84 = .ok (.getfield 76, 3) := by decide +kernel
theorem dX8_writeMachine_87 : decode cX8_writeMachine 87 = .ok (.if_icmp .ge 19, 3) := by decide +kernel
theorem dX8_writeMachine_90 : decode cX8_writeMachine 90 = .ok (.aload_n 0, 1) := by decide +kernel
theorem dX8_writeMachine_91 : decode cX8_writeMachine 91 = .ok (.getfield 40, 3) := by decide +kernel
theorem dX8_writeMachine_94 : decode cX8_writeMachine 94 = .ok (.ldc_w 367, 3) := by decide +kernel
theorem dX8_writeMachine_97 : decode cX8_writeMachine 97 = .ok (.invokevirtual 360, 3) := by decide +kernel
theorem dX8_writeMachine_100 : decode cX8_writeMachine 100 = .ok (.iinc 1 1, 3) := by decide +kernel
theorem dX8_writeMachine_103 : decode cX8_writeMachine 103 = .ok (.goto (-24), 3) := by decide +kernel
theorem dX8_writeMachine_106 : decode cX8_writeMachine 106 = .ok (.iconst 0, 1) := by decide +kernel
theorem dX8_writeMachine_107 : decode cX8_writeMachine 107 = .ok (.istore_n 1, 1) := by decide +kernel
theorem dX8_writeMachine_108 : decode cX8_writeMachine 108 = .ok (.iload_n 1, 1) := by decide +kernel
theorem dX8_writeMachine_109 : decode cX8_writeMachine 109 = .ok (.bipush 6, 2) := by decide +kernel
theorem dX8_writeMachine_111 : decode cX8_writeMachine 111 = .ok (.if_icmp .ge 53, 3) := by decide +kernel
theorem dX8_writeMachine_114 : decode cX8_writeMachine 114 = .ok (.aload_n 0, 1) := by decide +kernel
theorem dX8_writeMachine_115 : decode cX8_writeMachine 115 = .ok (.getfield 19, 3) := by decide +kernel
theorem dX8_writeMachine_118 : decode cX8_writeMachine 118 = .ok (.getfield 158, 3) := by decide +kernel
theorem dX8_writeMachine_121 : decode cX8_writeMachine 121 = .ok (.iload_n 1, 1) := by decide +kernel
theorem dX8_writeMachine_122 : decode cX8_writeMachine 122 = .ok (.aaload, 1) := by decide +kernel
theorem dX8_writeMachine_123 : decode cX8_writeMachine 123 = .ok (.getfield 162, 3) := by decide +kernel
theorem dX8_writeMachine_126 : decode cX8_writeMachine 126 = .ok (.getfield 168, 3) := by decide +kernel
theorem dX8_writeMachine_129 : decode cX8_writeMachine 129 = .ok (.ifCond .eq 29, 3) := by decide +kernel
theorem dX8_writeMachine_132 : decode cX8_writeMachine 132 = .ok (.aload_n 0, 1) := by decide +kernel
theorem dX8_writeMachine_133 : decode cX8_writeMachine 133 = .ok (.aload_n 0, 1) := by decide +kernel
theorem dX8_writeMachine_134 : decode cX8_writeMachine 134 = .ok (.getfield 19, 3) := by decide +kernel
theorem dX8_writeMachine_137 : decode cX8_writeMachine 137 = .ok (.getfield 158, 3) := by decide +kernel
theorem dX8_writeMachine_140 : decode cX8_writeMachine 140 = .ok (.iload_n 1, 1) := by decide +kernel
theorem dX8_writeMachine_141 : decode cX8_writeMachine 141 = .ok (.aaload, 1) := by decide +kernel
theorem dX8_writeMachine_142 : decode cX8_writeMachine 142 = .ok (.invokevirtual 369, 3) := by decide +kernel
theorem dX8_writeMachine_145 : decode cX8_writeMachine 145 = .ok (.aload_n 0, 1) := by decide +kernel
theorem dX8_writeMachine_146 : decode cX8_writeMachine 146 = .ok (.aload_n 0, 1) := by decide +kernel
theorem dX8_writeMachine_147 : decode cX8_writeMachine 147 = .ok (.getfield 19, 3) := by decide +kernel
theorem dX8_writeMachine_150 : decode cX8_writeMachine 150 = .ok (.getfield 158, 3) := by decide +kernel
theorem dX8_writeMachine_153 : decode cX8_writeMachine 153 = .ok (.iload_n 1, 1) := by decide +kernel
theorem dX8_writeMachine_154 : decode cX8_writeMachine 154 = .ok (.aaload, 1) := by decide +kernel
theorem dX8_writeMachine_155 : decode cX8_writeMachine 155 = .ok (.invokevirtual 372, 3) := by decide +kernel
theorem dX8_writeMachine_158 : decode cX8_writeMachine 158 = .ok (.iinc 1 1, 3) := by decide +kernel
theorem dX8_writeMachine_161 : decode cX8_writeMachine 161 = .ok (.goto (-53), 3) := by decide +kernel
theorem dX8_writeMachine_164 : decode cX8_writeMachine 164 = .ok (.aload_n 0, 1) := by decide +kernel
theorem dX8_writeMachine_165 : decode cX8_writeMachine 165 = .ok (.getfield 40, 3) := by decide +kernel
theorem dX8_writeMachine_168 : decode cX8_writeMachine 168 = .ok (.getfield 337, 3) := by decide +kernel
theorem dX8_writeMachine_171 : decode cX8_writeMachine 171 = .ok (.ireturn, 1) := by decide +kernel
theorem dX8_writeImageLine_0 : decode cX8_writeImageLine 0 = .ok (.aload_n 0, 1) := by decide +kernel
theorem dX8_writeImageLine_1 : decode cX8_writeImageLine 1 = .ok (.getfield 40, 3) := by decide +kernel
theorem dX8_writeImageLine_4 : decode cX8_writeImageLine 4 = .ok (.ldc_w 375, 3) := by decide +kernel
theorem dX8_writeImageLine_7 : decode cX8_writeImageLine 7 = .ok (.invokevirtual 360, 3) := by decide +kernel
theorem dX8_writeImageLine_10 : decode cX8_writeImageLine 10 = .ok (.aload_n 0, 1) := by decide +kernel
theorem dX8_writeImageLine_11 : decode cX8_writeImageLine 11 = .ok (.getfield 40, 3) := by decide +kernel
theorem dX8_writeImageLine_14 : decode cX8_writeImageLine 14 = .ok (.aload_n 1, 1) := by decide +kernel
theorem dX8_writeImageLine_15 : decode cX8_writeImageLine 15 = .ok (.getfield 343, 3) := by decide +kernel
theorem dX8_writeImageLine_18 : decode cX8_writeImageLine 18 = .ok (.invokevirtual 364, 3) := by decide +kernel
theorem dX8_writeImageLine_21 : decode cX8_writeImageLine 21 = .ok (.aload_n 0, 1) := by decide +kernel
theorem dX8_writeImageLine_22 : decode cX8_writeImageLine 22 = .ok (.getfield 40, 3) := by decide +kernel
theorem dX8_writeImageLine_25 : decode cX8_writeImageLine 25 = .ok (.aload_n 1, 1) := by decide +kernel
theorem dX8_writeImageLine_26 : decode cX8_writeImageLine 26 = .ok (.getfield 162, 3) := by decide +kernel
theorem dX8_writeImageLine_29 : decode cX8_writeImageLine 29 = .ok (.getfield 202, 3) := by decide +kernel
theorem dX8_writeImageLine_32 : decode cX8_writeImageLine 32 = .ok (.invokevirtual 364, 3) := by decide +kernel
theorem dX8_writeImageLine_35 : decode cX8_writeImageLine 35 = .ok (.aload_n 0, 1) := by decide +kernel
theorem dX8_writeImageLine_36 : decode cX8_writeImageLine 36 = .ok (.getfield 40, 3) := by decide +kernel
theorem dX8_writeImageLine_39 : decode cX8_writeImageLine 39 = .ok (.aload_n 1, 1) := by decide +kernel
theorem dX8_writeImageLine_40 : decode cX8_writeImageLine 40 = .ok (.getfield 162, 3) := by decide +kernel
theorem dX8_writeImageLine_43 : decode cX8_writeImageLine 43 = .ok (.getfield 205, 3) := by decide +kernel
theorem dX8_writeImageLine_46 : decode cX8_writeImageLine 46 = .ok (.invokevirtual 364, 3) := by decide +kernel
theorem dX8_writeImageLine_49 : decode cX8_writeImageLine 49 = .ok (.aload_n 0, 1) := by decide +kernel
theorem dX8_writeImageLine_50 : decode cX8_writeImageLine 50 = .ok (.getfield 40, 3) := by decide +kernel
theorem dX8_writeImageLine_53 : decode cX8_writeImageLine 53 = .ok (.aload_n 1, 1) := by decide +kernel
theorem dX8_writeImageLine_54 : decode cX8_writeImageLine 54 = .ok (.getfield 162, 3) := by decide +kernel
theorem dX8_writeImageLine_57 : decode cX8_writeImageLine 57 = .ok (.getfield 208, 3) := by decide +kernel
theorem dX8_writeImageLine_60 : decode cX8_writeImageLine 60 = .ok (.invokevirtual 364, 3) := by decide +kernel
theorem dX8_writeImageLine_63 : decode cX8_writeImageLine 63 = .ok (.aload_n 1, 1) := by decide +kernel
theorem dX8_writeImageLine_64 : decode cX8_writeImageLine 64 = .ok (.getfield 162, 3) := by decide +kernel
theorem dX8_writeImageLine_67 : decode cX8_writeImageLine 67 = .ok (.getfield 211, 3) := by decide +kernel
theorem dX8_writeImageLine_70 : decode cX8_writeImageLine 70 = .ok (.ifCond .eq 13, 3) := by decide +kernel
theorem dX8_writeImageLine_73 : decode cX8_writeImageLine 73 = .ok (.aload_n 0, 1) := by decide +kernel
theorem dX8_writeImageLine_74 : decode cX8_writeImageLine 74 = .ok (.getfield 40, 3) := by decide +kernel
theorem dX8_writeImageLine_77 : decode cX8_writeImageLine 77 = .ok (.ldc_w 377, 3) := by decide +kernel
theorem dX8_writeImageLine_80 : decode cX8_writeImageLine 80 = .ok (.invokevirtual 360, 3) := by decide +kernel
theorem dX8_writeImageLine_83 : decode cX8_writeImageLine 83 = .ok (.aload_n 1, 1) := by decide +kernel
theorem dX8_writeImageLine_84 : decode cX8_writeImageLine 84 = .ok (.getfield 162, 3) := by decide +kernel
theorem dX8_writeImageLine_87 : decode cX8_writeImageLine 87 = .ok (.getfield 214, 3) := by decide +kernel
theorem dX8_writeImageLine_90 : decode cX8_writeImageLine 90 = .ok (.ifCond .eq 13, 3) := by decide +kernel
theorem dX8_writeImageLine_93 : decode cX8_writeImageLine 93 = .ok (.aload_n 0, 1) := by decide +kernel
theorem dX8_writeImageLine_94 : decode cX8_writeImageLine 94 = .ok (.getfield 40, 3) := by decide +kernel
theorem dX8_writeImageLine_97 : decode cX8_writeImageLine 97 = .ok (.ldc_w 379, 3) := by decide +kernel
theorem dX8_writeImageLine_100 : decode cX8_writeImageLine 100 = .ok (.invokevirtual 360, 3) := by decide +kernel
theorem dX8_writeImageLine_103 : decode cX8_writeImageLine 103 = .ok (.return_, 1) := by decide +kernel
theorem dX8_writeMarkLine_0 : decode cX8_writeMarkLine 0 = .ok (.aload_n 0, 1) := by decide +kernel
theorem dX8_writeMarkLine_1 : decode cX8_writeMarkLine 1 = .ok (.getfield 40, 3) := by decide +kernel
theorem dX8_writeMarkLine_4 : decode cX8_writeMarkLine 4 = .ok (.ldc_w 381, 3) := by decide +kernel
theorem dX8_writeMarkLine_7 : decode cX8_writeMarkLine 7 = .ok (.invokevirtual 360, 3) := by decide +kernel
theorem dX8_writeMarkLine_10 : decode cX8_writeMarkLine 10 = .ok (.aload_n 0, 1) := by decide +kernel
theorem dX8_writeMarkLine_11 : decode cX8_writeMarkLine 11 = .ok (.getfield 40, 3) := by decide +kernel
theorem dX8_writeMarkLine_14 : decode cX8_writeMarkLine 14 = .ok (.aload_n 1, 1) := by decide +kernel
theorem dX8_writeMarkLine_15 : decode cX8_writeMarkLine 15 = .ok (.getfield 343, 3) := by decide +kernel
theorem dX8_writeMarkLine_18 : decode cX8_writeMarkLine 18 = .ok (.invokevirtual 364, 3) := by decide +kernel
theorem dX8_writeMarkLine_21 : decode cX8_writeMarkLine 21 = .ok (.aload_n 0, 1) := by decide +kernel
theorem dX8_writeMarkLine_22 : decode cX8_writeMarkLine 22 = .ok (.getfield 40, 3) := by decide +kernel
theorem dX8_writeMarkLine_25 : decode cX8_writeMarkLine 25 = .ok (.aload_n 1, 1) := by decide +kernel
theorem dX8_writeMarkLine_26 : decode cX8_writeMarkLine 26 = .ok (.getfield 177, 3) := by decide +kernel
theorem dX8_writeMarkLine_29 : decode cX8_writeMarkLine 29 = .ok (.invokevirtual 364, 3) := by decide +kernel
theorem dX8_writeMarkLine_32 : decode cX8_writeMarkLine 32 = .ok (.aload_n 0, 1) := by decide +kernel
theorem dX8_writeMarkLine_33 : decode cX8_writeMarkLine 33 = .ok (.getfield 40, 3) := by decide +kernel
theorem dX8_writeMarkLine_36 : decode cX8_writeMarkLine 36 = .ok (.aload_n 1, 1) := by decide +kernel
theorem dX8_writeMarkLine_37 : decode cX8_writeMarkLine 37 = .ok (.getfield 180, 3) := by decide +kernel
theorem dX8_writeMarkLine_40 : decode cX8_writeMarkLine 40 = .ok (.invokevirtual 364, 3) := by decide +kernel
theorem dX8_writeMarkLine_43 : decode cX8_writeMarkLine 43 = .ok (.aload_n 1, 1) := by decide +kernel
theorem dX8_writeMarkLine_44 : decode cX8_writeMarkLine 44 = .ok (.getfield 183, 3) := by decide +kernel
theorem dX8_writeMarkLine_47 : decode cX8_writeMarkLine 47 = .ok (.ifCond .eq 13, 3) := by decide +kernel
theorem dX8_writeMarkLine_50 : decode cX8_writeMarkLine 50 = .ok (.aload_n 0, 1) := by decide +kernel
theorem dX8_writeMarkLine_51 : decode cX8_writeMarkLine 51 = .ok (.getfield 40, 3) := by decide +kernel
theorem dX8_writeMarkLine_54 : decode cX8_writeMarkLine 54 = .ok (.ldc_w 383, 3) := by decide +kernel
theorem dX8_writeMarkLine_57 : decode cX8_writeMarkLine 57 = .ok (.invokevirtual 360, 3) := by decide +kernel
theorem dX8_writeMarkLine_60 : decode cX8_writeMarkLine 60 = .ok (.return_, 1) := by decide +kernel
theorem dX8_textByte_0 : decode cX8_textByte 0 = .ok (.iload_n 1, 1) := by decide +kernel
theorem dX8_textByte_1 : decode cX8_textByte 1 = .ok (.ifCond .lt 14, 3) := by decide +kernel
theorem dX8_textByte_4 : decode cX8_textByte 4 = .ok (.iload_n 1, 1) := by decide +kernel
theorem dX8_textByte_5 : decode cX8_textByte 5 = .ok (.aload_n 0, 1) := by decide +kernel
theorem dX8_textByte_6 : decode cX8_textByte 6 = .ok (.getfield 40, 3) := by decide +kernel
theorem dX8_textByte_9 : decode cX8_textByte 9 = .ok (.getfield 337, 3) := by decide +kernel
theorem dX8_textByte_12 : decode cX8_textByte 12 = .ok (.if_icmp .lt 11, 3) := by decide +kernel
theorem dX8_textByte_15 : decode cX8_textByte 15 = .ok (.new 52, 3) := by decide +kernel
theorem dX8_textByte_18 : decode cX8_textByte 18 = .ok (.dup, 1) := by decide +kernel
theorem dX8_textByte_19 : decode cX8_textByte 19 = .ok (.invokespecial 54, 3) := by decide +kernel
theorem dX8_textByte_22 : decode cX8_textByte 22 = .ok (.athrow, 1) := by decide +kernel
theorem dX8_textByte_23 : decode cX8_textByte 23 = .ok (.aload_n 0, 1) := by decide +kernel
theorem dX8_textByte_24 : decode cX8_textByte 24 = .ok (.getfield 40, 3) := by decide +kernel
theorem dX8_textByte_27 : decode cX8_textByte 27 = .ok (.getfield 385, 3) := by decide +kernel
theorem dX8_textByte_30 : decode cX8_textByte 30 = .ok (.iload_n 1, 1) := by decide +kernel
theorem dX8_textByte_31 : decode cX8_textByte 31 = .ok (.baload, 1) := by decide +kernel
theorem dX8_textByte_32 : decode cX8_textByte 32 = .ok (.ireturn, 1) := by decide +kernel
theorem dX8_power_0 : decode cX8_power 0 = .ok (.aload_n 0, 1) := by decide +kernel
theorem dX8_power_1 : decode cX8_power 1 = .ok (.invokevirtual 82, 3) := by decide +kernel
theorem dX8_power_4 : decode cX8_power 4 = .ok (.aload_n 0, 1) := by decide +kernel
theorem dX8_power_5 : decode cX8_power 5 = .ok (.getfield 19, 3) := by decide +kernel
theorem dX8_power_8 : decode cX8_power 8 = .ok (.getfield 389, 3) := by decide +kernel
theorem dX8_power_11 : decode cX8_power 11 = .ok (.ifCond .eq 11, 3) := by decide +kernel
theorem dX8_power_14 : decode cX8_power 14 = .ok (.new 62, 3) := by decide +kernel
theorem dX8_power_17 : decode cX8_power 17 = .ok (.dup, 1) := by decide +kernel
theorem dX8_power_18 : decode cX8_power 18 = .ok (.invokespecial 64, 3) := by decide +kernel
theorem dX8_power_21 : decode cX8_power 21 = .ok (.athrow, 1) := by decide +kernel
theorem dX8_power_22 : decode cX8_power 22 = .ok (.aload_n 0, 1) := by decide +kernel
theorem dX8_power_23 : decode cX8_power 23 = .ok (.invokevirtual 392, 3) := by decide +kernel
theorem dX8_power_26 : decode cX8_power 26 = .ok (.aload_n 0, 1) := by decide +kernel
theorem dX8_power_27 : decode cX8_power 27 = .ok (.getfield 19, 3) := by decide +kernel
theorem dX8_power_30 : decode cX8_power 30 = .ok (.iconst 0, 1) := by decide +kernel
theorem dX8_power_31 : decode cX8_power 31 = .ok (.invokevirtual 298, 3) := by decide +kernel
theorem dX8_power_34 : decode cX8_power 34 = .ok (.pop, 1) := by decide +kernel
theorem dX8_power_35 : decode cX8_power 35 = .ok (.aload_n 0, 1) := by decide +kernel
theorem dX8_power_36 : decode cX8_power 36 = .ok (.getfield 19, 3) := by decide +kernel
theorem dX8_power_39 : decode cX8_power 39 = .ok (.getfield 104, 3) := by decide +kernel
theorem dX8_power_42 : decode cX8_power 42 = .ok (.ireturn, 1) := by decide +kernel
theorem dX8_cut_0 : decode cX8_cut 0 = .ok (.aload_n 0, 1) := by decide +kernel
theorem dX8_cut_1 : decode cX8_cut 1 = .ok (.invokevirtual 395, 3) := by decide +kernel
theorem dX8_cut_4 : decode cX8_cut 4 = .ok (.aload_n 0, 1) := by decide +kernel
theorem dX8_cut_5 : decode cX8_cut 5 = .ok (.invokevirtual 392, 3) := by decide +kernel
theorem dX8_cut_8 : decode cX8_cut 8 = .ok (.aload_n 0, 1) := by decide +kernel
theorem dX8_cut_9 : decode cX8_cut 9 = .ok (.getfield 19, 3) := by decide +kernel
theorem dX8_cut_12 : decode cX8_cut 12 = .ok (.getfield 217, 3) := by decide +kernel
theorem dX8_cut_15 : decode cX8_cut 15 = .ok (.getfield 227, 3) := by decide +kernel
theorem dX8_cut_18 : decode cX8_cut 18 = .ok (.istore_n 1, 1) := by decide +kernel
theorem dX8_cut_19 : decode cX8_cut 19 = .ok (.aload_n 0, 1) := by decide +kernel
theorem dX8_cut_20 : decode cX8_cut 20 = .ok (.getfield 19, 3) := by decide +kernel
theorem dX8_cut_23 : decode cX8_cut 23 = .ok (.invokevirtual 398, 3) := by decide +kernel
theorem dX8_cut_26 : decode cX8_cut 26 = .ok (.iload_n 1, 1) := by decide +kernel
theorem dX8_cut_27 : decode cX8_cut 27 = .ok (.ireturn, 1) := by decide +kernel
theorem dX8_reboot_0 : decode cX8_reboot 0 = .ok (.aload_n 0, 1) := by decide +kernel
theorem dX8_reboot_1 : decode cX8_reboot 1 = .ok (.invokevirtual 395, 3) := by decide +kernel
theorem dX8_reboot_4 : decode cX8_reboot 4 = .ok (.aload_n 0, 1) := by decide +kernel
theorem dX8_reboot_5 : decode cX8_reboot 5 = .ok (.invokevirtual 392, 3) := by decide +kernel
theorem dX8_reboot_8 : decode cX8_reboot 8 = .ok (.aload_n 0, 1) := by decide +kernel
theorem dX8_reboot_9 : decode cX8_reboot 9 = .ok (.getfield 19, 3) := by decide +kernel
theorem dX8_reboot_12 : decode cX8_reboot 12 = .ok (.iconst 1, 1) := by decide +kernel
theorem dX8_reboot_13 : decode cX8_reboot 13 = .ok (.invokevirtual 298, 3) := by decide +kernel
theorem dX8_reboot_16 : decode cX8_reboot 16 = .ok (.pop, 1) := by decide +kernel
theorem dX8_reboot_17 : decode cX8_reboot 17 = .ok (.aload_n 0, 1) := by decide +kernel
theorem dX8_reboot_18 : decode cX8_reboot 18 = .ok (.getfield 19, 3) := by decide +kernel
theorem dX8_reboot_21 : decode cX8_reboot 21 = .ok (.getfield 104, 3) := by decide +kernel
theorem dX8_reboot_24 : decode cX8_reboot 24 = .ok (.ireturn, 1) := by decide +kernel
theorem dX8_tick_0 : decode cX8_tick 0 = .ok (.aload_n 0, 1) := by decide +kernel
theorem dX8_tick_1 : decode cX8_tick 1 = .ok (.invokevirtual 82, 3) := by decide +kernel
theorem dX8_tick_4 : decode cX8_tick 4 = .ok (.iload_n 1, 1) := by decide +kernel
theorem dX8_tick_5 : decode cX8_tick 5 = .ok (.iconst 1, 1) := by decide +kernel
theorem dX8_tick_6 : decode cX8_tick 6 = .ok (.sipush 300, 3) := by decide +kernel
theorem dX8_tick_9 : decode cX8_tick 9 = .ok (.invokestatic 198, 3) := by decide +kernel
theorem dX8_tick_12 : decode cX8_tick 12 = .ok (.aload_n 0, 1) := by decide +kernel
theorem dX8_tick_13 : decode cX8_tick 13 = .ok (.getfield 19, 3) := by decide +kernel
theorem dX8_tick_16 : decode cX8_tick 16 = .ok (.getfield 85, 3) := by decide +kernel
theorem dX8_tick_19 : decode cX8_tick 19 = .ok (.iload_n 1, 1) := by decide +kernel
theorem dX8_tick_20 : decode cX8_tick 20 = .ok (.iadd, 1) := by decide +kernel
theorem dX8_tick_21 : decode cX8_tick 21 = .ok (.iconst 0, 1) := by decide +kernel
theorem dX8_tick_22 : decode cX8_tick 22 = .ok (.sipush 9999, 3) := by decide +kernel
theorem dX8_tick_25 : decode cX8_tick 25 = .ok (.invokestatic 198, 3) := by decide +kernel
theorem dX8_tick_28 : decode cX8_tick 28 = .ok (.aload_n 0, 1) := by decide +kernel
theorem dX8_tick_29 : decode cX8_tick 29 = .ok (.invokevirtual 392, 3) := by decide +kernel
theorem dX8_tick_32 : decode cX8_tick 32 = .ok (.aload_n 0, 1) := by decide +kernel
theorem dX8_tick_33 : decode cX8_tick 33 = .ok (.getfield 19, 3) := by decide +kernel
theorem dX8_tick_36 : decode cX8_tick 36 = .ok (.getfield 119, 3) := by decide +kernel
theorem dX8_tick_39 : decode cX8_tick 39 = .ok (.getfield 123, 3) := by decide +kernel
theorem dX8_tick_42 : decode cX8_tick 42 = .ok (.istore_n 2, 1) := by decide +kernel
theorem dX8_tick_43 : decode cX8_tick 43 = .ok (.iconst 0, 1) := by decide +kernel
theorem dX8_tick_44 : decode cX8_tick 44 = .ok (.istore_n 3, 1) := by decide +kernel
theorem dX8_tick_45 : decode cX8_tick 45 = .ok (.iload_n 3, 1) := by decide +kernel
theorem dX8_tick_46 : decode cX8_tick 46 = .ok (.iload_n 1, 1) := by decide +kernel
theorem dX8_tick_47 : decode cX8_tick 47 = .ok (.if_icmp .ge 16, 3) := by decide +kernel
theorem dX8_tick_50 : decode cX8_tick 50 = .ok (.aload_n 0, 1) := by decide +kernel
theorem dX8_tick_51 : decode cX8_tick 51 = .ok (.getfield 19, 3) := by decide +kernel
theorem dX8_tick_54 : decode cX8_tick 54 = .ok (.invokevirtual 286, 3) := by decide +kernel
theorem dX8_tick_57 : decode cX8_tick 57 = .ok (.iinc 3 1, 3) := by decide +kernel
theorem dX8_tick_60 : decode cX8_tick 60 = .ok (.goto (-15), 3) := by decide +kernel
theorem dX8_tick_63 : decode cX8_tick 63 = .ok (.aload_n 0, 1) := by decide +kernel
theorem dX8_tick_64 : decode cX8_tick 64 = .ok (.getfield 19, 3) := by decide +kernel
theorem dX8_tick_67 : decode cX8_tick 67 = .ok (.getfield 119, 3) := by decide +kernel
theorem dX8_tick_70 : decode cX8_tick 70 = .ok (.getfield 123, 3) := by decide +kernel
theorem dX8_tick_73 : decode cX8_tick 73 = .ok (.iload_n 2, 1) := by decide +kernel
theorem dX8_tick_74 : decode cX8_tick 74 = .ok (.isub, 1) := by decide +kernel
theorem dX8_tick_75 : decode cX8_tick 75 = .ok (.ireturn, 1) := by decide +kernel
theorem dX8_begin_0 : decode cX8_begin 0 = .ok (.aload_n 0, 1) := by decide +kernel
theorem dX8_begin_1 : decode cX8_begin 1 = .ok (.iload_n 1, 1) := by decide +kernel
theorem dX8_begin_2 : decode cX8_begin 2 = .ok (.invokevirtual 155, 3) := by decide +kernel
theorem dX8_begin_5 : decode cX8_begin 5 = .ok (.iload_n 2, 1) := by decide +kernel
theorem dX8_begin_6 : decode cX8_begin 6 = .ok (.iconst 0, 1) := by decide +kernel
theorem dX8_begin_7 : decode cX8_begin 7 = .ok (.bipush 99, 2) := by decide +kernel
theorem dX8_begin_9 : decode cX8_begin 9 = .ok (.invokestatic 198, 3) := by decide +kernel
theorem dX8_begin_12 : decode cX8_begin 12 = .ok (.iload_n 3, 1) := by decide +kernel
theorem dX8_begin_13 : decode cX8_begin 13 = .ok (.iconst 1, 1) := by decide +kernel
theorem dX8_begin_14 : decode cX8_begin 14 = .ok (.bipush 99, 2) := by decide +kernel
theorem dX8_begin_16 : decode cX8_begin 16 = .ok (.invokestatic 198, 3) := by decide +kernel
theorem dX8_begin_19 : decode cX8_begin 19 = .ok (.iload 4, 2) := by decide +kernel
theorem dX8_begin_21 : decode cX8_begin 21 = .ok (.iconst 0, 1) := by decide +kernel
theorem dX8_begin_22 : decode cX8_begin 22 = .ok (.bipush 99, 2) := by decide +kernel
theorem dX8_begin_24 : decode cX8_begin 24 = .ok (.invokestatic 198, 3) := by decide +kernel
theorem dX8_begin_27 : decode cX8_begin 27 = .ok (.iload 5, 2) := by decide +kernel
theorem dX8_begin_29 : decode cX8_begin 29 = .ok (.iconst 1, 1) := by decide +kernel
theorem dX8_begin_30 : decode cX8_begin 30 = .ok (.bipush 99, 2) := by decide +kernel
theorem dX8_begin_32 : decode cX8_begin 32 = .ok (.invokestatic 198, 3) := by decide +kernel
theorem dX8_begin_35 : decode cX8_begin 35 = .ok (.aload_n 0, 1) := by decide +kernel
theorem dX8_begin_36 : decode cX8_begin 36 = .ok (.invokevirtual 395, 3) := by decide +kernel
theorem dX8_begin_39 : decode cX8_begin 39 = .ok (.iload_n 1, 1) := by decide +kernel
theorem dX8_begin_40 : decode cX8_begin 40 = .ok (.aload_n 0, 1) := by decide +kernel
theorem dX8_begin_41 : decode cX8_begin 41 = .ok (.getfield 19, 3) := by decide +kernel
theorem dX8_begin_44 : decode cX8_begin 44 = .ok (.getfield 104, 3) := by decide +kernel
theorem dX8_begin_47 : decode cX8_begin 47 = .ok (.if_icmp .eq 16, 3) := by decide +kernel
theorem dX8_begin_50 : decode cX8_begin 50 = .ok (.aload_n 0, 1) := by decide +kernel
theorem dX8_begin_51 : decode cX8_begin 51 = .ok (.getfield 19, 3) := by decide +kernel
theorem dX8_begin_54 : decode cX8_begin 54 = .ok (.getfield 217, 3) := by decide +kernel
theorem dX8_begin_57 : decode cX8_begin 57 = .ok (.invokevirtual 221, 3) := by decide +kernel
theorem dX8_begin_60 : decode cX8_begin 60 = .ok (.ifCond .eq 11, 3) := by decide +kernel
theorem dX8_begin_63 : decode cX8_begin 63 = .ok (.new 62, 3) := by decide +kernel
theorem dX8_begin_66 : decode cX8_begin 66 = .ok (.dup, 1) := by decide +kernel
theorem dX8_begin_67 : decode cX8_begin 67 = .ok (.invokespecial 64, 3) := by decide +kernel
theorem dX8_begin_70 : decode cX8_begin 70 = .ok (.athrow, 1) := by decide +kernel
theorem dX8_begin_71 : decode cX8_begin 71 = .ok (.aload_n 0, 1) := by decide +kernel
theorem dX8_begin_72 : decode cX8_begin 72 = .ok (.invokevirtual 392, 3) := by decide +kernel
theorem dX8_begin_75 : decode cX8_begin 75 = .ok (.aload_n 0, 1) := by decide +kernel
theorem dX8_begin_76 : decode cX8_begin 76 = .ok (.getfield 19, 3) := by decide +kernel
theorem dX8_begin_79 : decode cX8_begin 79 = .ok (.getfield 158, 3) := by decide +kernel
theorem dX8_begin_82 : decode cX8_begin 82 = .ok (.iload_n 1, 1) := by decide +kernel
theorem dX8_begin_83 : decode cX8_begin 83 = .ok (.aaload, 1) := by decide +kernel
theorem dX8_begin_84 : decode cX8_begin 84 = .ok (.invokevirtual 307, 3) := by decide +kernel
theorem dX8_begin_87 : decode cX8_begin 87 = .ok (.aload_n 0, 1) := by decide +kernel
theorem dX8_begin_88 : decode cX8_begin 88 = .ok (.getfield 19, 3) := by decide +kernel
theorem dX8_begin_91 : decode cX8_begin 91 = .ok (.getfield 217, 3) := by decide +kernel
theorem dX8_begin_94 : decode cX8_begin 94 = .ok (.iload_n 1, 1) := by decide +kernel
theorem dX8_begin_95 : decode cX8_begin 95 = .ok (.iload 5, 2) := by decide +kernel
theorem dX8_begin_97 : decode cX8_begin 97 = .ok (.invokevirtual 310, 3) := by decide +kernel
theorem dX8_begin_100 : decode cX8_begin 100 = .ok (.aload_n 0, 1) := by decide +kernel
theorem dX8_begin_101 : decode cX8_begin 101 = .ok (.getfield 19, 3) := by decide +kernel
theorem dX8_begin_104 : decode cX8_begin 104 = .ok (.getfield 217, 3) := by decide +kernel
theorem dX8_begin_107 : decode cX8_begin 107 = .ok (.getfield 233, 3) := by decide +kernel
theorem dX8_begin_110 : decode cX8_begin 110 = .ok (.iload_n 2, 1) := by decide +kernel
theorem dX8_begin_111 : decode cX8_begin 111 = .ok (.iload_n 3, 1) := by decide +kernel
theorem dX8_begin_112 : decode cX8_begin 112 = .ok (.iload 4, 2) := by decide +kernel
theorem dX8_begin_114 : decode cX8_begin 114 = .ok (.invokevirtual 314, 3) := by decide +kernel
theorem dX8_begin_117 : decode cX8_begin 117 = .ok (.aload_n 0, 1) := by decide +kernel
theorem dX8_begin_118 : decode cX8_begin 118 = .ok (.getfield 19, 3) := by decide +kernel
theorem dX8_begin_121 : decode cX8_begin 121 = .ok (.getfield 85, 3) := by decide +kernel
theorem dX8_begin_124 : decode cX8_begin 124 = .ok (.iload 5, 2) := by decide +kernel
theorem dX8_begin_126 : decode cX8_begin 126 = .ok (.iadd, 1) := by decide +kernel
theorem dX8_begin_127 : decode cX8_begin 127 = .ok (.ireturn, 1) := by decide +kernel
theorem dX8_spoil_0 : decode cX8_spoil 0 = .ok (.aload_n 0, 1) := by decide +kernel
theorem dX8_spoil_1 : decode cX8_spoil 1 = .ok (.iload_n 1, 1) := by decide +kernel
theorem dX8_spoil_2 : decode cX8_spoil 2 = .ok (.invokevirtual 155, 3) := by decide +kernel
theorem dX8_spoil_5 : decode cX8_spoil 5 = .ok (.iload_n 2, 1) := by decide +kernel
theorem dX8_spoil_6 : decode cX8_spoil 6 = .ok (.iconst 0, 1) := by decide +kernel
theorem dX8_spoil_7 : decode cX8_spoil 7 = .ok (.iconst 2, 1) := by decide +kernel
theorem dX8_spoil_8 : decode cX8_spoil 8 = .ok (.invokestatic 198, 3) := by decide +kernel
theorem dX8_spoil_11 : decode cX8_spoil 11 = .ok (.iload_n 1, 1) := by decide +kernel
theorem dX8_spoil_12 : decode cX8_spoil 12 = .ok (.aload_n 0, 1) := by decide +kernel
theorem dX8_spoil_13 : decode cX8_spoil 13 = .ok (.getfield 19, 3) := by decide +kernel
theorem dX8_spoil_16 : decode cX8_spoil 16 = .ok (.getfield 217, 3) := by decide +kernel
theorem dX8_spoil_19 : decode cX8_spoil 19 = .ok (.getfield 227, 3) := by decide +kernel
theorem dX8_spoil_22 : decode cX8_spoil 22 = .ok (.if_icmp .ne 7, 3) := by decide +kernel
theorem dX8_spoil_25 : decode cX8_spoil 25 = .ok (.iconst 1, 1) := by decide +kernel
theorem dX8_spoil_26 : decode cX8_spoil 26 = .ok (.goto 4, 3) := by decide +kernel
theorem dX8_spoil_29 : decode cX8_spoil 29 = .ok (.iconst 0, 1) := by decide +kernel
theorem dX8_spoil_30 : decode cX8_spoil 30 = .ok (.istore_n 3, 1) := by decide +kernel
theorem dX8_spoil_31 : decode cX8_spoil 31 = .ok (.iload_n 3, 1) := by decide +kernel
theorem dX8_spoil_32 : decode cX8_spoil 32 = .ok (.ifCond .eq 16, 3) := by decide +kernel
theorem dX8_spoil_35 : decode cX8_spoil 35 = .ok (.aload_n 0, 1) := by decide +kernel
theorem dX8_spoil_36 : decode cX8_spoil 36 = .ok (.getfield 19, 3) := by decide +kernel
theorem dX8_spoil_39 : decode cX8_spoil 39 = .ok (.getfield 217, 3) := by decide +kernel
theorem dX8_spoil_42 : decode cX8_spoil 42 = .ok (.getfield 233, 3) := by decide +kernel
theorem dX8_spoil_45 : decode cX8_spoil 45 = .ok (.goto 15, 3) := by decide +kernel
theorem dX8_spoil_48 : decode cX8_spoil 48 = .ok (.aload_n 0, 1) := by decide +kernel
theorem dX8_spoil_49 : decode cX8_spoil 49 = .ok (.getfield 19, 3) := by decide +kernel
theorem dX8_spoil_52 : decode cX8_spoil 52 = .ok (.getfield 158, 3) := by decide +kernel
theorem dX8_spoil_55 : decode cX8_spoil 55 = .ok (.iload_n 1, 1) := by decide +kernel
theorem dX8_spoil_56 : decode cX8_spoil 56 = .ok (.aaload, 1) := by decide +kernel
theorem dX8_spoil_57 : decode cX8_spoil 57 = .ok (.getfield 162, 3) := by decide +kernel
theorem dX8_spoil_60 : decode cX8_spoil 60 = .ok (.astore 4, 2) := by decide +kernel
theorem dX8_spoil_62 : decode cX8_spoil 62 = .ok (.aload 4, 2) := by decide +kernel
theorem dX8_spoil_64 : decode cX8_spoil 64 = .ok (.getfield 168, 3) := by decide +kernel
theorem dX8_spoil_67 : decode cX8_spoil 67 = .ok (.ifCond .ne 11, 3) := by decide +kernel
theorem dX8_spoil_70 : decode cX8_spoil 70 = .ok (.new 62, 3) := by decide +kernel
theorem dX8_spoil_73 : decode cX8_spoil 73 = .ok (.dup, 1) := by decide +kernel
theorem dX8_spoil_74 : decode cX8_spoil 74 = .ok (.invokespecial 64, 3) := by decide +kernel
theorem dX8_spoil_77 : decode cX8_spoil 77 = .ok (.athrow, 1) := by decide +kernel
theorem dX8_spoil_78 : decode cX8_spoil 78 = .ok (.aload_n 0, 1) := by decide +kernel
theorem dX8_spoil_79 : decode cX8_spoil 79 = .ok (.invokevirtual 392, 3) := by decide +kernel
theorem dX8_spoil_82 : decode cX8_spoil 82 = .ok (.aload 4, 2) := by decide +kernel
theorem dX8_spoil_84 : decode cX8_spoil 84 = .ok (.aload 4, 2) := by decide +kernel
theorem dX8_spoil_86 : decode cX8_spoil 86 = .ok (.getfield 211, 3) := by decide +kernel
theorem dX8_spoil_89 : decode cX8_spoil 89 = .ok (.ifCond .ne 8, 3) := by decide +kernel
theorem dX8_spoil_92 : decode cX8_spoil 92 = .ok (.iload_n 2, 1) := by decide +kernel
theorem dX8_spoil_93 : decode cX8_spoil 93 = .ok (.iconst 1, 1) := by decide +kernel
theorem dX8_spoil_94 : decode cX8_spoil 94 = .ok (.if_icmp .eq 7, 3) := by decide +kernel
theorem dX8_spoil_97 : decode cX8_spoil 97 = .ok (.iconst 1, 1) := by decide +kernel
theorem dX8_spoil_98 : decode cX8_spoil 98 = .ok (.goto 4, 3) := by decide +kernel
theorem dX8_spoil_101 : decode cX8_spoil 101 = .ok (.iconst 0, 1) := by decide +kernel
theorem dX8_spoil_102 : decode cX8_spoil 102 = .ok (.putfield 211, 3) := by decide +kernel
theorem dX8_spoil_105 : decode cX8_spoil 105 = .ok (.aload 4, 2) := by decide +kernel
theorem dX8_spoil_107 : decode cX8_spoil 107 = .ok (.aload 4, 2) := by decide +kernel
theorem dX8_spoil_109 : decode cX8_spoil 109 = .ok (.getfield 214, 3) := by decide +kernel
theorem dX8_spoil_112 : decode cX8_spoil 112 = .ok (.ifCond .ne 7, 3) := by decide +kernel
theorem dX8_spoil_115 : decode cX8_spoil 115 = .ok (.iload_n 2, 1) := by decide +kernel
theorem dX8_spoil_116 : decode cX8_spoil 116 = .ok (.ifCond .eq 7, 3) := by decide +kernel
theorem dX8_spoil_119 : decode cX8_spoil 119 = .ok (.iconst 1, 1) := by decide +kernel
theorem dX8_spoil_120 : decode cX8_spoil 120 = .ok (.goto 4, 3) := by decide +kernel
theorem dX8_spoil_123 : decode cX8_spoil 123 = .ok (.iconst 0, 1) := by decide +kernel
theorem dX8_spoil_124 : decode cX8_spoil 124 = .ok (.putfield 214, 3) := by decide +kernel
theorem dX8_spoil_127 : decode cX8_spoil 127 = .ok (.aload 4, 2) := by decide +kernel
theorem dX8_spoil_129 : decode cX8_spoil 129 = .ok (.getfield 211, 3) := by decide +kernel
theorem dX8_spoil_132 : decode cX8_spoil 132 = .ok (.invokestatic 173, 3) := by decide +kernel
theorem dX8_spoil_135 : decode cX8_spoil 135 = .ok (.iconst 2, 1) := by decide +kernel
theorem dX8_spoil_136 : decode cX8_spoil 136 = .ok (.aload 4, 2) := by decide +kernel
theorem dX8_spoil_138 : decode cX8_spoil 138 = .ok (.getfield 214, 3) := by decide +kernel
theorem dX8_spoil_141 : decode cX8_spoil 141 = .ok (.invokestatic 173, 3) := by decide +kernel
theorem dX8_spoil_144 : decode cX8_spoil 144 = .ok (.imul, 1) := by decide +kernel
theorem dX8_spoil_145 : decode cX8_spoil 145 = .ok (.iadd, 1) := by decide +kernel
theorem dX8_spoil_146 : decode cX8_spoil 146 = .ok (.ireturn, 1) := by decide +kernel
theorem dX8_mark_0 : decode cX8_mark 0 = .ok (.aload_n 0, 1) := by decide +kernel
theorem dX8_mark_1 : decode cX8_mark 1 = .ok (.iload_n 1, 1) := by decide +kernel
theorem dX8_mark_2 : decode cX8_mark 2 = .ok (.invokevirtual 155, 3) := by decide +kernel
theorem dX8_mark_5 : decode cX8_mark 5 = .ok (.iload_n 2, 1) := by decide +kernel
theorem dX8_mark_6 : decode cX8_mark 6 = .ok (.iconst 0, 1) := by decide +kernel
theorem dX8_mark_7 : decode cX8_mark 7 = .ok (.bipush 15, 2) := by decide +kernel
theorem dX8_mark_9 : decode cX8_mark 9 = .ok (.invokestatic 198, 3) := by decide +kernel
theorem dX8_mark_12 : decode cX8_mark 12 = .ok (.iload_n 3, 1) := by decide +kernel
theorem dX8_mark_13 : decode cX8_mark 13 = .ok (.iconst 0, 1) := by decide +kernel
theorem dX8_mark_14 : decode cX8_mark 14 = .ok (.bipush 7, 2) := by decide +kernel
theorem dX8_mark_16 : decode cX8_mark 16 = .ok (.invokestatic 198, 3) := by decide +kernel
theorem dX8_mark_19 : decode cX8_mark 19 = .ok (.aload_n 0, 1) := by decide +kernel
theorem dX8_mark_20 : decode cX8_mark 20 = .ok (.getfield 19, 3) := by decide +kernel
theorem dX8_mark_23 : decode cX8_mark 23 = .ok (.getfield 158, 3) := by decide +kernel
theorem dX8_mark_26 : decode cX8_mark 26 = .ok (.iload_n 1, 1) := by decide +kernel
theorem dX8_mark_27 : decode cX8_mark 27 = .ok (.aaload, 1) := by decide +kernel
theorem dX8_mark_28 : decode cX8_mark 28 = .ok (.astore 4, 2) := by decide +kernel
theorem dX8_mark_30 : decode cX8_mark 30 = .ok (.aload 4, 2) := by decide +kernel
theorem dX8_mark_32 : decode cX8_mark 32 = .ok (.getfield 162, 3) := by decide +kernel
theorem dX8_mark_35 : decode cX8_mark 35 = .ok (.getfield 168, 3) := by decide +kernel
theorem dX8_mark_38 : decode cX8_mark 38 = .ok (.ifCond .ne 11, 3) := by decide +kernel
theorem dX8_mark_41 : decode cX8_mark 41 = .ok (.new 62, 3) := by decide +kernel
theorem dX8_mark_44 : decode cX8_mark 44 = .ok (.dup, 1) := by decide +kernel
theorem dX8_mark_45 : decode cX8_mark 45 = .ok (.invokespecial 64, 3) := by decide +kernel
theorem dX8_mark_48 : decode cX8_mark 48 = .ok (.athrow, 1) := by decide +kernel
theorem dX8_mark_49 : decode cX8_mark 49 = .ok (.aload_n 0, 1) := by decide +kernel
theorem dX8_mark_50 : decode cX8_mark 50 = .ok (.invokevirtual 392, 3) := by decide +kernel
theorem dX8_mark_53 : decode cX8_mark 53 = .ok (.aload 4, 2) := by decide +kernel
theorem dX8_mark_55 : decode cX8_mark 55 = .ok (.getfield 177, 3) := by decide +kernel
theorem dX8_mark_58 : decode cX8_mark 58 = .ok (.istore 5, 2) := by decide +kernel
theorem dX8_mark_60 : decode cX8_mark 60 = .ok (.aload 4, 2) := by decide +kernel
theorem dX8_mark_62 : decode cX8_mark 62 = .ok (.iload_n 2, 1) := by decide +kernel
theorem dX8_mark_63 : decode cX8_mark 63 = .ok (.putfield 177, 3) := by decide +kernel
theorem dX8_mark_66 : decode cX8_mark 66 = .ok (.aload 4, 2) := by decide +kernel
theorem dX8_mark_68 : decode cX8_mark 68 = .ok (.iload_n 3, 1) := by decide +kernel
theorem dX8_mark_69 : decode cX8_mark 69 = .ok (.putfield 180, 3) := by decide +kernel
theorem dX8_mark_72 : decode cX8_mark 72 = .ok (.iload 5, 2) := by decide +kernel
theorem dX8_mark_74 : decode cX8_mark 74 = .ok (.ireturn, 1) := by decide +kernel
theorem dX8_setNumber_0 : decode cX8_setNumber 0 = .ok (.aload_n 0, 1) := by decide +kernel
theorem dX8_setNumber_1 : decode cX8_setNumber 1 = .ok (.invokevirtual 82, 3) := by decide +kernel
theorem dX8_setNumber_4 : decode cX8_setNumber 4 = .ok (.iload_n 1, 1) := by decide +kernel
theorem dX8_setNumber_5 : decode cX8_setNumber 5 = .ok (.tableswitch 55 2 5 #[31, 37, 43, 49], 31) := by decide +kernel
theorem dX8_setNumber_36 : decode cX8_setNumber 36 = .ok (.aload_n 0, 1) := by decide +kernel
theorem dX8_setNumber_37 : decode cX8_setNumber 37 = .ok (.iload_n 2, 1) := by decide +kernel
theorem dX8_setNumber_38 : decode cX8_setNumber 38 = .ok (.invokevirtual 401, 3) := by decide +kernel
theorem dX8_setNumber_41 : decode cX8_setNumber 41 = .ok (.ireturn, 1) := by decide +kernel
theorem dX8_setNumber_42 : decode cX8_setNumber 42 = .ok (.aload_n 0, 1) := by decide +kernel
theorem dX8_setNumber_43 : decode cX8_setNumber 43 = .ok (.iload_n 2, 1) := by decide +kernel
theorem dX8_setNumber_44 : decode cX8_setNumber 44 = .ok (.invokevirtual 404, 3) := by decide +kernel
theorem dX8_setNumber_47 : decode cX8_setNumber 47 = .ok (.ireturn, 1) := by decide +kernel
theorem dX8_setNumber_48 : decode cX8_setNumber 48 = .ok (.aload_n 0, 1) := by decide +kernel
theorem dX8_setNumber_49 : decode cX8_setNumber 49 = .ok (.iload_n 2, 1) := by decide +kernel
theorem dX8_setNumber_50 : decode cX8_setNumber 50 = .ok (.invokevirtual 407, 3) := by decide +kernel
theorem dX8_setNumber_53 : decode cX8_setNumber 53 = .ok (.ireturn, 1) := by decide +kernel
theorem dX8_setNumber_54 : decode cX8_setNumber 54 = .ok (.aload_n 0, 1) := by decide +kernel
theorem dX8_setNumber_55 : decode cX8_setNumber 55 = .ok (.iload_n 2, 1) := by decide +kernel
theorem dX8_setNumber_56 : decode cX8_setNumber 56 = .ok (.invokevirtual 410, 3) := by decide +kernel
theorem dX8_setNumber_59 : decode cX8_setNumber 59 = .ok (.ireturn, 1) := by decide +kernel
theorem dX8_setNumber_60 : decode cX8_setNumber 60 = .ok (.new 62, 3) := by decide +kernel
theorem dX8_setNumber_63 : decode cX8_setNumber 63 = .ok (.dup, 1) := by decide +kernel
theorem dX8_setNumber_64 : decode cX8_setNumber 64 = .ok (.invokespecial 64, 3) := by decide +kernel
theorem dX8_setNumber_67 : decode cX8_setNumber 67 = .ok (.athrow, 1) := by decide +kernel
theorem dX8_setWatch_0 : decode cX8_setWatch 0 = .ok (.iload_n 1, 1) := by decide +kernel
theorem dX8_setWatch_1 : decode cX8_setWatch 1 = .ok (.iconst 1, 1) := by decide +kernel
theorem dX8_setWatch_2 : decode cX8_setWatch 2 = .ok (.bipush 99, 2) := by decide +kernel
theorem dX8_setWatch_4 : decode cX8_setWatch 4 = .ok (.invokestatic 198, 3) := by decide +kernel
theorem dX8_setWatch_7 : decode cX8_setWatch 7 = .ok (.aload_n 0, 1) := by decide +kernel
theorem dX8_setWatch_8 : decode cX8_setWatch 8 = .ok (.invokevirtual 392, 3) := by decide +kernel
theorem dX8_setWatch_11 : decode cX8_setWatch 11 = .ok (.aload_n 0, 1) := by decide +kernel
theorem dX8_setWatch_12 : decode cX8_setWatch 12 = .ok (.getfield 19, 3) := by decide +kernel
theorem dX8_setWatch_15 : decode cX8_setWatch 15 = .ok (.getfield 88, 3) := by decide +kernel
theorem dX8_setWatch_18 : decode cX8_setWatch 18 = .ok (.istore_n 2, 1) := by decide +kernel
theorem dX8_setWatch_19 : decode cX8_setWatch 19 = .ok (.aload_n 0, 1) := by decide +kernel
theorem dX8_setWatch_20 : decode cX8_setWatch 20 = .ok (.getfield 19, 3) := by decide +kernel
theorem dX8_setWatch_23 : decode cX8_setWatch 23 = .ok (.iload_n 1, 1) := by decide +kernel
theorem dX8_setWatch_24 : decode cX8_setWatch 24 = .ok (.putfield 88, 3) := by decide +kernel
theorem dX8_setWatch_27 : decode cX8_setWatch 27 = .ok (.iload_n 2, 1) := by decide +kernel
theorem dX8_setWatch_28 : decode cX8_setWatch 28 = .ok (.ireturn, 1) := by decide +kernel
theorem dX8_setLimit_0 : decode cX8_setLimit 0 = .ok (.iload_n 1, 1) := by decide +kernel
theorem dX8_setLimit_1 : decode cX8_setLimit 1 = .ok (.iconst 1, 1) := by decide +kernel
theorem dX8_setLimit_2 : decode cX8_setLimit 2 = .ok (.bipush 9, 2) := by decide +kernel
theorem dX8_setLimit_4 : decode cX8_setLimit 4 = .ok (.invokestatic 198, 3) := by decide +kernel
theorem dX8_setLimit_7 : decode cX8_setLimit 7 = .ok (.aload_n 0, 1) := by decide +kernel
theorem dX8_setLimit_8 : decode cX8_setLimit 8 = .ok (.invokevirtual 392, 3) := by decide +kernel
theorem dX8_setLimit_11 : decode cX8_setLimit 11 = .ok (.aload_n 0, 1) := by decide +kernel
theorem dX8_setLimit_12 : decode cX8_setLimit 12 = .ok (.getfield 19, 3) := by decide +kernel
theorem dX8_setLimit_15 : decode cX8_setLimit 15 = .ok (.getfield 91, 3) := by decide +kernel
theorem dX8_setLimit_18 : decode cX8_setLimit 18 = .ok (.istore_n 2, 1) := by decide +kernel
theorem dX8_setLimit_19 : decode cX8_setLimit 19 = .ok (.aload_n 0, 1) := by decide +kernel
theorem dX8_setLimit_20 : decode cX8_setLimit 20 = .ok (.getfield 19, 3) := by decide +kernel
theorem dX8_setLimit_23 : decode cX8_setLimit 23 = .ok (.iload_n 1, 1) := by decide +kernel
theorem dX8_setLimit_24 : decode cX8_setLimit 24 = .ok (.putfield 91, 3) := by decide +kernel
theorem dX8_setLimit_27 : decode cX8_setLimit 27 = .ok (.iload_n 2, 1) := by decide +kernel
theorem dX8_setLimit_28 : decode cX8_setLimit 28 = .ok (.ireturn, 1) := by decide +kernel
theorem dX8_setRetry_0 : decode cX8_setRetry 0 = .ok (.iload_n 1, 1) := by decide +kernel
theorem dX8_setRetry_1 : decode cX8_setRetry 1 = .ok (.iconst 0, 1) := by decide +kernel
theorem dX8_setRetry_2 : decode cX8_setRetry 2 = .ok (.bipush 7, 2) := by decide +kernel
theorem dX8_setRetry_4 : decode cX8_setRetry 4 = .ok (.invokestatic 198, 3) := by decide +kernel
theorem dX8_setRetry_7 : decode cX8_setRetry 7 = .ok (.aload_n 0, 1) := by decide +kernel
theorem dX8_setRetry_8 : decode cX8_setRetry 8 = .ok (.invokevirtual 392, 3) := by decide +kernel
theorem dX8_setRetry_11 : decode cX8_setRetry 11 = .ok (.aload_n 0, 1) := by decide +kernel
theorem dX8_setRetry_12 : decode cX8_setRetry 12 = .ok (.getfield 19, 3) := by decide +kernel
theorem dX8_setRetry_15 : decode cX8_setRetry 15 = .ok (.getfield 94, 3) := by decide +kernel
theorem dX8_setRetry_18 : decode cX8_setRetry 18 = .ok (.istore_n 2, 1) := by decide +kernel
theorem dX8_setRetry_19 : decode cX8_setRetry 19 = .ok (.aload_n 0, 1) := by decide +kernel
theorem dX8_setRetry_20 : decode cX8_setRetry 20 = .ok (.getfield 19, 3) := by decide +kernel
theorem dX8_setRetry_23 : decode cX8_setRetry 23 = .ok (.iload_n 1, 1) := by decide +kernel
theorem dX8_setRetry_24 : decode cX8_setRetry 24 = .ok (.putfield 94, 3) := by decide +kernel
theorem dX8_setRetry_27 : decode cX8_setRetry 27 = .ok (.iload_n 2, 1) := by decide +kernel
theorem dX8_setRetry_28 : decode cX8_setRetry 28 = .ok (.ireturn, 1) := by decide +kernel
theorem dX8_setFloor_0 : decode cX8_setFloor 0 = .ok (.iload_n 1, 1) := by decide +kernel
theorem dX8_setFloor_1 : decode cX8_setFloor 1 = .ok (.aload_n 0, 1) := by decide +kernel
theorem dX8_setFloor_2 : decode cX8_setFloor 2 = .ok (.getfield 19, 3) := by decide +kernel
theorem dX8_setFloor_5 : decode cX8_setFloor 5 = .ok (.getfield 97, 3) := by decide +kernel
theorem dX8_setFloor_8 : decode cX8_setFloor 8 = .ok (.bipush 99, 2) := by decide +kernel
theorem dX8_setFloor_10 : decode cX8_setFloor 10 = .ok (.invokestatic 198, 3) := by decide +kernel
theorem dX8_setFloor_13 : decode cX8_setFloor 13 = .ok (.aload_n 0, 1) := by decide +kernel
theorem dX8_setFloor_14 : decode cX8_setFloor 14 = .ok (.invokevirtual 392, 3) := by decide +kernel
theorem dX8_setFloor_17 : decode cX8_setFloor 17 = .ok (.aload_n 0, 1) := by decide +kernel
theorem dX8_setFloor_18 : decode cX8_setFloor 18 = .ok (.getfield 19, 3) := by decide +kernel
theorem dX8_setFloor_21 : decode cX8_setFloor 21 = .ok (.getfield 97, 3) := by decide +kernel
theorem dX8_setFloor_24 : decode cX8_setFloor 24 = .ok (.istore_n 2, 1) := by decide +kernel
theorem dX8_setFloor_25 : decode cX8_setFloor 25 = .ok (.aload_n 0, 1) := by decide +kernel
theorem dX8_setFloor_26 : decode cX8_setFloor 26 = .ok (.getfield 19, 3) := by decide +kernel
theorem dX8_setFloor_29 : decode cX8_setFloor 29 = .ok (.iload_n 1, 1) := by decide +kernel
theorem dX8_setFloor_30 : decode cX8_setFloor 30 = .ok (.putfield 97, 3) := by decide +kernel
theorem dX8_setFloor_33 : decode cX8_setFloor 33 = .ok (.iload_n 2, 1) := by decide +kernel
theorem dX8_setFloor_34 : decode cX8_setFloor 34 = .ok (.ireturn, 1) := by decide +kernel
theorem dX8_undo_0 : decode cX8_undo 0 = .ok (.aload_n 0, 1) := by decide +kernel
theorem dX8_undo_1 : decode cX8_undo 1 = .ok (.getfield 413, 3) := by decide +kernel
theorem dX8_undo_4 : decode cX8_undo 4 = .ok (.ifCond .gt 11, 3) := by decide +kernel
theorem dX8_undo_7 : decode cX8_undo 7 = .ok (.new 416, 3) := by decide +kernel
theorem dX8_undo_10 : decode cX8_undo 10 = .ok (.dup, 1) := by decide +kernel
theorem dX8_undo_11 : decode cX8_undo 11 = .ok (.invokespecial 418, 3) := by decide +kernel
theorem dX8_undo_14 : decode cX8_undo 14 = .ok (.athrow, 1) := by decide +kernel
theorem dX8_undo_15 : decode cX8_undo 15 = .ok (.aload_n 0, 1) := by decide +kernel
theorem dX8_undo_16 : decode cX8_undo 16 = .ok (.aload_n 0, 1) := by decide +kernel
theorem dX8_undo_17 : decode cX8_undo 17 = .ok (.getfield 419, 3) := by decide +kernel
theorem dX8_undo_20 : decode cX8_undo 20 = .ok (.bipush 8, 2) := by decide +kernel
theorem dX8_undo_22 : decode cX8_undo 22 = .ok (.iadd, 1) := by decide +kernel
theorem dX8_undo_23 : decode cX8_undo 23 = .ok (.iconst 1, 1) := by decide +kernel
theorem dX8_undo_24 : decode cX8_undo 24 = .ok (.isub, 1) := by decide +kernel
theorem dX8_undo_25 : decode cX8_undo 25 = .ok (.bipush 8, 2) := by decide +kernel
theorem dX8_undo_27 : decode cX8_undo 27 = .ok (.irem, 1) := by decide +kernel
theorem dX8_undo_28 : decode cX8_undo 28 = .ok (.putfield 419, 3) := by decide +kernel
theorem dX8_undo_31 : decode cX8_undo 31 = .ok (.aload_n 0, 1) := by decide +kernel
theorem dX8_undo_32 : decode cX8_undo 32 = .ok (.dup, 1) := by decide +kernel
theorem dX8_undo_33 : decode cX8_undo 33 = .ok (.getfield 413, 3) := by decide +kernel
theorem dX8_undo_36 : decode cX8_undo 36 = .ok (.iconst 1, 1) := by decide +kernel
theorem dX8_undo_37 : decode cX8_undo 37 = .ok (.isub, 1) := by decide +kernel
theorem dX8_undo_38 : decode cX8_undo 38 = .ok (.putfield 413, 3) := by decide +kernel
theorem dX8_undo_41 : decode cX8_undo 41 = .ok (.aload_n 0, 1) := by decide +kernel
theorem dX8_undo_42 : decode cX8_undo 42 = .ok (.getfield 419, 3) := by decide +kernel
theorem dX8_undo_45 : decode cX8_undo 45 = .ok (.ifCond .lt 28, 3) := by decide +kernel
theorem dX8_undo_48 : decode cX8_undo 48 = .ok (.aload_n 0, 1) := by decide +kernel
theorem dX8_undo_49 : decode cX8_undo 49 = .ok (.getfield 419, 3) := by decide +kernel
theorem dX8_undo_52 : decode cX8_undo 52 = .ok (.bipush 8, 2) := by decide +kernel
theorem dX8_undo_54 : decode cX8_undo 54 = .ok (.if_icmp .ge 19, 3) := by decide +kernel
theorem dX8_undo_57 : decode cX8_undo 57 = .ok (.aload_n 0, 1) := by decide +kernel
theorem dX8_undo_58 : decode cX8_undo 58 = .ok (.getfield 19, 3) := by decide +kernel
theorem dX8_undo_61 : decode cX8_undo 61 = .ok (.aload_n 0, 1) := by decide +kernel
theorem dX8_undo_62 : decode cX8_undo 62 = .ok (.getfield 26, 3) := by decide +kernel
theorem dX8_undo_65 : decode cX8_undo 65 = .ok (.aload_n 0, 1) := by decide +kernel
theorem dX8_undo_66 : decode cX8_undo 66 = .ok (.getfield 419, 3) := by decide +kernel
theorem dX8_undo_69 : decode cX8_undo 69 = .ok (.aaload, 1) := by decide +kernel
theorem dX8_undo_70 : decode cX8_undo 70 = .ok (.invokevirtual 65, 3) := by decide +kernel
theorem dX8_undo_73 : decode cX8_undo 73 = .ok (.aload_n 0, 1) := by decide +kernel
theorem dX8_undo_74 : decode cX8_undo 74 = .ok (.getfield 413, 3) := by decide +kernel
theorem dX8_undo_77 : decode cX8_undo 77 = .ok (.ireturn, 1) := by decide +kernel
theorem dX8_undoable_0 : decode cX8_undoable 0 = .ok (.aload_n 0, 1) := by decide +kernel
theorem dX8_undoable_1 : decode cX8_undoable 1 = .ok (.getfield 413, 3) := by decide +kernel
theorem dX8_undoable_4 : decode cX8_undoable 4 = .ok (.ireturn, 1) := by decide +kernel
theorem dX8_save_0 : decode cX8_save 0 = .ok (.aload_n 0, 1) := by decide +kernel
theorem dX8_save_1 : decode cX8_save 1 = .ok (.invokevirtual 82, 3) := by decide +kernel
theorem dX8_save_4 : decode cX8_save 4 = .ok (.iload_n 1, 1) := by decide +kernel
theorem dX8_save_5 : decode cX8_save 5 = .ok (.ifCond .lt 8, 3) := by decide +kernel
theorem dX8_save_8 : decode cX8_save 8 = .ok (.iload_n 1, 1) := by decide +kernel
theorem dX8_save_9 : decode cX8_save 9 = .ok (.iconst 2, 1) := by decide +kernel
theorem dX8_save_10 : decode cX8_save 10 = .ok (.if_icmp .lt 11, 3) := by decide +kernel
theorem dX8_save_13 : decode cX8_save 13 = .ok (.new 52, 3) := by decide +kernel
theorem dX8_save_16 : decode cX8_save 16 = .ok (.dup, 1) := by decide +kernel
theorem dX8_save_17 : decode cX8_save 17 = .ok (.invokespecial 54, 3) := by decide +kernel
theorem dX8_save_20 : decode cX8_save 20 = .ok (.athrow, 1) := by decide +kernel
theorem dX8_save_21 : decode cX8_save 21 = .ok (.aload_n 0, 1) := by decide +kernel
theorem dX8_save_22 : decode cX8_save 22 = .ok (.getfield 30, 3) := by decide +kernel
theorem dX8_save_25 : decode cX8_save 25 = .ok (.iload_n 1, 1) := by decide +kernel
theorem dX8_save_26 : decode cX8_save 26 = .ok (.aaload, 1) := by decide +kernel
theorem dX8_save_27 : decode cX8_save 27 = .ok (.aload_n 0, 1) := by decide +kernel
theorem dX8_save_28 : decode cX8_save 28 = .ok (.getfield 19, 3) := by decide +kernel
theorem dX8_save_31 : decode cX8_save 31 = .ok (.invokevirtual 65, 3) := by decide +kernel
theorem dX8_save_34 : decode cX8_save 34 = .ok (.aload_n 0, 1) := by decide +kernel
theorem dX8_save_35 : decode cX8_save 35 = .ok (.getfield 33, 3) := by decide +kernel
theorem dX8_save_38 : decode cX8_save 38 = .ok (.iload_n 1, 1) := by decide +kernel
theorem dX8_save_39 : decode cX8_save 39 = .ok (.iconst 1, 1) := by decide +kernel
theorem dX8_save_40 : decode cX8_save 40 = .ok (.bastore, 1) := by decide +kernel
theorem dX8_save_41 : decode cX8_save 41 = .ok (.aload_n 0, 1) := by decide +kernel
theorem dX8_save_42 : decode cX8_save 42 = .ok (.getfield 19, 3) := by decide +kernel
theorem dX8_save_45 : decode cX8_save 45 = .ok (.getfield 85, 3) := by decide +kernel
theorem dX8_save_48 : decode cX8_save 48 = .ok (.ireturn, 1) := by decide +kernel
theorem dX8_restore_0 : decode cX8_restore 0 = .ok (.iload_n 1, 1) := by decide +kernel
theorem dX8_restore_1 : decode cX8_restore 1 = .ok (.ifCond .lt 8, 3) := by decide +kernel
theorem dX8_restore_4 : decode cX8_restore 4 = .ok (.iload_n 1, 1) := by decide +kernel
theorem dX8_restore_5 : decode cX8_restore 5 = .ok (.iconst 2, 1) := by decide +kernel
theorem dX8_restore_6 : decode cX8_restore 6 = .ok (.if_icmp .lt 11, 3) := by decide +kernel
theorem dX8_restore_9 : decode cX8_restore 9 = .ok (.new 52, 3) := by decide +kernel
theorem dX8_restore_12 : decode cX8_restore 12 = .ok (.dup, 1) := by decide +kernel
theorem dX8_restore_13 : decode cX8_restore 13 = .ok (.invokespecial 54, 3) := by decide +kernel
theorem dX8_restore_16 : decode cX8_restore 16 = .ok (.athrow, 1) := by decide +kernel
theorem dX8_restore_17 : decode cX8_restore 17 = .ok (.aload_n 0, 1) := by decide +kernel
theorem dX8_restore_18 : decode cX8_restore 18 = .ok (.getfield 33, 3) := by decide +kernel
theorem dX8_restore_21 : decode cX8_restore 21 = .ok (.iload_n 1, 1) := by decide +kernel
theorem dX8_restore_22 : decode cX8_restore 22 = .ok (.baload, 1) := by decide +kernel
theorem dX8_restore_23 : decode cX8_restore 23 = .ok (.ifCond .ne 11, 3) := by decide +kernel
theorem dX8_restore_26 : decode cX8_restore 26 = .ok (.new 416, 3) := by decide +kernel
theorem dX8_restore_29 : decode cX8_restore 29 = .ok (.dup, 1) := by decide +kernel
theorem dX8_restore_30 : decode cX8_restore 30 = .ok (.invokespecial 418, 3) := by decide +kernel
theorem dX8_restore_33 : decode cX8_restore 33 = .ok (.athrow, 1) := by decide +kernel
theorem dX8_restore_34 : decode cX8_restore 34 = .ok (.aload_n 0, 1) := by decide +kernel
theorem dX8_restore_35 : decode cX8_restore 35 = .ok (.getfield 19, 3) := by decide +kernel
theorem dX8_restore_38 : decode cX8_restore 38 = .ok (.aload_n 0, 1) := by decide +kernel
theorem dX8_restore_39 : decode cX8_restore 39 = .ok (.getfield 30, 3) := by decide +kernel
theorem dX8_restore_42 : decode cX8_restore 42 = .ok (.iload_n 1, 1) := by decide +kernel
theorem dX8_restore_43 : decode cX8_restore 43 = .ok (.aaload, 1) := by decide +kernel
theorem dX8_restore_44 : decode cX8_restore 44 = .ok (.invokevirtual 65, 3) := by decide +kernel
theorem dX8_restore_47 : decode cX8_restore 47 = .ok (.aload_n 0, 1) := by decide +kernel
theorem dX8_restore_48 : decode cX8_restore 48 = .ok (.invokevirtual 73, 3) := by decide +kernel
theorem dX8_restore_51 : decode cX8_restore 51 = .ok (.aload_n 0, 1) := by decide +kernel
theorem dX8_restore_52 : decode cX8_restore 52 = .ok (.getfield 19, 3) := by decide +kernel
theorem dX8_restore_55 : decode cX8_restore 55 = .ok (.getfield 85, 3) := by decide +kernel
theorem dX8_restore_58 : decode cX8_restore 58 = .ok (.ireturn, 1) := by decide +kernel
theorem dX8_remember_0 : decode cX8_remember 0 = .ok (.aload_n 0, 1) := by decide +kernel
theorem dX8_remember_1 : decode cX8_remember 1 = .ok (.getfield 419, 3) := by decide +kernel
theorem dX8_remember_4 : decode cX8_remember 4 = .ok (.ifCond .lt 28, 3) := by decide +kernel
theorem dX8_remember_7 : decode cX8_remember 7 = .ok (.aload_n 0, 1) := by decide +kernel
theorem dX8_remember_8 : decode cX8_remember 8 = .ok (.getfield 419, 3) := by decide +kernel
theorem dX8_remember_11 : decode cX8_remember 11 = .ok (.bipush 8, 2) := by decide +kernel
theorem dX8_remember_13 : decode cX8_remember 13 = .ok (.if_icmp .ge 19, 3) := by decide +kernel
theorem dX8_remember_16 : decode cX8_remember 16 = .ok (.aload_n 0, 1) := by decide +kernel
theorem dX8_remember_17 : decode cX8_remember 17 = .ok (.getfield 26, 3) := by decide +kernel
theorem dX8_remember_20 : decode cX8_remember 20 = .ok (.aload_n 0, 1) := by decide +kernel
theorem dX8_remember_21 : decode cX8_remember 21 = .ok (.getfield 419, 3) := by decide +kernel
theorem dX8_remember_24 : decode cX8_remember 24 = .ok (.aaload, 1) := by decide +kernel
theorem dX8_remember_25 : decode cX8_remember 25 = .ok (.aload_n 0, 1) := by decide +kernel
theorem dX8_remember_26 : decode cX8_remember 26 = .ok (.getfield 19, 3) := by decide +kernel
theorem dX8_remember_29 : decode cX8_remember 29 = .ok (.invokevirtual 65, 3) := by decide +kernel
theorem dX8_remember_32 : decode cX8_remember 32 = .ok (.aload_n 0, 1) := by decide +kernel
theorem dX8_remember_33 : decode cX8_remember 33 = .ok (.aload_n 0, 1) := by decide +kernel
theorem dX8_remember_34 : decode cX8_remember 34 = .ok (.getfield 419, 3) := by decide +kernel
theorem dX8_remember_37 : decode cX8_remember 37 = .ok (.iconst 1, 1) := by decide +kernel
theorem dX8_remember_38 : decode cX8_remember 38 = .ok (.iadd, 1) := by decide +kernel
theorem dX8_remember_39 : decode cX8_remember 39 = .ok (.bipush 8, 2) := by decide +kernel
theorem dX8_remember_41 : decode cX8_remember 41 = .ok (.irem, 1) := by decide +kernel
theorem dX8_remember_42 : decode cX8_remember 42 = .ok (.putfield 419, 3) := by decide +kernel
theorem dX8_remember_45 : decode cX8_remember 45 = .ok (.aload_n 0, 1) := by decide +kernel
theorem dX8_remember_46 : decode cX8_remember 46 = .ok (.aload_n 0, 1) := by decide +kernel
theorem dX8_remember_47 : decode cX8_remember 47 = .ok (.getfield 413, 3) := by decide +kernel
theorem dX8_remember_50 : decode cX8_remember 50 = .ok (.iconst 1, 1) := by decide +kernel
theorem dX8_remember_51 : decode cX8_remember 51 = .ok (.iadd, 1) := by decide +kernel
theorem dX8_remember_52 : decode cX8_remember 52 = .ok (.bipush 8, 2) := by decide +kernel
theorem dX8_remember_54 : decode cX8_remember 54 = .ok (.invokestatic 422, 3) := by decide +kernel
theorem dX8_remember_57 : decode cX8_remember 57 = .ok (.putfield 413, 3) := by decide +kernel
theorem dX8_remember_60 : decode cX8_remember 60 = .ok (.return_, 1) := by decide +kernel
theorem dX8_forgetChanges_0 : decode cX8_forgetChanges 0 = .ok (.aload_n 0, 1) := by decide +kernel
theorem dX8_forgetChanges_1 : decode cX8_forgetChanges 1 = .ok (.iconst 0, 1) := by decide +kernel
theorem dX8_forgetChanges_2 : decode cX8_forgetChanges 2 = .ok (.putfield 419, 3) := by decide +kernel
theorem dX8_forgetChanges_5 : decode cX8_forgetChanges 5 = .ok (.aload_n 0, 1) := by decide +kernel
theorem dX8_forgetChanges_6 : decode cX8_forgetChanges 6 = .ok (.iconst 0, 1) := by decide +kernel
theorem dX8_forgetChanges_7 : decode cX8_forgetChanges 7 = .ok (.putfield 413, 3) := by decide +kernel
theorem dX8_forgetChanges_10 : decode cX8_forgetChanges 10 = .ok (.return_, 1) := by decide +kernel
theorem dX8_requireLoaded_0 : decode cX8_requireLoaded 0 = .ok (.aload_n 0, 1) := by decide +kernel
theorem dX8_requireLoaded_1 : decode cX8_requireLoaded 1 = .ok (.getfield 69, 3) := by decide +kernel
theorem dX8_requireLoaded_4 : decode cX8_requireLoaded 4 = .ok (.ifCond .ne 11, 3) := by decide +kernel
theorem dX8_requireLoaded_7 : decode cX8_requireLoaded 7 = .ok (.new 416, 3) := by decide +kernel
theorem dX8_requireLoaded_10 : decode cX8_requireLoaded 10 = .ok (.dup, 1) := by decide +kernel
theorem dX8_requireLoaded_11 : decode cX8_requireLoaded 11 = .ok (.invokespecial 418, 3) := by decide +kernel
theorem dX8_requireLoaded_14 : decode cX8_requireLoaded 14 = .ok (.athrow, 1) := by decide +kernel
theorem dX8_requireLoaded_15 : decode cX8_requireLoaded 15 = .ok (.return_, 1) := by decide +kernel
theorem dX8_requireSlot_0 : decode cX8_requireSlot 0 = .ok (.aload_n 0, 1) := by decide +kernel
theorem dX8_requireSlot_1 : decode cX8_requireSlot 1 = .ok (.invokevirtual 82, 3) := by decide +kernel
theorem dX8_requireSlot_4 : decode cX8_requireSlot 4 = .ok (.iload_n 1, 1) := by decide +kernel
theorem dX8_requireSlot_5 : decode cX8_requireSlot 5 = .ok (.ifCond .lt 20, 3) := by decide +kernel
theorem dX8_requireSlot_8 : decode cX8_requireSlot 8 = .ok (.iload_n 1, 1) := by decide +kernel
theorem dX8_requireSlot_9 : decode cX8_requireSlot 9 = .ok (.bipush 6, 2) := by decide +kernel
theorem dX8_requireSlot_11 : decode cX8_requireSlot 11 = .ok (.if_icmp .ge 14, 3) := by decide +kernel
theorem dX8_requireSlot_14 : decode cX8_requireSlot 14 = .ok (.iload_n 1, 1) := by decide +kernel
theorem dX8_requireSlot_15 : decode cX8_requireSlot 15 = .ok (.aload_n 0, 1) := by decide +kernel
theorem dX8_requireSlot_16 : decode cX8_requireSlot 16 = .ok (.getfield 19, 3) := by decide +kernel
theorem dX8_requireSlot_19 : decode cX8_requireSlot 19 = .ok (.getfield 76, 3) := by decide +kernel
theorem dX8_requireSlot_22 : decode cX8_requireSlot 22 = .ok (.if_icmp .lt 11, 3) := by decide +kernel
theorem dX8_requireSlot_25 : decode cX8_requireSlot 25 = .ok (.new 52, 3) := by decide +kernel
theorem dX8_requireSlot_28 : decode cX8_requireSlot 28 = .ok (.dup, 1) := by decide +kernel
theorem dX8_requireSlot_29 : decode cX8_requireSlot 29 = .ok (.invokespecial 54, 3) := by decide +kernel
theorem dX8_requireSlot_32 : decode cX8_requireSlot 32 = .ok (.athrow, 1) := by decide +kernel
theorem dX8_requireSlot_33 : decode cX8_requireSlot 33 = .ok (.return_, 1) := by decide +kernel
theorem dX8_requireOn_0 : decode cX8_requireOn 0 = .ok (.aload_n 0, 1) := by decide +kernel
theorem dX8_requireOn_1 : decode cX8_requireOn 1 = .ok (.invokevirtual 82, 3) := by decide +kernel
theorem dX8_requireOn_4 : decode cX8_requireOn 4 = .ok (.aload_n 0, 1) := by decide +kernel
theorem dX8_requireOn_5 : decode cX8_requireOn 5 = .ok (.getfield 19, 3) := by decide +kernel
theorem dX8_requireOn_8 : decode cX8_requireOn 8 = .ok (.getfield 389, 3) := by decide +kernel
theorem dX8_requireOn_11 : decode cX8_requireOn 11 = .ok (.ifCond .ne 11, 3) := by decide +kernel
theorem dX8_requireOn_14 : decode cX8_requireOn 14 = .ok (.new 62, 3) := by decide +kernel
theorem dX8_requireOn_17 : decode cX8_requireOn 17 = .ok (.dup, 1) := by decide +kernel
theorem dX8_requireOn_18 : decode cX8_requireOn 18 = .ok (.invokespecial 64, 3) := by decide +kernel
theorem dX8_requireOn_21 : decode cX8_requireOn 21 = .ok (.athrow, 1) := by decide +kernel
theorem dX8_requireOn_22 : decode cX8_requireOn 22 = .ok (.return_, 1) := by decide +kernel
theorem dX8_requireWithin_0 : decode cX8_requireWithin 0 = .ok (.iload_n 0, 1) := by decide +kernel
theorem dX8_requireWithin_1 : decode cX8_requireWithin 1 = .ok (.iload_n 1, 1) := by decide +kernel
theorem dX8_requireWithin_2 : decode cX8_requireWithin 2 = .ok (.if_icmp .lt 8, 3) := by decide +kernel
theorem dX8_requireWithin_5 : decode cX8_requireWithin 5 = .ok (.iload_n 0, 1) := by decide +kernel
theorem dX8_requireWithin_6 : decode cX8_requireWithin 6 = .ok (.iload_n 2, 1) := by decide +kernel
theorem dX8_requireWithin_7 : decode cX8_requireWithin 7 = .ok (.if_icmp .le 11, 3) := by decide +kernel
theorem dX8_requireWithin_10 : decode cX8_requireWithin 10 = .ok (.new 62, 3) := by decide +kernel
theorem dX8_requireWithin_13 : decode cX8_requireWithin 13 = .ok (.dup, 1) := by decide +kernel
theorem dX8_requireWithin_14 : decode cX8_requireWithin 14 = .ok (.invokespecial 64, 3) := by decide +kernel
theorem dX8_requireWithin_17 : decode cX8_requireWithin 17 = .ok (.athrow, 1) := by decide +kernel
theorem dX8_requireWithin_18 : decode cX8_requireWithin 18 = .ok (.return_, 1) := by decide +kernel
theorem dX8_bit_0 : decode cX8_bit 0 = .ok (.iload_n 0, 1) := by decide +kernel
theorem dX8_bit_1 : decode cX8_bit 1 = .ok (.ifCond .eq 7, 3) := by decide +kernel
theorem dX8_bit_4 : decode cX8_bit 4 = .ok (.iconst 1, 1) := by decide +kernel
theorem dX8_bit_5 : decode cX8_bit 5 = .ok (.goto 4, 3) := by decide +kernel
theorem dX8_bit_8 : decode cX8_bit 8 = .ok (.iconst 0, 1) := by decide +kernel
theorem dX8_bit_9 : decode cX8_bit 9 = .ok (.ireturn, 1) := by decide +kernel
