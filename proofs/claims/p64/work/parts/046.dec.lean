theorem dX9_init_0 : decode cX9_init 0 = .ok (.aload_n 0, 1) := by decide +kernel
theorem dX9_init_1 : decode cX9_init 1 = .ok (.invokespecial 1, 3) := by decide +kernel
theorem dX9_init_4 : decode cX9_init 4 = .ok (.aload_n 0, 1) := by decide +kernel
theorem dX9_init_5 : decode cX9_init 5 = .ok (.aload_n 1, 1) := by decide +kernel
theorem dX9_init_6 : decode cX9_init 6 = .ok (.putfield 7, 3) := by decide +kernel
theorem dX9_init_9 : decode cX9_init 9 = .ok (.return_, 1) := by decide +kernel
theorem dX9_next_0 : decode cX9_next 0 = .ok (.aload_n 0, 1) := by decide +kernel
theorem dX9_next_1 : decode cX9_next 1 = .ok (.getfield 13, 3) := by decide +kernel
theorem dX9_next_4 : decode cX9_next 4 = .ok (.aload_n 0, 1) := by decide +kernel
theorem dX9_next_5 : decode cX9_next 5 = .ok (.getfield 7, 3) := by decide +kernel
theorem dX9_next_8 : decode cX9_next 8 = .ok (.arraylength, 1) := by decide +kernel
theorem dX9_next_9 : decode cX9_next 9 = .ok (.if_icmp .ge 18, 3) := by decide +kernel
theorem dX9_next_12 : decode cX9_next 12 = .ok (.aload_n 0, 1) := by decide +kernel
theorem dX9_next_13 : decode cX9_next 13 = .ok (.getfield 7, 3) := by decide +kernel
theorem dX9_next_16 : decode cX9_next 16 = .ok (.aload_n 0, 1) := by decide +kernel
theorem dX9_next_17 : decode cX9_next 17 = .ok (.getfield 13, 3) := by decide +kernel
theorem dX9_next_20 : decode cX9_next 20 = .ok (.iaload, 1) := by decide +kernel
theorem dX9_next_21 : decode cX9_next 21 = .ok (.ldc 17, 2) := by decide +kernel
theorem dX9_next_23 : decode cX9_next 23 = .ok (.iand, 1) := by decide +kernel
theorem dX9_next_24 : decode cX9_next 24 = .ok (.goto 4, 3) := by decide +kernel
theorem dX9_next_27 : decode cX9_next 27 = .ok (.iconst 0, 1) := by decide +kernel
theorem dX9_next_28 : decode cX9_next 28 = .ok (.istore_n 3, 1) := by decide +kernel
theorem dX9_next_29 : decode cX9_next 29 = .ok (.aload_n 0, 1) := by decide +kernel
theorem dX9_next_30 : decode cX9_next 30 = .ok (.dup, 1) := by decide +kernel
theorem dX9_next_31 : decode cX9_next 31 = .ok (.getfield 13, 3) := by decide +kernel
theorem dX9_next_34 : decode cX9_next 34 = .ok (.iconst 1, 1) := by decide +kernel
theorem dX9_next_35 : decode cX9_next 35 = .ok (.iadd, 1) := by decide +kernel
theorem dX9_next_36 : decode cX9_next 36 = .ok (.putfield 13, 3) := by decide +kernel
theorem dX9_next_39 : decode cX9_next 39 = .ok (.iload_n 1, 1) := by decide +kernel
theorem dX9_next_40 : decode cX9_next 40 = .ok (.iload_n 3, 1) := by decide +kernel
theorem dX9_next_41 : decode cX9_next 41 = .ok (.iload_n 2, 1) := by decide +kernel
theorem dX9_next_42 : decode cX9_next 42 = .ok (.iload_n 1, 1) := by decide +kernel
theorem dX9_next_43 : decode cX9_next 43 = .ok (.isub, 1) := by decide +kernel
theorem dX9_next_44 : decode cX9_next 44 = .ok (.iconst 1, 1) := by decide +kernel
theorem dX9_next_45 : decode cX9_next 45 = .ok (.iadd, 1) := by decide +kernel
theorem dX9_next_46 : decode cX9_next 46 = .ok (.irem, 1) := by decide +kernel
theorem dX9_next_47 : decode cX9_next 47 = .ok (.iadd, 1) := by decide +kernel
theorem dX9_next_48 : decode cX9_next 48 = .ok (.ireturn, 1) := by decide +kernel
theorem dX10_init_0 : decode cX10_init 0 = .ok (.aload_n 0, 1) := by decide +kernel
theorem dX10_init_1 : decode cX10_init 1 = .ok (.invokespecial 1, 3) := by decide +kernel
theorem dX10_init_4 : decode cX10_init 4 = .ok (.aload_n 0, 1) := by decide +kernel
theorem dX10_init_5 : decode cX10_init 5 = .ok (.iconst 5, 1) := by decide +kernel
theorem dX10_init_6 : decode cX10_init 6 = .ok (.newarray .int, 2) := by decide +kernel
theorem dX10_init_8 : decode cX10_init 8 = .ok (.dup, 1) := by decide +kernel
theorem dX10_init_9 : decode cX10_init 9 = .ok (.iconst 0, 1) := by decide +kernel
theorem dX10_init_10 : decode cX10_init 10 = .ok (.iconst (-1), 1) := by decide +kernel
theorem dX10_init_11 : decode cX10_init 11 = .ok (.iastore, 1) := by decide +kernel
theorem dX10_init_12 : decode cX10_init 12 = .ok (.dup, 1) := by decide +kernel
theorem dX10_init_13 : decode cX10_init 13 = .ok (.iconst 1, 1) := by decide +kernel
theorem dX10_init_14 : decode cX10_init 14 = .ok (.iconst 0, 1) := by decide +kernel
theorem dX10_init_15 : decode cX10_init 15 = .ok (.iastore, 1) := by decide +kernel
theorem dX10_init_16 : decode cX10_init 16 = .ok (.dup, 1) := by decide +kernel
theorem dX10_init_17 : decode cX10_init 17 = .ok (.iconst 2, 1) := by decide +kernel
theorem dX10_init_18 : decode cX10_init 18 = .ok (.iconst 0, 1) := by decide +kernel
theorem dX10_init_19 : decode cX10_init 19 = .ok (.iastore, 1) := by decide +kernel
theorem dX10_init_20 : decode cX10_init 20 = .ok (.dup, 1) := by decide +kernel
theorem dX10_init_21 : decode cX10_init 21 = .ok (.iconst 3, 1) := by decide +kernel
theorem dX10_init_22 : decode cX10_init 22 = .ok (.iconst 0, 1) := by decide +kernel
theorem dX10_init_23 : decode cX10_init 23 = .ok (.iastore, 1) := by decide +kernel
theorem dX10_init_24 : decode cX10_init 24 = .ok (.dup, 1) := by decide +kernel
theorem dX10_init_25 : decode cX10_init 25 = .ok (.iconst 4, 1) := by decide +kernel
theorem dX10_init_26 : decode cX10_init 26 = .ok (.iconst 0, 1) := by decide +kernel
theorem dX10_init_27 : decode cX10_init 27 = .ok (.iastore, 1) := by decide +kernel
theorem dX10_init_28 : decode cX10_init 28 = .ok (.putfield 7, 3) := by decide +kernel
theorem dX10_init_31 : decode cX10_init 31 = .ok (.return_, 1) := by decide +kernel
theorem dX10_isEmpty_0 : decode cX10_isEmpty 0 = .ok (.aload_n 0, 1) := by decide +kernel
theorem dX10_isEmpty_1 : decode cX10_isEmpty 1 = .ok (.getfield 7, 3) := by decide +kernel
theorem dX10_isEmpty_4 : decode cX10_isEmpty 4 = .ok (.iconst 0, 1) := by decide +kernel
theorem dX10_isEmpty_5 : decode cX10_isEmpty 5 = .ok (.iaload, 1) := by decide +kernel
theorem dX10_isEmpty_6 : decode cX10_isEmpty 6 = .ok (.ifCond .ge 7, 3) := by decide +kernel
theorem dX10_isEmpty_9 : decode cX10_isEmpty 9 = .ok (.iconst 1, 1) := by decide +kernel
theorem dX10_isEmpty_10 : decode cX10_isEmpty 10 = .ok (.goto 4, 3) := by decide +kernel
theorem dX10_isEmpty_13 : decode cX10_isEmpty 13 = .ok (.iconst 0, 1) := by decide +kernel
theorem dX10_isEmpty_14 : decode cX10_isEmpty 14 = .ok (.ireturn, 1) := by decide +kernel
theorem dX10_empties_0 : decode cX10_empties 0 = .ok (.aload_n 0, 1) := by decide +kernel
theorem dX10_empties_1 : decode cX10_empties 1 = .ok (.iconst 5, 1) := by decide +kernel
theorem dX10_empties_2 : decode cX10_empties 2 = .ok (.newarray .int, 2) := by decide +kernel
theorem dX10_empties_4 : decode cX10_empties 4 = .ok (.dup, 1) := by decide +kernel
theorem dX10_empties_5 : decode cX10_empties 5 = .ok (.iconst 0, 1) := by decide +kernel
theorem dX10_empties_6 : decode cX10_empties 6 = .ok (.iconst (-1), 1) := by decide +kernel
theorem dX10_empties_7 : decode cX10_empties 7 = .ok (.iastore, 1) := by decide +kernel
theorem dX10_empties_8 : decode cX10_empties 8 = .ok (.dup, 1) := by decide +kernel
theorem dX10_empties_9 : decode cX10_empties 9 = .ok (.iconst 1, 1) := by decide +kernel
theorem dX10_empties_10 : decode cX10_empties 10 = .ok (.iconst 0, 1) := by decide +kernel
theorem dX10_empties_11 : decode cX10_empties 11 = .ok (.iastore, 1) := by decide +kernel
theorem dX10_empties_12 : decode cX10_empties 12 = .ok (.dup, 1) := by decide +kernel
theorem dX10_empties_13 : decode cX10_empties 13 = .ok (.iconst 2, 1) := by decide +kernel
theorem dX10_empties_14 : decode cX10_empties 14 = .ok (.iconst 0, 1) := by decide +kernel
theorem dX10_empties_15 : decode cX10_empties 15 = .ok (.iastore, 1) := by decide +kernel
theorem dX10_empties_16 : decode cX10_empties 16 = .ok (.dup, 1) := by decide +kernel
theorem dX10_empties_17 : decode cX10_empties 17 = .ok (.iconst 3, 1) := by decide +kernel
theorem dX10_empties_18 : decode cX10_empties 18 = .ok (.iconst 0, 1) := by decide +kernel
theorem dX10_empties_19 : decode cX10_empties 19 = .ok (.iastore, 1) := by decide +kernel
theorem dX10_empties_20 : decode cX10_empties 20 = .ok (.dup, 1) := by decide +kernel
theorem dX10_empties_21 : decode cX10_empties 21 = .ok (.iconst 4, 1) := by decide +kernel
theorem dX10_empties_22 : decode cX10_empties 22 = .ok (.iconst 0, 1) := by decide +kernel
theorem dX10_empties_23 : decode cX10_empties 23 = .ok (.iastore, 1) := by decide +kernel
theorem dX10_empties_24 : decode cX10_empties 24 = .ok (.putfield 7, 3) := by decide +kernel
theorem dX10_empties_27 : decode cX10_empties 27 = .ok (.aload_n 0, 1) := by decide +kernel
theorem dX10_empties_28 : decode cX10_empties 28 = .ok (.iconst 0, 1) := by decide +kernel
theorem dX10_empties_29 : decode cX10_empties 29 = .ok (.putfield 19, 3) := by decide +kernel
theorem dX10_empties_32 : decode cX10_empties 32 = .ok (.aload_n 0, 1) := by decide +kernel
theorem dX10_empties_33 : decode cX10_empties 33 = .ok (.iconst 0, 1) := by decide +kernel
theorem dX10_empties_34 : decode cX10_empties 34 = .ok (.putfield 23, 3) := by decide +kernel
theorem dX10_empties_37 : decode cX10_empties 37 = .ok (.aload_n 0, 1) := by decide +kernel
theorem dX10_empties_38 : decode cX10_empties 38 = .ok (.iconst 0, 1) := by decide +kernel
theorem dX10_empties_39 : decode cX10_empties 39 = .ok (.putfield 26, 3) := by decide +kernel
theorem dX10_empties_42 : decode cX10_empties 42 = .ok (.aload_n 0, 1) := by decide +kernel
theorem dX10_empties_43 : decode cX10_empties 43 = .ok (.iconst 0, 1) := by decide +kernel
theorem dX10_empties_44 : decode cX10_empties 44 = .ok (.putfield 38, 3) := by decide +kernel
theorem dX10_empties_47 : decode cX10_empties 47 = .ok (.return_, 1) := by decide +kernel
theorem dX11_init_0 : decode cX11_init 0 = .ok (.aload_n 0, 1) := by decide +kernel
theorem dX11_init_1 : decode cX11_init 1 = .ok (.invokespecial 1, 3) := by decide +kernel
theorem dX11_init_4 : decode cX11_init 4 = .ok (.aload_n 0, 1) := by decide +kernel
theorem dX11_init_5 : decode cX11_init 5 = .ok (.iconst (-1), 1) := by decide +kernel
theorem dX11_init_6 : decode cX11_init 6 = .ok (.putfield 7, 3) := by decide +kernel
theorem dX11_init_9 : decode cX11_init 9 = .ok (.aload_n 0, 1) := by decide +kernel
theorem dX11_init_10 : decode cX11_init 10 = .ok (.bipush 20, 2) := by decide +kernel
theorem dX11_init_12 : decode cX11_init 12 = .ok (.newarray .int, 2) := by decide +kernel
theorem dX11_init_14 : decode cX11_init 14 = .ok (.putfield 13, 3) := by decide +kernel
theorem dX11_init_17 : decode cX11_init 17 = .ok (.aload_n 0, 1) := by decide +kernel
theorem dX11_init_18 : decode cX11_init 18 = .ok (.iconst (-1), 1) := by decide +kernel
theorem dX11_init_19 : decode cX11_init 19 = .ok (.putfield 17, 3) := by decide +kernel
theorem dX11_init_22 : decode cX11_init 22 = .ok (.aload_n 0, 1) := by decide +kernel
theorem dX11_init_23 : decode cX11_init 23 = .ok (.iconst 5, 1) := by decide +kernel
theorem dX11_init_24 : decode cX11_init 24 = .ok (.newarray .int, 2) := by decide +kernel
theorem dX11_init_26 : decode cX11_init 26 = .ok (.putfield 20, 3) := by decide +kernel
theorem dX11_init_29 : decode cX11_init 29 = .ok (.aload_n 0, 1) := by decide +kernel
theorem dX11_init_30 : decode cX11_init 30 = .ok (.iconst 0, 1) := by decide +kernel
theorem dX11_init_31 : decode cX11_init 31 = .ok (.anewarray 23, 3) := by decide +kernel
theorem dX11_init_34 : decode cX11_init 34 = .ok (.putfield 24, 3) := by decide +kernel
theorem dX11_init_37 : decode cX11_init 37 = .ok (.aload_n 0, 1) := by decide +kernel
theorem dX11_init_38 : decode cX11_init 38 = .ok (.aload_n 1, 1) := by decide +kernel
theorem dX11_init_39 : decode cX11_init 39 = .ok (.iconst 1, 1) := by decide +kernel
theorem dX11_init_40 : decode cX11_init 40 = .ok (.aload_n 1, 1) := by decide +kernel
theorem dX11_init_41 : decode cX11_init 41 = .ok (.iconst 0, 1) := by decide +kernel
theorem dX11_init_42 : decode cX11_init 42 = .ok (.iconst 1, 1) := by decide +kernel
theorem dX11_init_43 : decode cX11_init 43 = .ok (.invokevirtual 28, 3) := by decide +kernel
theorem dX11_init_46 : decode cX11_init 46 = .ok (.ifCond .ne 8, 3) := by decide +kernel
theorem dX11_init_49 : decode cX11_init 49 = .ok (.bipush 99, 2) := by decide +kernel
theorem dX11_init_51 : decode cX11_init 51 = .ok (.goto 5, 3) := by decide +kernel
theorem dX11_init_54 : decode cX11_init 54 = .ok (.bipush 9, 2) := by decide +kernel
theorem dX11_init_56 : decode cX11_init 56 = .ok (.invokevirtual 28, 3) := by decide +kernel
theorem dX11_init_59 : decode cX11_init 59 = .ok (.putfield 34, 3) := by decide +kernel
theorem dX11_init_62 : decode cX11_init 62 = .ok (.aload_n 0, 1) := by decide +kernel
theorem dX11_init_63 : decode cX11_init 63 = .ok (.aload_n 1, 1) := by decide +kernel
theorem dX11_init_64 : decode cX11_init 64 = .ok (.iconst 1, 1) := by decide +kernel
theorem dX11_init_65 : decode cX11_init 65 = .ok (.aload_n 1, 1) := by decide +kernel
theorem dX11_init_66 : decode cX11_init 66 = .ok (.iconst 0, 1) := by decide +kernel
theorem dX11_init_67 : decode cX11_init 67 = .ok (.iconst 1, 1) := by decide +kernel
theorem dX11_init_68 : decode cX11_init 68 = .ok (.invokevirtual 28, 3) := by decide +kernel
theorem dX11_init_71 : decode cX11_init 71 = .ok (.ifCond .ne 8, 3) := by decide +kernel
theorem dX11_init_74 : decode cX11_init 74 = .ok (.bipush 9, 2) := by decide +kernel
theorem dX11_init_76 : decode cX11_init 76 = .ok (.goto 4, 3) := by decide +kernel
theorem dX11_init_79 : decode cX11_init 79 = .ok (.iconst 3, 1) := by decide +kernel
theorem dX11_init_80 : decode cX11_init 80 = .ok (.invokevirtual 28, 3) := by decide +kernel
theorem dX11_init_83 : decode cX11_init 83 = .ok (.putfield 37, 3) := by decide +kernel
theorem dX11_init_86 : decode cX11_init 86 = .ok (.aload_n 0, 1) := by decide +kernel
theorem dX11_init_87 : decode cX11_init 87 = .ok (.aload_n 1, 1) := by decide +kernel
theorem dX11_init_88 : decode cX11_init 88 = .ok (.iconst 0, 1) := by decide +kernel
theorem dX11_init_89 : decode cX11_init 89 = .ok (.bipush 7, 2) := by decide +kernel
theorem dX11_init_91 : decode cX11_init 91 = .ok (.invokevirtual 28, 3) := by decide +kernel
theorem dX11_init_94 : decode cX11_init 94 = .ok (.putfield 40, 3) := by decide +kernel
theorem dX11_init_97 : decode cX11_init 97 = .ok (.aload_n 0, 1) := by decide +kernel
theorem dX11_init_98 : decode cX11_init 98 = .ok (.aload_n 1, 1) := by decide +kernel
theorem dX11_init_99 : decode cX11_init 99 = .ok (.iconst 0, 1) := by decide +kernel
theorem dX11_init_100 : decode cX11_init 100 = .ok (.iconst 1, 1) := by decide +kernel
theorem dX11_init_101 : decode cX11_init 101 = .ok (.invokevirtual 28, 3) := by decide +kernel
theorem dX11_init_104 : decode cX11_init 104 = .ok (.ifCond .ne 7, 3) := by decide +kernel
theorem dX11_init_107 : decode cX11_init 107 = .ok (.iconst 0, 1) := by decide +kernel
theorem dX11_init_108 : decode cX11_init 108 = .ok (.goto 10, 3) := by decide +kernel
theorem dX11_init_111 : decode cX11_init 111 = .ok (.aload_n 1, 1) := by decide +kernel
theorem dX11_init_112 : decode cX11_init 112 = .ok (.iconst 0, 1) := by decide +kernel
theorem dX11_init_113 : decode cX11_init 113 = .ok (.bipush 20, 2) := by decide +kernel
theorem dX11_init_115 : decode cX11_init 115 = .ok (.invokevirtual 28, 3) := by decide +kernel
theorem dX11_init_118 : decode cX11_init 118 = .ok (.putfield 43, 3) := by decide +kernel
theorem dX11_init_121 : decode cX11_init 121 = .ok (.aload_n 0, 1) := by decide +kernel
theorem dX11_init_122 : decode cX11_init 122 = .ok (.new 46, 3) := by decide +kernel
theorem dX11_init_125 : decode cX11_init 125 = .ok (.dup, 1) := by decide +kernel
theorem dX11_init_126 : decode cX11_init 126 = .ok (.ldc 48, 2) := by decide +kernel
theorem dX11_init_128 : decode cX11_init 128 = .ok (.invokespecial 50, 3) := by decide +kernel
theorem dX11_init_131 : decode cX11_init 131 = .ok (.aload_n 0, 1) := by decide +kernel
theorem dX11_init_132 : decode cX11_init 132 = .ok (.getfield 34, 3) := by decide +kernel
theorem dX11_init_135 : decode cX11_init 135 = .ok (.invokevirtual 53, 3) := by decide +kernel
theorem dX11_init_138 : decode cX11_init 138 = .ok (.bipush 32, 2) := by decide +kernel
theorem dX11_init_140 : decode cX11_init 140 = .ok (.invokevirtual 57, 3) := by decide +kernel
theorem dX11_init_143 : decode cX11_init 143 = .ok (.aload_n 0, 1) := by decide +kernel
theorem dX11_init_144 : decode cX11_init 144 = .ok (.getfield 37, 3) := by decide +kernel
theorem dX11_init_147 : decode cX11_init 147 = .ok (.invokevirtual 53, 3) := by decide +kernel
theorem dX11_init_150 : decode cX11_init 150 = .ok (.bipush 32, 2) := by decide +kernel
theorem dX11_init_152 : decode cX11_init 152 = .ok (.invokevirtual 57, 3) := by decide +kernel
theorem dX11_init_155 : decode cX11_init 155 = .ok (.aload_n 0, 1) := by decide +kernel
theorem dX11_init_156 : decode cX11_init 156 = .ok (.getfield 40, 3) := by decide +kernel
theorem dX11_init_159 : decode cX11_init 159 = .ok (.invokevirtual 53, 3) := by decide +kernel
theorem dX11_init_162 : decode cX11_init 162 = .ok (.bipush 32, 2) := by decide +kernel
theorem dX11_init_164 : decode cX11_init 164 = .ok (.invokevirtual 57, 3) := by decide +kernel
theorem dX11_init_167 : decode cX11_init 167 = .ok (.aload_n 0, 1) := by decide +kernel
theorem dX11_init_168 : decode cX11_init 168 = .ok (.getfield 43, 3) := by decide +kernel
theorem dX11_init_171 : decode cX11_init 171 = .ok (.invokevirtual 53, 3) := by decide +kernel
theorem dX11_init_174 : decode cX11_init 174 = .ok (.putfield 60, 3) := by decide +kernel
theorem dX11_init_177 : decode cX11_init 177 = .ok (.aload_n 0, 1) := by decide +kernel
theorem dX11_init_178 : decode cX11_init 178 = .ok (.aload_n 1, 1) := by decide +kernel
theorem dX11_init_179 : decode cX11_init 179 = .ok (.iconst 1, 1) := by decide +kernel
theorem dX11_init_180 : decode cX11_init 180 = .ok (.bipush 6, 2) := by decide +kernel
theorem dX11_init_182 : decode cX11_init 182 = .ok (.invokevirtual 28, 3) := by decide +kernel
theorem dX11_init_185 : decode cX11_init 185 = .ok (.anewarray 64, 3) := by decide +kernel
theorem dX11_init_188 : decode cX11_init 188 = .ok (.putfield 66, 3) := by decide +kernel
theorem dX11_init_191 : decode cX11_init 191 = .ok (.iconst 0, 1) := by decide +kernel
theorem dX11_init_192 : decode cX11_init 192 = .ok (.istore_n 2, 1) := by decide +kernel
theorem dX11_init_193 : decode cX11_init 193 = .ok (.iload_n 2, 1) := by decide +kernel
theorem dX11_init_194 : decode cX11_init 194 = .ok (.aload_n 0, 1) := by decide +kernel
theorem dX11_init_195 : decode cX11_init 195 = .ok (.getfield 66, 3) := by decide +kernel
theorem dX11_init_198 : decode cX11_init 198 = .ok (.arraylength, 1) := by decide +kernel
theorem dX11_init_199 : decode cX11_init 199 = .ok (.if_icmp .ge 32, 3) := by decide +kernel
theorem dX11_init_202 : decode cX11_init 202 = .ok (.aload_n 0, 1) := by decide +kernel
theorem dX11_init_203 : decode cX11_init 203 = .ok (.getfield 66, 3) := by decide +kernel
theorem dX11_init_206 : decode cX11_init 206 = .ok (.iload_n 2, 1) := by decide +kernel
theorem dX11_init_207 : decode cX11_init 207 = .ok (.new 64, 3) := by decide +kernel
theorem dX11_init_210 : decode cX11_init 210 = .ok (.dup, 1) := by decide +kernel
theorem dX11_init_211 : decode cX11_init 211 = .ok (.invokespecial 70, 3) := by decide +kernel
theorem dX11_init_214 : decode cX11_init 214 = .ok (.aastore, 1) := by decide +kernel
theorem dX11_init_215 : decode cX11_init 215 = .ok (.aload_n 0, 1) := by decide +kernel
theorem dX11_init_216 : decode cX11_init 216 = .ok (.getfield 60, 3) := by decide +kernel
theorem dX11_init_219 : decode cX11_init 219 = .ok (.ldc 71, 2) := by decide +kernel
theorem dX11_init_221 : decode cX11_init 221 = .ok (.invokevirtual 73, 3) := by decide +kernel
theorem dX11_init_224 : decode cX11_init 224 = .ok (.pop, 1) := by decide +kernel
theorem dX11_init_225 : decode cX11_init 225 = .ok (.iinc 2 1, 3) := by decide +kernel
theorem dX11_init_228 : decode cX11_init 228 = .ok (.goto (-35), 3) := by decide +kernel
theorem dX11_init_231 : decode cX11_init 231 = .ok (.iconst 0, 1) := by decide +kernel
theorem dX11_init_232 : decode cX11_init 232 = .ok (.istore_n 2, 1) := by decide +kernel
theorem dX11_init_233 : decode cX11_init 233 = .ok (.iload_n 2, 1) := by decide +kernel
theorem dX11_init_234 : decode cX11_init 234 = .ok (.aload_n 0, 1) := by decide +kernel
theorem dX11_init_235 : decode cX11_init 235 = .ok (.getfield 66, 3) := by decide +kernel
theorem dX11_init_238 : decode cX11_init 238 = .ok (.arraylength, 1) := by decide +kernel
theorem dX11_init_239 : decode cX11_init 239 = .ok (.if_icmp .ge 352, 3) := by decide +kernel
theorem dX11_init_242 : decode cX11_init 242 = .ok (.aload_n 1, 1) := by decide +kernel
theorem dX11_init_243 : decode cX11_init 243 = .ok (.iconst 0, 1) := by decide +kernel
theorem dX11_init_244 : decode cX11_init 244 = .ok (.iconst 4, 1) := by decide +kernel
theorem dX11_init_245 : decode cX11_init 245 = .ok (.invokevirtual 28, 3) := by decide +kernel
theorem dX11_init_248 : decode cX11_init 248 = .ok (.ifCond .ne 6, 3) := by decide +kernel
theorem dX11_init_251 : decode cX11_init 251 = .ok (.goto 334, 3) := by decide +kernel
theorem dX11_init_254 : decode cX11_init 254 = .ok (.aload_n 0, 1) := by decide +kernel
theorem dX11_init_255 : decode cX11_init 255 = .ok (.getfield 66, 3) := by decide +kernel
theorem dX11_init_258 : decode cX11_init 258 = .ok (.iload_n 2, 1) := by decide +kernel
theorem dX11_init_259 : decode cX11_init 259 = .ok (.aaload, 1) := by decide +kernel
theorem dX11_init_260 : decode cX11_init 260 = .ok (.astore_n 3, 1) := by decide +kernel
theorem dX11_init_261 : decode cX11_init 261 = .ok (.aload_n 3, 1) := by decide +kernel
theorem dX11_init_262 : decode cX11_init 262 = .ok (.iconst 5, 1) := by decide +kernel
theorem dX11_init_263 : decode cX11_init 263 = .ok (.newarray .int, 2) := by decide +kernel
theorem dX11_init_265 : decode cX11_init 265 = .ok (.dup, 1) := by decide +kernel
theorem dX11_init_266 : decode cX11_init 266 = .ok (.iconst 0, 1) := by decide +kernel
theorem dX11_init_267 : decode cX11_init 267 = .ok (.aload_n 1, 1) := by decide +kernel
theorem dX11_init_268 : decode cX11_init 268 = .ok (.iconst 0, 1) := by decide +kernel
theorem dX11_init_269 : decode cX11_init 269 = .ok (.bipush 30, 2) := by decide +kernel
theorem dX11_init_271 : decode cX11_init 271 = .ok (.invokevirtual 28, 3) := by decide +kernel
theorem dX11_init_274 : decode cX11_init 274 = .ok (.iastore, 1) := by decide +kernel
theorem dX11_init_275 : decode cX11_init 275 = .ok (.dup, 1) := by decide +kernel
theorem dX11_init_276 : decode cX11_init 276 = .ok (.iconst 1, 1) := by decide +kernel
theorem dX11_init_277 : decode cX11_init 277 = .ok (.aload_n 1, 1) := by decide +kernel
theorem dX11_init_278 : decode cX11_init 278 = .ok (.iconst 1, 1) := by decide +kernel
theorem dX11_init_279 : decode cX11_init 279 = .ok (.aload_n 1, 1) := by decide +kernel
theorem dX11_init_280 : decode cX11_init 280 = .ok (.iconst 0, 1) := by decide +kernel
theorem dX11_init_281 : decode cX11_init 281 = .ok (.iconst 1, 1) := by decide +kernel
theorem dX11_init_282 : decode cX11_init 282 = .ok (.invokevirtual 28, 3) := by decide +kernel
theorem dX11_init_285 : decode cX11_init 285 = .ok (.ifCond .ne 8, 3) := by decide +kernel
theorem dX11_init_288 : decode cX11_init 288 = .ok (.bipush 12, 2) := by decide +kernel
theorem dX11_init_290 : decode cX11_init 290 = .ok (.goto 4, 3) := by decide +kernel
theorem dX11_init_293 : decode cX11_init 293 = .ok (.iconst 5, 1) := by decide +kernel
theorem dX11_init_294 : decode cX11_init 294 = .ok (.invokevirtual 28, 3) := by decide +kernel
theorem dX11_init_297 : decode cX11_init 297 = .ok (.iastore, 1) := by decide +kernel
theorem dX11_init_298 : decode cX11_init 298 = .ok (.dup, 1) := by decide +kernel
theorem dX11_init_299 : decode cX11_init 299 = .ok (.iconst 2, 1) := by decide +kernel
theorem dX11_init_300 : decode cX11_init 300 = .ok (.aload_n 1, 1) := by decide +kernel
theorem dX11_init_301 : decode cX11_init 301 = .ok (.iconst 0, 1) := by decide +kernel
theorem dX11_init_302 : decode cX11_init 302 = .ok (.iconst 1, 1) := by decide +kernel
theorem dX11_init_303 : decode cX11_init 303 = .ok (.invokevirtual 28, 3) := by decide +kernel
theorem dX11_init_306 : decode cX11_init 306 = .ok (.ifCond .ne 7, 3) := by decide +kernel
theorem dX11_init_309 : decode cX11_init 309 = .ok (.iconst 0, 1) := by decide +kernel
theorem dX11_init_310 : decode cX11_init 310 = .ok (.goto 10, 3) := by decide +kernel
theorem dX11_init_313 : decode cX11_init 313 = .ok (.aload_n 1, 1) := by decide +kernel
theorem dX11_init_314 : decode cX11_init 314 = .ok (.iconst 0, 1) := by decide +kernel
theorem dX11_init_315 : decode cX11_init 315 = .ok (.bipush 14, 2) := by decide +kernel
theorem dX11_init_317 : decode cX11_init 317 = .ok (.invokevirtual 28, 3) := by decide +kernel
theorem dX11_init_320 : decode cX11_init 320 = .ok (.iastore, 1) := by decide +kernel
theorem dX11_init_321 : decode cX11_init 321 = .ok (.dup, 1) := by decide +kernel
theorem dX11_init_322 : decode cX11_init 322 = .ok (.iconst 3, 1) := by decide +kernel
theorem dX11_init_323 : decode cX11_init 323 = .ok (.aload_n 1, 1) := by decide +kernel
theorem dX11_init_324 : decode cX11_init 324 = .ok (.iconst 0, 1) := by decide +kernel
theorem dX11_init_325 : decode cX11_init 325 = .ok (.bipush 7, 2) := by decide +kernel
theorem dX11_init_327 : decode cX11_init 327 = .ok (.invokevirtual 28, 3) := by decide +kernel
theorem dX11_init_330 : decode cX11_init 330 = .ok (.ifCond .ne 7, 3) := by decide +kernel
theorem dX11_init_333 : decode cX11_init 333 = .ok (.iconst 1, 1) := by decide +kernel
theorem dX11_init_334 : decode cX11_init 334 = .ok (.goto 4, 3) := by decide +kernel
theorem dX11_init_337 : decode cX11_init 337 = .ok (.iconst 0, 1) := by decide +kernel
theorem dX11_init_338 : decode cX11_init 338 = .ok (.iastore, 1) := by decide +kernel
theorem dX11_init_339 : decode cX11_init 339 = .ok (.dup, 1) := by decide +kernel
theorem dX11_init_340 : decode cX11_init 340 = .ok (.iconst 4, 1) := by decide +kernel
theorem dX11_init_341 : decode cX11_init 341 = .ok (.aload_n 1, 1) := by decide +kernel
theorem dX11_init_342 : decode cX11_init 342 = .ok (.iconst 0, 1) := by decide +kernel
theorem dX11_init_343 : decode cX11_init 343 = .ok (.iconst 5, 1) := by decide +kernel
theorem dX11_init_344 : decode cX11_init 344 = .ok (.invokevirtual 28, 3) := by decide +kernel
theorem dX11_init_347 : decode cX11_init 347 = .ok (.ifCond .ne 7, 3) := by decide +kernel
theorem dX11_init_350 : decode cX11_init 350 = .ok (.iconst 1, 1) := by decide +kernel
theorem dX11_init_351 : decode cX11_init 351 = .ok (.goto 4, 3) := by decide +kernel
theorem dX11_init_354 : decode cX11_init 354 = .ok (.iconst 0, 1) := by decide +kernel
theorem dX11_init_355 : decode cX11_init 355 = .ok (.iastore, 1) := by decide +kernel
theorem dX11_init_356 : decode cX11_init 356 = .ok (.putfield 76, 3) := by decide +kernel
theorem dX11_init_359 : decode cX11_init 359 = .ok (.aload_n 3, 1) := by decide +kernel
theorem dX11_init_360 : decode cX11_init 360 = .ok (.iconst 1, 1) := by decide +kernel
theorem dX11_init_361 : decode cX11_init 361 = .ok (.putfield 79, 3) := by decide +kernel
theorem dX11_init_364 : decode cX11_init 364 = .ok (.aload_n 3, 1) := by decide +kernel
theorem dX11_init_365 : decode cX11_init 365 = .ok (.iconst 1, 1) := by decide +kernel
theorem dX11_init_366 : decode cX11_init 366 = .ok (.putfield 82, 3) := by decide +kernel
theorem dX11_init_369 : decode cX11_init 369 = .ok (.aload_n 0, 1) := by decide +kernel
theorem dX11_init_370 : decode cX11_init 370 = .ok (.getfield 60, 3) := by decide +kernel
theorem dX11_init_373 : decode cX11_init 373 = .ok (.ldc 85, 2) := by decide +kernel
theorem dX11_init_375 : decode cX11_init 375 = .ok (.invokevirtual 73, 3) := by decide +kernel
theorem dX11_init_378 : decode cX11_init 378 = .ok (.iload_n 2, 1) := by decide +kernel
theorem dX11_init_379 : decode cX11_init 379 = .ok (.invokevirtual 53, 3) := by decide +kernel
theorem dX11_init_382 : decode cX11_init 382 = .ok (.bipush 32, 2) := by decide +kernel
theorem dX11_init_384 : decode cX11_init 384 = .ok (.invokevirtual 57, 3) := by decide +kernel
theorem dX11_init_387 : decode cX11_init 387 = .ok (.aload_n 3, 1) := by decide +kernel
theorem dX11_init_388 : decode cX11_init 388 = .ok (.getfield 76, 3) := by decide +kernel
theorem dX11_init_391 : decode cX11_init 391 = .ok (.iconst 0, 1) := by decide +kernel
theorem dX11_init_392 : decode cX11_init 392 = .ok (.iaload, 1) := by decide +kernel
theorem dX11_init_393 : decode cX11_init 393 = .ok (.invokevirtual 53, 3) := by decide +kernel
theorem dX11_init_396 : decode cX11_init 396 = .ok (.bipush 32, 2) := by decide +kernel
theorem dX11_init_398 : decode cX11_init 398 = .ok (.invokevirtual 57, 3) := by decide +kernel
theorem dX11_init_401 : decode cX11_init 401 = .ok (.aload_n 3, 1) := by decide +kernel
theorem dX11_init_402 : decode cX11_init 402 = .ok (.getfield 76, 3) := by decide +kernel
theorem dX11_init_405 : decode cX11_init 405 = .ok (.iconst 1, 1) := by decide +kernel
theorem dX11_init_406 : decode cX11_init 406 = .ok (.iaload, 1) := by decide +kernel
theorem dX11_init_407 : decode cX11_init 407 = .ok (.invokevirtual 53, 3) := by decide +kernel
theorem dX11_init_410 : decode cX11_init 410 = .ok (.bipush 32, 2) := by decide +kernel
theorem dX11_init_412 : decode cX11_init 412 = .ok (.invokevirtual 57, 3) := by decide +kernel
theorem dX11_init_415 : decode cX11_init 415 = .ok (.aload_n 3, 1) := by decide +kernel
theorem dX11_init_416 : decode cX11_init 416 = .ok (.getfield 76, 3) := by decide +kernel
theorem dX11_init_419 : decode cX11_init 419 = .ok (.iconst 2, 1) := by decide +kernel
theorem dX11_init_420 : decode cX11_init 420 = .ok (.iaload, 1) := by decide +kernel
theorem dX11_init_421 : decode cX11_init 421 = .ok (.invokevirtual 53, 3) := by decide +kernel
theorem dX11_init_424 : decode cX11_init 424 = .ok (.aload_n 3, 1) := by decide +kernel
theorem dX11_init_425 : decode cX11_init 425 = .ok (.getfield 76, 3) := by decide +kernel
theorem dX11_init_428 : decode cX11_init 428 = .ok (.iconst 3, 1) := by decide +kernel
theorem dX11_init_429 : decode cX11_init 429 = .ok (.iaload, 1) := by decide +kernel
theorem dX11_init_430 : decode cX11_init 430 = .ok (.iconst 1, 1) := by decide +kernel
theorem dX11_init_431 : decode cX11_init 431 = .ok (.if_icmp .ne 8, 3) := by decide +kernel
theorem dX11_init_434 : decode cX11_init 434 = .ok (.ldc 87, 2) := by decide +kernel
theorem dX11_init_436 : decode cX11_init 436 = .ok (.goto 5, 3) := by decide +kernel
theorem dX11_init_439 : decode cX11_init 439 = .ok (.ldc 89, 2) := by decide +kernel
theorem dX11_init_441 : decode cX11_init 441 = .ok (.invokevirtual 73, 3) := by decide +kernel
theorem dX11_init_444 : decode cX11_init 444 = .ok (.aload_n 3, 1) := by decide +kernel
theorem dX11_init_445 : decode cX11_init 445 = .ok (.getfield 76, 3) := by decide +kernel
theorem dX11_init_448 : decode cX11_init 448 = .ok (.iconst 4, 1) := by decide +kernel
theorem dX11_init_449 : decode cX11_init 449 = .ok (.iaload, 1) := by decide +kernel
theorem dX11_init_450 : decode cX11_init 450 = .ok (.iconst 1, 1) := by decide +kernel
theorem dX11_init_451 : decode cX11_init 451 = .ok (.if_icmp .ne 8, 3) := by decide +kernel
theorem dX11_init_454 : decode cX11_init 454 = .ok (.ldc 91, 2) := by decide +kernel
theorem dX11_init_456 : decode cX11_init 456 = .ok (.goto 5, 3) := by decide +kernel
theorem dX11_init_459 : decode cX11_init 459 = .ok (.ldc 89, 2) := by decide +kernel
theorem dX11_init_461 : decode cX11_init 461 = .ok (.invokevirtual 73, 3) := by decide +kernel
theorem dX11_init_464 : decode cX11_init 464 = .ok (.pop, 1) := by decide +kernel
theorem dX11_init_465 : decode cX11_init 465 = .ok (.aload_n 1, 1) := by decide +kernel
theorem dX11_init_466 : decode cX11_init 466 = .ok (.iconst 0, 1) := by decide +kernel
theorem dX11_init_467 : decode cX11_init 467 = .ok (.iconst 3, 1) := by decide +kernel
theorem dX11_init_468 : decode cX11_init 468 = .ok (.invokevirtual 28, 3) := by decide +kernel
theorem dX11_init_471 : decode cX11_init 471 = .ok (.ifCond .ne 6, 3) := by decide +kernel
theorem dX11_init_474 : decode cX11_init 474 = .ok (.goto 111, 3) := by decide +kernel
theorem dX11_init_477 : decode cX11_init 477 = .ok (.aload_n 3, 1) := by decide +kernel
theorem dX11_init_478 : decode cX11_init 478 = .ok (.aload_n 1, 1) := by decide +kernel
theorem dX11_init_479 : decode cX11_init 479 = .ok (.iconst 0, 1) := by decide +kernel
theorem dX11_init_480 : decode cX11_init 480 = .ok (.aload_n 1, 1) := by decide +kernel
theorem dX11_init_481 : decode cX11_init 481 = .ok (.iconst 0, 1) := by decide +kernel
theorem dX11_init_482 : decode cX11_init 482 = .ok (.iconst 1, 1) := by decide +kernel
theorem dX11_init_483 : decode cX11_init 483 = .ok (.invokevirtual 28, 3) := by decide +kernel
theorem dX11_init_486 : decode cX11_init 486 = .ok (.ifCond .ne 8, 3) := by decide +kernel
theorem dX11_init_489 : decode cX11_init 489 = .ok (.bipush 15, 2) := by decide +kernel
theorem dX11_init_491 : decode cX11_init 491 = .ok (.goto 4, 3) := by decide +kernel
theorem dX11_init_494 : decode cX11_init 494 = .ok (.iconst 3, 1) := by decide +kernel
theorem dX11_init_495 : decode cX11_init 495 = .ok (.invokevirtual 28, 3) := by decide +kernel
theorem dX11_init_498 : decode cX11_init 498 = .ok (.putfield 79, 3) := by decide +kernel
theorem dX11_init_501 : decode cX11_init 501 = .ok (.aload_n 3, 1) := by decide +kernel
theorem dX11_init_502 : decode cX11_init 502 = .ok (.aload_n 1, 1) := by decide +kernel
theorem dX11_init_503 : decode cX11_init 503 = .ok (.iconst 0, 1) := by decide +kernel
theorem dX11_init_504 : decode cX11_init 504 = .ok (.bipush 7, 2) := by decide +kernel
theorem dX11_init_506 : decode cX11_init 506 = .ok (.invokevirtual 28, 3) := by decide +kernel
theorem dX11_init_509 : decode cX11_init 509 = .ok (.putfield 82, 3) := by decide +kernel
theorem dX11_init_512 : decode cX11_init 512 = .ok (.aload_n 3, 1) := by decide +kernel
theorem dX11_init_513 : decode cX11_init 513 = .ok (.aload_n 1, 1) := by decide +kernel
theorem dX11_init_514 : decode cX11_init 514 = .ok (.iconst 0, 1) := by decide +kernel
theorem dX11_init_515 : decode cX11_init 515 = .ok (.iconst 2, 1) := by decide +kernel
theorem dX11_init_516 : decode cX11_init 516 = .ok (.invokevirtual 28, 3) := by decide +kernel
theorem dX11_init_519 : decode cX11_init 519 = .ok (.ifCond .ne 7, 3) := by decide +kernel
theorem dX11_init_522 : decode cX11_init 522 = .ok (.iconst 1, 1) := by decide +kernel
theorem dX11_init_523 : decode cX11_init 523 = .ok (.goto 4, 3) := by decide +kernel
theorem dX11_init_526 : decode cX11_init 526 = .ok (.iconst 0, 1) := by decide +kernel
theorem dX11_init_527 : decode cX11_init 527 = .ok (.putfield 93, 3) := by decide +kernel
theorem dX11_init_530 : decode cX11_init 530 = .ok (.aload_n 0, 1) := by decide +kernel
theorem dX11_init_531 : decode cX11_init 531 = .ok (.getfield 60, 3) := by decide +kernel
theorem dX11_init_534 : decode cX11_init 534 = .ok (.ldc 97, 2) := by decide +kernel
theorem dX11_init_536 : decode cX11_init 536 = .ok (.invokevirtual 73, 3) := by decide +kernel
theorem dX11_init_539 : decode cX11_init 539 = .ok (.iload_n 2, 1) := by decide +kernel
theorem dX11_init_540 : decode cX11_init 540 = .ok (.invokevirtual 53, 3) := by decide +kernel
theorem dX11_init_543 : decode cX11_init 543 = .ok (.bipush 32, 2) := by decide +kernel
theorem dX11_init_545 : decode cX11_init 545 = .ok (.invokevirtual 57, 3) := by decide +kernel
theorem dX11_init_548 : decode cX11_init 548 = .ok (.aload_n 3, 1) := by decide +kernel
theorem dX11_init_549 : decode cX11_init 549 = .ok (.getfield 79, 3) := by decide +kernel
theorem dX11_init_552 : decode cX11_init 552 = .ok (.invokevirtual 53, 3) := by decide +kernel
theorem dX11_init_555 : decode cX11_init 555 = .ok (.bipush 32, 2) := by decide +kernel
theorem dX11_init_557 : decode cX11_init 557 = .ok (.invokevirtual 57, 3) := by decide +kernel
theorem dX11_init_560 : decode cX11_init 560 = .ok (.aload_n 3, 1) := by decide +kernel
theorem dX11_init_561 : decode cX11_init 561 = .ok (.getfield 82, 3) := by decide +kernel
theorem dX11_init_564 : decode cX11_init 564 = .ok (.invokevirtual 53, 3) := by decide +kernel
theorem dX11_init_567 : decode cX11_init 567 = .ok (.aload_n 3, 1) := by decide +kernel
theorem dX11_init_568 : decode cX11_init 568 = .ok (.getfield 93, 3) := by decide +kernel
theorem dX11_init_571 : decode cX11_init 571 = .ok (.ifCond .eq 8, 3) := by decide +kernel
theorem dX11_init_574 : decode cX11_init 574 = .ok (.ldc 99, 2) := by decide +kernel
theorem dX11_init_576 : decode cX11_init 576 = .ok (.goto 5, 3) := by decide +kernel
theorem dX11_init_579 : decode cX11_init 579 = .ok (.ldc 89, 2) := by decide +kernel
theorem dX11_init_581 : decode cX11_init 581 = .ok (.invokevirtual 73, 3) := by decide +kernel
theorem dX11_init_584 : decode cX11_init 584 = .ok (.pop, 1) := by decide +kernel
theorem dX11_init_585 : decode cX11_init 585 = .ok (.iinc 2 1, 3) := by decide +kernel
theorem dX11_init_588 : decode cX11_init 588 = .ok (.goto (-355), 3) := by decide +kernel
theorem dX11_init_591 : decode cX11_init 591 = .ok (.return_, 1) := by decide +kernel
theorem dX11_why_0 : decode cX11_why 0 = .ok (.aload_n 0, 1) := by decide +kernel
theorem dX11_why_1 : decode cX11_why 1 = .ok (.getfield 66, 3) := by decide +kernel
theorem dX11_why_4 : decode cX11_why 4 = .ok (.iload_n 1, 1) := by decide +kernel
theorem dX11_why_5 : decode cX11_why 5 = .ok (.aaload, 1) := by decide +kernel
theorem dX11_why_6 : decode cX11_why 6 = .ok (.astore_n 2, 1) := by decide +kernel
theorem dX11_why_7 : decode cX11_why 7 = .ok (.aload_n 2, 1) := by decide +kernel
theorem dX11_why_8 : decode cX11_why 8 = .ok (.invokevirtual 122, 3) := by decide +kernel
theorem dX11_why_11 : decode cX11_why 11 = .ok (.ifCond .eq 5, 3) := by decide +kernel
theorem dX11_why_14 : decode cX11_why 14 = .ok (.iconst 1, 1) := by decide +kernel
theorem dX11_why_15 : decode cX11_why 15 = .ok (.ireturn, 1) := by decide +kernel
theorem dX11_why_16 : decode cX11_why 16 = .ok (.aload_n 2, 1) := by decide +kernel
theorem dX11_why_17 : decode cX11_why 17 = .ok (.getfield 76, 3) := by decide +kernel
theorem dX11_why_20 : decode cX11_why 20 = .ok (.iconst 3, 1) := by decide +kernel
theorem dX11_why_21 : decode cX11_why 21 = .ok (.iaload, 1) := by decide +kernel
theorem dX11_why_22 : decode cX11_why 22 = .ok (.iconst 1, 1) := by decide +kernel
theorem dX11_why_23 : decode cX11_why 23 = .ok (.if_icmp .ne 5, 3) := by decide +kernel
theorem dX11_why_26 : decode cX11_why 26 = .ok (.iconst 2, 1) := by decide +kernel
theorem dX11_why_27 : decode cX11_why 27 = .ok (.ireturn, 1) := by decide +kernel
theorem dX11_why_28 : decode cX11_why 28 = .ok (.aload_n 2, 1) := by decide +kernel
theorem dX11_why_29 : decode cX11_why 29 = .ok (.getfield 76, 3) := by decide +kernel
theorem dX11_why_32 : decode cX11_why 32 = .ok (.iconst 0, 1) := by decide +kernel
theorem dX11_why_33 : decode cX11_why 33 = .ok (.iaload, 1) := by decide +kernel
theorem dX11_why_34 : decode cX11_why 34 = .ok (.aload_n 0, 1) := by decide +kernel
theorem dX11_why_35 : decode cX11_why 35 = .ok (.getfield 43, 3) := by decide +kernel
theorem dX11_why_38 : decode cX11_why 38 = .ok (.if_icmp .ge 5, 3) := by decide +kernel
theorem dX11_why_41 : decode cX11_why 41 = .ok (.iconst 3, 1) := by decide +kernel
theorem dX11_why_42 : decode cX11_why 42 = .ok (.ireturn, 1) := by decide +kernel
theorem dX11_why_43 : decode cX11_why 43 = .ok (.aload_n 2, 1) := by decide +kernel
theorem dX11_why_44 : decode cX11_why 44 = .ok (.getfield 79, 3) := by decide +kernel
theorem dX11_why_47 : decode cX11_why 47 = .ok (.ifCond .ne 7, 3) := by decide +kernel
theorem dX11_why_50 : decode cX11_why 50 = .ok (.iconst 4, 1) := by decide +kernel
theorem dX11_why_51 : decode cX11_why 51 = .ok (.goto 22, 3) := by decide +kernel
theorem dX11_why_54 : decode cX11_why 54 = .ok (.aload_n 2, 1) := by decide +kernel
theorem dX11_why_55 : decode cX11_why 55 = .ok (.getfield 93, 3) := by decide +kernel
theorem dX11_why_58 : decode cX11_why 58 = .ok (.ifCond .ne 10, 3) := by decide +kernel
theorem dX11_why_61 : decode cX11_why 61 = .ok (.aload_n 2, 1) := by decide +kernel
theorem dX11_why_62 : decode cX11_why 62 = .ok (.getfield 82, 3) := by decide +kernel
theorem dX11_why_65 : decode cX11_why 65 = .ok (.ifCond .le 7, 3) := by decide +kernel
theorem dX11_why_68 : decode cX11_why 68 = .ok (.iconst 0, 1) := by decide +kernel
theorem dX11_why_69 : decode cX11_why 69 = .ok (.goto 4, 3) := by decide +kernel
theorem dX11_why_72 : decode cX11_why 72 = .ok (.iconst 5, 1) := by decide +kernel
theorem dX11_why_73 : decode cX11_why 73 = .ok (.ireturn, 1) := by decide +kernel
theorem dX11_worth_0 : decode cX11_worth 0 = .ok (.aload_n 0, 1) := by decide +kernel
theorem dX11_worth_1 : decode cX11_worth 1 = .ok (.getfield 66, 3) := by decide +kernel
theorem dX11_worth_4 : decode cX11_worth 4 = .ok (.iload_n 1, 1) := by decide +kernel
theorem dX11_worth_5 : decode cX11_worth 5 = .ok (.aaload, 1) := by decide +kernel
theorem dX11_worth_6 : decode cX11_worth 6 = .ok (.astore_n 2, 1) := by decide +kernel
theorem dX11_worth_7 : decode cX11_worth 7 = .ok (.iconst 2, 1) := by decide +kernel
theorem dX11_worth_8 : decode cX11_worth 8 = .ok (.aload_n 2, 1) := by decide +kernel
theorem dX11_worth_9 : decode cX11_worth 9 = .ok (.getfield 79, 3) := by decide +kernel
theorem dX11_worth_12 : decode cX11_worth 12 = .ok (.imul, 1) := by decide +kernel
theorem dX11_worth_13 : decode cX11_worth 13 = .ok (.aload_n 2, 1) := by decide +kernel
theorem dX11_worth_14 : decode cX11_worth 14 = .ok (.getfield 93, 3) := by decide +kernel
theorem dX11_worth_17 : decode cX11_worth 17 = .ok (.ifCond .eq 7, 3) := by decide +kernel
theorem dX11_worth_20 : decode cX11_worth 20 = .ok (.iconst 1, 1) := by decide +kernel
theorem dX11_worth_21 : decode cX11_worth 21 = .ok (.goto 4, 3) := by decide +kernel
theorem dX11_worth_24 : decode cX11_worth 24 = .ok (.iconst 0, 1) := by decide +kernel
theorem dX11_worth_25 : decode cX11_worth 25 = .ok (.iadd, 1) := by decide +kernel
theorem dX11_worth_26 : decode cX11_worth 26 = .ok (.bipush 100, 2) := by decide +kernel
theorem dX11_worth_28 : decode cX11_worth 28 = .ok (.imul, 1) := by decide +kernel
theorem dX11_worth_29 : decode cX11_worth 29 = .ok (.aload_n 2, 1) := by decide +kernel
theorem dX11_worth_30 : decode cX11_worth 30 = .ok (.getfield 76, 3) := by decide +kernel
theorem dX11_worth_33 : decode cX11_worth 33 = .ok (.iconst 0, 1) := by decide +kernel
theorem dX11_worth_34 : decode cX11_worth 34 = .ok (.iaload, 1) := by decide +kernel
theorem dX11_worth_35 : decode cX11_worth 35 = .ok (.iadd, 1) := by decide +kernel
theorem dX11_worth_36 : decode cX11_worth 36 = .ok (.bipush 10, 2) := by decide +kernel
theorem dX11_worth_38 : decode cX11_worth 38 = .ok (.imul, 1) := by decide +kernel
theorem dX11_worth_39 : decode cX11_worth 39 = .ok (.bipush 9, 2) := by decide +kernel
theorem dX11_worth_41 : decode cX11_worth 41 = .ok (.iadd, 1) := by decide +kernel
theorem dX11_worth_42 : decode cX11_worth 42 = .ok (.iload_n 1, 1) := by decide +kernel
theorem dX11_worth_43 : decode cX11_worth 43 = .ok (.isub, 1) := by decide +kernel
theorem dX11_worth_44 : decode cX11_worth 44 = .ok (.ireturn, 1) := by decide +kernel
theorem dX11_choice_0 : decode cX11_choice 0 = .ok (.iconst (-1), 1) := by decide +kernel
theorem dX11_choice_1 : decode cX11_choice 1 = .ok (.istore_n 2, 1) := by decide +kernel
theorem dX11_choice_2 : decode cX11_choice 2 = .ok (.iconst 0, 1) := by decide +kernel
theorem dX11_choice_3 : decode cX11_choice 3 = .ok (.istore_n 3, 1) := by decide +kernel
theorem dX11_choice_4 : decode cX11_choice 4 = .ok (.iload_n 3, 1) := by decide +kernel
theorem dX11_choice_5 : decode cX11_choice 5 = .ok (.aload_n 0, 1) := by decide +kernel
theorem dX11_choice_6 : decode cX11_choice 6 = .ok (.getfield 66, 3) := by decide +kernel
theorem dX11_choice_9 : decode cX11_choice 9 = .ok (.arraylength, 1) := by decide +kernel
theorem dX11_choice_10 : decode cX11_choice 10 = .ok (.if_icmp .ge 41, 3) := by decide +kernel
theorem dX11_choice_13 : decode cX11_choice 13 = .ok (.iload_n 3, 1) := by decide +kernel
theorem dX11_choice_14 : decode cX11_choice 14 = .ok (.iload_n 1, 1) := by decide +kernel
theorem dX11_choice_15 : decode cX11_choice 15 = .ok (.if_icmp .eq 30, 3) := by decide +kernel
theorem dX11_choice_18 : decode cX11_choice 18 = .ok (.aload_n 0, 1) := by decide +kernel
theorem dX11_choice_19 : decode cX11_choice 19 = .ok (.iload_n 3, 1) := by decide +kernel
theorem dX11_choice_20 : decode cX11_choice 20 = .ok (.invokevirtual 126, 3) := by decide +kernel
theorem dX11_choice_23 : decode cX11_choice 23 = .ok (.ifCond .ne 22, 3) := by decide +kernel
theorem dX11_choice_26 : decode cX11_choice 26 = .ok (.iload_n 2, 1) := by decide +kernel
theorem dX11_choice_27 : decode cX11_choice 27 = .ok (.ifCond .lt 16, 3) := by decide +kernel
theorem dX11_choice_30 : decode cX11_choice 30 = .ok (.aload_n 0, 1) := by decide +kernel
theorem dX11_choice_31 : decode cX11_choice 31 = .ok (.iload_n 3, 1) := by decide +kernel
theorem dX11_choice_32 : decode cX11_choice 32 = .ok (.invokevirtual 130, 3) := by decide +kernel
theorem dX11_choice_35 : decode cX11_choice 35 = .ok (.aload_n 0, 1) := by decide +kernel
theorem dX11_choice_36 : decode cX11_choice 36 = .ok (.iload_n 2, 1) := by decide +kernel
theorem dX11_choice_37 : decode cX11_choice 37 = .ok (.invokevirtual 130, 3) := by decide +kernel
theorem dX11_choice_40 : decode cX11_choice 40 = .ok (.if_icmp .le 5, 3) := by decide +kernel
theorem dX11_choice_43 : decode cX11_choice 43 = .ok (.iload_n 3, 1) := by decide +kernel
theorem dX11_choice_44 : decode cX11_choice 44 = .ok (.istore_n 2, 1) := by decide +kernel
theorem dX11_choice_45 : decode cX11_choice 45 = .ok (.iinc 3 1, 3) := by decide +kernel
theorem dX11_choice_48 : decode cX11_choice 48 = .ok (.goto (-44), 3) := by decide +kernel
theorem dX11_choice_51 : decode cX11_choice 51 = .ok (.iload_n 2, 1) := by decide +kernel
theorem dX11_choice_52 : decode cX11_choice 52 = .ok (.ireturn, 1) := by decide +kernel
theorem dX11_boot_0 : decode cX11_boot 0 = .ok (.iconst 0, 1) := by decide +kernel
theorem dX11_boot_1 : decode cX11_boot 1 = .ok (.istore_n 2, 1) := by decide +kernel
theorem dX11_boot_2 : decode cX11_boot 2 = .ok (.aload_n 0, 1) := by decide +kernel
theorem dX11_boot_3 : decode cX11_boot 3 = .ok (.iconst (-1), 1) := by decide +kernel
theorem dX11_boot_4 : decode cX11_boot 4 = .ok (.invokevirtual 133, 3) := by decide +kernel
theorem dX11_boot_7 : decode cX11_boot 7 = .ok (.istore_n 3, 1) := by decide +kernel
theorem dX11_boot_8 : decode cX11_boot 8 = .ok (.iload_n 3, 1) := by decide +kernel
theorem dX11_boot_9 : decode cX11_boot 9 = .ok (.ifCond .lt 103, 3) := by decide +kernel
theorem dX11_boot_12 : decode cX11_boot 12 = .ok (.aload_n 0, 1) := by decide +kernel
theorem dX11_boot_13 : decode cX11_boot 13 = .ok (.getfield 66, 3) := by decide +kernel
theorem dX11_boot_16 : decode cX11_boot 16 = .ok (.iload_n 3, 1) := by decide +kernel
theorem dX11_boot_17 : decode cX11_boot 17 = .ok (.aaload, 1) := by decide +kernel
theorem dX11_boot_18 : decode cX11_boot 18 = .ok (.astore 4, 2) := by decide +kernel
theorem dX11_boot_20 : decode cX11_boot 20 = .ok (.aload 4, 2) := by decide +kernel
theorem dX11_boot_22 : decode cX11_boot 22 = .ok (.getfield 93, 3) := by decide +kernel
theorem dX11_boot_25 : decode cX11_boot 25 = .ok (.ifCond .ne 36, 3) := by decide +kernel
theorem dX11_boot_28 : decode cX11_boot 28 = .ok (.aload 4, 2) := by decide +kernel
theorem dX11_boot_30 : decode cX11_boot 30 = .ok (.dup, 1) := by decide +kernel
theorem dX11_boot_31 : decode cX11_boot 31 = .ok (.getfield 82, 3) := by decide +kernel
theorem dX11_boot_34 : decode cX11_boot 34 = .ok (.iconst 1, 1) := by decide +kernel
theorem dX11_boot_35 : decode cX11_boot 35 = .ok (.isub, 1) := by decide +kernel
theorem dX11_boot_36 : decode cX11_boot 36 = .ok (.putfield 82, 3) := by decide +kernel
theorem dX11_boot_39 : decode cX11_boot 39 = .ok (.aload 4, 2) := by decide +kernel
theorem dX11_boot_41 : decode cX11_boot 41 = .ok (.dup, 1) := by decide +kernel
theorem dX11_boot_42 : decode cX11_boot 42 = .ok (.getfield 136, 3) := by decide +kernel
theorem dX11_boot_45 : decode cX11_boot 45 = .ok (.iconst 1, 1) := by decide +kernel
theorem dX11_boot_46 : decode cX11_boot 46 = .ok (.iadd, 1) := by decide +kernel
theorem dX11_boot_47 : decode cX11_boot 47 = .ok (.putfield 136, 3) := by decide +kernel
theorem dX11_boot_50 : decode cX11_boot 50 = .ok (.aload_n 0, 1) := by decide +kernel
theorem dX11_boot_51 : decode cX11_boot 51 = .ok (.getfield 13, 3) := by decide +kernel
theorem dX11_boot_54 : decode cX11_boot 54 = .ok (.bipush 13, 2) := by decide +kernel
theorem dX11_boot_56 : decode cX11_boot 56 = .ok (.dup2, 1) := by decide +kernel
theorem dX11_boot_57 : decode cX11_boot 57 = .ok (.iaload, 1) := by decide +kernel
theorem dX11_boot_58 : decode cX11_boot 58 = .ok (.iconst 1, 1) := by decide +kernel
theorem dX11_boot_59 : decode cX11_boot 59 = .ok (.iadd, 1) := by decide +kernel
theorem dX11_boot_60 : decode cX11_boot 60 = .ok (.iastore, 1) := by decide +kernel
theorem dX11_boot_61 : decode cX11_boot 61 = .ok (.aload 4, 2) := by decide +kernel
theorem dX11_boot_63 : decode cX11_boot 63 = .ok (.getfield 76, 3) := by decide +kernel
theorem dX11_boot_66 : decode cX11_boot 66 = .ok (.iconst 4, 1) := by decide +kernel
theorem dX11_boot_67 : decode cX11_boot 67 = .ok (.iaload, 1) := by decide +kernel
theorem dX11_boot_68 : decode cX11_boot 68 = .ok (.ifCond .ne 6, 3) := by decide +kernel
theorem dX11_boot_71 : decode cX11_boot 71 = .ok (.goto 41, 3) := by decide +kernel
theorem dX11_boot_74 : decode cX11_boot 74 = .ok (.aload 4, 2) := by decide +kernel
theorem dX11_boot_76 : decode cX11_boot 76 = .ok (.iconst 0, 1) := by decide +kernel
theorem dX11_boot_77 : decode cX11_boot 77 = .ok (.putfield 79, 3) := by decide +kernel
theorem dX11_boot_80 : decode cX11_boot 80 = .ok (.aload 4, 2) := by decide +kernel
theorem dX11_boot_82 : decode cX11_boot 82 = .ok (.iconst 0, 1) := by decide +kernel
theorem dX11_boot_83 : decode cX11_boot 83 = .ok (.putfield 93, 3) := by decide +kernel
theorem dX11_boot_86 : decode cX11_boot 86 = .ok (.aload_n 0, 1) := by decide +kernel
theorem dX11_boot_87 : decode cX11_boot 87 = .ok (.getfield 13, 3) := by decide +kernel
theorem dX11_boot_90 : decode cX11_boot 90 = .ok (.bipush 14, 2) := by decide +kernel
theorem dX11_boot_92 : decode cX11_boot 92 = .ok (.dup2, 1) := by decide +kernel
theorem dX11_boot_93 : decode cX11_boot 93 = .ok (.iaload, 1) := by decide +kernel
theorem dX11_boot_94 : decode cX11_boot 94 = .ok (.iconst 1, 1) := by decide +kernel
theorem dX11_boot_95 : decode cX11_boot 95 = .ok (.iadd, 1) := by decide +kernel
theorem dX11_boot_96 : decode cX11_boot 96 = .ok (.iastore, 1) := by decide +kernel
theorem dX11_boot_97 : decode cX11_boot 97 = .ok (.iload_n 2, 1) := by decide +kernel
theorem dX11_boot_98 : decode cX11_boot 98 = .ok (.iconst 1, 1) := by decide +kernel
theorem dX11_boot_99 : decode cX11_boot 99 = .ok (.iload_n 3, 1) := by decide +kernel
theorem dX11_boot_100 : decode cX11_boot 100 = .ok (.ishl, 1) := by decide +kernel
theorem dX11_boot_101 : decode cX11_boot 101 = .ok (.iadd, 1) := by decide +kernel
theorem dX11_boot_102 : decode cX11_boot 102 = .ok (.istore_n 2, 1) := by decide +kernel
theorem dX11_boot_103 : decode cX11_boot 103 = .ok (.aload_n 0, 1) := by decide +kernel
theorem dX11_boot_104 : decode cX11_boot 104 = .ok (.iconst (-1), 1) := by decide +kernel
theorem dX11_boot_105 : decode cX11_boot 105 = .ok (.invokevirtual 133, 3) := by decide +kernel
theorem dX11_boot_108 : decode cX11_boot 108 = .ok (.istore_n 3, 1) := by decide +kernel
theorem dX11_boot_109 : decode cX11_boot 109 = .ok (.goto (-101), 3) := by decide +kernel
theorem dX11_boot_112 : decode cX11_boot 112 = .ok (.aload_n 0, 1) := by decide +kernel
theorem dX11_boot_113 : decode cX11_boot 113 = .ok (.iconst 0, 1) := by decide +kernel
theorem dX11_boot_114 : decode cX11_boot 114 = .ok (.putfield 108, 3) := by decide +kernel
theorem dX11_boot_117 : decode cX11_boot 117 = .ok (.aload_n 0, 1) := by decide +kernel
theorem dX11_boot_118 : decode cX11_boot 118 = .ok (.iload_n 3, 1) := by decide +kernel
theorem dX11_boot_119 : decode cX11_boot 119 = .ok (.putfield 7, 3) := by decide +kernel
theorem dX11_boot_122 : decode cX11_boot 122 = .ok (.aload_n 0, 1) := by decide +kernel
theorem dX11_boot_123 : decode cX11_boot 123 = .ok (.iload_n 3, 1) := by decide +kernel
theorem dX11_boot_124 : decode cX11_boot 124 = .ok (.ifCond .ge 7, 3) := by decide +kernel
theorem dX11_boot_127 : decode cX11_boot 127 = .ok (.iconst 2, 1) := by decide +kernel
theorem dX11_boot_128 : decode cX11_boot 128 = .ok (.goto 4, 3) := by decide +kernel
theorem dX11_boot_131 : decode cX11_boot 131 = .ok (.iconst 1, 1) := by decide +kernel
theorem dX11_boot_132 : decode cX11_boot 132 = .ok (.putfield 105, 3) := by decide +kernel
theorem dX11_boot_135 : decode cX11_boot 135 = .ok (.iload_n 3, 1) := by decide +kernel
theorem dX11_boot_136 : decode cX11_boot 136 = .ok (.ifCond .lt 18, 3) := by decide +kernel
theorem dX11_boot_139 : decode cX11_boot 139 = .ok (.aload_n 0, 1) := by decide +kernel
theorem dX11_boot_140 : decode cX11_boot 140 = .ok (.getfield 66, 3) := by decide +kernel
theorem dX11_boot_143 : decode cX11_boot 143 = .ok (.iload_n 3, 1) := by decide +kernel
theorem dX11_boot_144 : decode cX11_boot 144 = .ok (.aaload, 1) := by decide +kernel
theorem dX11_boot_145 : decode cX11_boot 145 = .ok (.dup, 1) := by decide +kernel
theorem dX11_boot_146 : decode cX11_boot 146 = .ok (.getfield 139, 3) := by decide +kernel
theorem dX11_boot_149 : decode cX11_boot 149 = .ok (.iconst 1, 1) := by decide +kernel
theorem dX11_boot_150 : decode cX11_boot 150 = .ok (.iadd, 1) := by decide +kernel
theorem dX11_boot_151 : decode cX11_boot 151 = .ok (.putfield 139, 3) := by decide +kernel
theorem dX11_boot_154 : decode cX11_boot 154 = .ok (.aload_n 0, 1) := by decide +kernel
theorem dX11_boot_155 : decode cX11_boot 155 = .ok (.getfield 13, 3) := by decide +kernel
theorem dX11_boot_158 : decode cX11_boot 158 = .ok (.bipush 12, 2) := by decide +kernel
theorem dX11_boot_160 : decode cX11_boot 160 = .ok (.dup2, 1) := by decide +kernel
theorem dX11_boot_161 : decode cX11_boot 161 = .ok (.iaload, 1) := by decide +kernel
theorem dX11_boot_162 : decode cX11_boot 162 = .ok (.iconst 1, 1) := by decide +kernel
theorem dX11_boot_163 : decode cX11_boot 163 = .ok (.iadd, 1) := by decide +kernel
theorem dX11_boot_164 : decode cX11_boot 164 = .ok (.iastore, 1) := by decide +kernel
theorem dX11_boot_165 : decode cX11_boot 165 = .ok (.aload_n 0, 1) := by decide +kernel
theorem dX11_boot_166 : decode cX11_boot 166 = .ok (.getfield 24, 3) := by decide +kernel
theorem dX11_boot_169 : decode cX11_boot 169 = .ok (.arraylength, 1) := by decide +kernel
theorem dX11_boot_170 : decode cX11_boot 170 = .ok (.iconst 1, 1) := by decide +kernel
theorem dX11_boot_171 : decode cX11_boot 171 = .ok (.iadd, 1) := by decide +kernel
theorem dX11_boot_172 : decode cX11_boot 172 = .ok (.anewarray 23, 3) := by decide +kernel
theorem dX11_boot_175 : decode cX11_boot 175 = .ok (.astore 4, 2) := by decide +kernel
theorem dX11_boot_177 : decode cX11_boot 177 = .ok (.aload_n 0, 1) := by decide +kernel
theorem dX11_boot_178 : decode cX11_boot 178 = .ok (.getfield 24, 3) := by decide +kernel
theorem dX11_boot_181 : decode cX11_boot 181 = .ok (.iconst 0, 1) := by decide +kernel
theorem dX11_boot_182 : decode cX11_boot 182 = .ok (.aload 4, 2) := by decide +kernel
theorem dX11_boot_184 : decode cX11_boot 184 = .ok (.iconst 0, 1) := by decide +kernel
theorem dX11_boot_185 : decode cX11_boot 185 = .ok (.aload_n 0, 1) := by decide +kernel
theorem dX11_boot_186 : decode cX11_boot 186 = .ok (.getfield 24, 3) := by decide +kernel
theorem dX11_boot_189 : decode cX11_boot 189 = .ok (.arraylength, 1) := by decide +kernel
theorem dX11_boot_190 : decode cX11_boot 190 = .ok (.invokestatic 142, 3) := by decide +kernel
theorem dX11_boot_193 : decode cX11_boot 193 = .ok (.aload 4, 2) := by decide +kernel
theorem dX11_boot_195 : decode cX11_boot 195 = .ok (.aload_n 0, 1) := by decide +kernel
theorem dX11_boot_196 : decode cX11_boot 196 = .ok (.getfield 24, 3) := by decide +kernel
theorem dX11_boot_199 : decode cX11_boot 199 = .ok (.arraylength, 1) := by decide +kernel
theorem dX11_boot_200 : decode cX11_boot 200 = .ok (.iconst 4, 1) := by decide +kernel
theorem dX11_boot_201 : decode cX11_boot 201 = .ok (.newarray .int, 2) := by decide +kernel
theorem dX11_boot_203 : decode cX11_boot 203 = .ok (.dup, 1) := by decide +kernel
theorem dX11_boot_204 : decode cX11_boot 204 = .ok (.iconst 0, 1) := by decide +kernel
theorem dX11_boot_205 : decode cX11_boot 205 = .ok (.aload_n 0, 1) := by decide +kernel
theorem dX11_boot_206 : decode cX11_boot 206 = .ok (.getfield 102, 3) := by decide +kernel
theorem dX11_boot_209 : decode cX11_boot 209 = .ok (.iastore, 1) := by decide +kernel
theorem dX11_boot_210 : decode cX11_boot 210 = .ok (.dup, 1) := by decide +kernel
theorem dX11_boot_211 : decode cX11_boot 211 = .ok (.iconst 1, 1) := by decide +kernel
theorem dX11_boot_212 : decode cX11_boot 212 = .ok (.iload_n 1, 1) := by decide +kernel
theorem dX11_boot_213 : decode cX11_boot 213 = .ok (.iastore, 1) := by decide +kernel
theorem dX11_boot_214 : decode cX11_boot 214 = .ok (.dup, 1) := by decide +kernel
theorem dX11_boot_215 : decode cX11_boot 215 = .ok (.iconst 2, 1) := by decide +kernel
theorem dX11_boot_216 : decode cX11_boot 216 = .ok (.iload_n 2, 1) := by decide +kernel
theorem dX11_boot_217 : decode cX11_boot 217 = .ok (.iastore, 1) := by decide +kernel
theorem dX11_boot_218 : decode cX11_boot 218 = .ok (.dup, 1) := by decide +kernel
theorem dX11_boot_219 : decode cX11_boot 219 = .ok (.iconst 3, 1) := by decide +kernel
theorem dX11_boot_220 : decode cX11_boot 220 = .ok (.iload_n 3, 1) := by decide +kernel
theorem dX11_boot_221 : decode cX11_boot 221 = .ok (.iastore, 1) := by decide +kernel
theorem dX11_boot_222 : decode cX11_boot 222 = .ok (.aastore, 1) := by decide +kernel
theorem dX11_boot_223 : decode cX11_boot 223 = .ok (.aload_n 0, 1) := by decide +kernel
theorem dX11_boot_224 : decode cX11_boot 224 = .ok (.aload 4, 2) := by decide +kernel
theorem dX11_boot_226 : decode cX11_boot 226 = .ok (.putfield 24, 3) := by decide +kernel
theorem dX11_boot_229 : decode cX11_boot 229 = .ok (.iload_n 2, 1) := by decide +kernel
theorem dX11_boot_230 : decode cX11_boot 230 = .ok (.ireturn, 1) := by decide +kernel
theorem dX11_floorWith_0 : decode cX11_floorWith 0 = .ok (.bipush 100, 2) := by decide +kernel
theorem dX11_floorWith_2 : decode cX11_floorWith 2 = .ok (.istore_n 2, 1) := by decide +kernel
theorem dX11_floorWith_3 : decode cX11_floorWith 3 = .ok (.iconst 0, 1) := by decide +kernel
theorem dX11_floorWith_4 : decode cX11_floorWith 4 = .ok (.istore_n 3, 1) := by decide +kernel
theorem dX11_floorWith_5 : decode cX11_floorWith 5 = .ok (.iload_n 3, 1) := by decide +kernel
theorem dX11_floorWith_6 : decode cX11_floorWith 6 = .ok (.aload_n 0, 1) := by decide +kernel
theorem dX11_floorWith_7 : decode cX11_floorWith 7 = .ok (.getfield 66, 3) := by decide +kernel
theorem dX11_floorWith_10 : decode cX11_floorWith 10 = .ok (.arraylength, 1) := by decide +kernel
theorem dX11_floorWith_11 : decode cX11_floorWith 11 = .ok (.if_icmp .ge 42, 3) := by decide +kernel
theorem dX11_floorWith_14 : decode cX11_floorWith 14 = .ok (.aload_n 0, 1) := by decide +kernel
theorem dX11_floorWith_15 : decode cX11_floorWith 15 = .ok (.getfield 66, 3) := by decide +kernel
theorem dX11_floorWith_18 : decode cX11_floorWith 18 = .ok (.iload_n 3, 1) := by decide +kernel
theorem dX11_floorWith_19 : decode cX11_floorWith 19 = .ok (.aaload, 1) := by decide +kernel
theorem dX11_floorWith_20 : decode cX11_floorWith 20 = .ok (.getfield 93, 3) := by decide +kernel
theorem dX11_floorWith_23 : decode cX11_floorWith 23 = .ok (.ifCond .ne 8, 3) := by decide +kernel
theorem dX11_floorWith_26 : decode cX11_floorWith 26 = .ok (.iload_n 3, 1) := by decide +kernel
theorem dX11_floorWith_27 : decode cX11_floorWith 27 = .ok (.iload_n 1, 1) := by decide +kernel
theorem dX11_floorWith_28 : decode cX11_floorWith 28 = .ok (.if_icmp .ne 19, 3) := by decide +kernel
theorem dX11_floorWith_31 : decode cX11_floorWith 31 = .ok (.iload_n 2, 1) := by decide +kernel
theorem dX11_floorWith_32 : decode cX11_floorWith 32 = .ok (.aload_n 0, 1) := by decide +kernel
theorem dX11_floorWith_33 : decode cX11_floorWith 33 = .ok (.getfield 66, 3) := by decide +kernel
theorem dX11_floorWith_36 : decode cX11_floorWith 36 = .ok (.iload_n 3, 1) := by decide +kernel
theorem dX11_floorWith_37 : decode cX11_floorWith 37 = .ok (.aaload, 1) := by decide +kernel
theorem dX11_floorWith_38 : decode cX11_floorWith 38 = .ok (.getfield 76, 3) := by decide +kernel
theorem dX11_floorWith_41 : decode cX11_floorWith 41 = .ok (.iconst 0, 1) := by decide +kernel
theorem dX11_floorWith_42 : decode cX11_floorWith 42 = .ok (.iaload, 1) := by decide +kernel
theorem dX11_floorWith_43 : decode cX11_floorWith 43 = .ok (.invokestatic 148, 3) := by decide +kernel
theorem dX11_floorWith_46 : decode cX11_floorWith 46 = .ok (.istore_n 2, 1) := by decide +kernel
theorem dX11_floorWith_47 : decode cX11_floorWith 47 = .ok (.iinc 3 1, 3) := by decide +kernel
theorem dX11_floorWith_50 : decode cX11_floorWith 50 = .ok (.goto (-45), 3) := by decide +kernel
theorem dX11_floorWith_53 : decode cX11_floorWith 53 = .ok (.aload_n 0, 1) := by decide +kernel
theorem dX11_floorWith_54 : decode cX11_floorWith 54 = .ok (.getfield 66, 3) := by decide +kernel
theorem dX11_floorWith_57 : decode cX11_floorWith 57 = .ok (.iload_n 1, 1) := by decide +kernel
theorem dX11_floorWith_58 : decode cX11_floorWith 58 = .ok (.aaload, 1) := by decide +kernel
theorem dX11_floorWith_59 : decode cX11_floorWith 59 = .ok (.invokevirtual 122, 3) := by decide +kernel
theorem dX11_floorWith_62 : decode cX11_floorWith 62 = .ok (.ifCond .eq 10, 3) := by decide +kernel
theorem dX11_floorWith_65 : decode cX11_floorWith 65 = .ok (.aload_n 0, 1) := by decide +kernel
theorem dX11_floorWith_66 : decode cX11_floorWith 66 = .ok (.getfield 43, 3) := by decide +kernel
theorem dX11_floorWith_69 : decode cX11_floorWith 69 = .ok (.goto 11, 3) := by decide +kernel
theorem dX11_floorWith_72 : decode cX11_floorWith 72 = .ok (.aload_n 0, 1) := by decide +kernel
theorem dX11_floorWith_73 : decode cX11_floorWith 73 = .ok (.getfield 43, 3) := by decide +kernel
theorem dX11_floorWith_76 : decode cX11_floorWith 76 = .ok (.iload_n 2, 1) := by decide +kernel
theorem dX11_floorWith_77 : decode cX11_floorWith 77 = .ok (.invokestatic 153, 3) := by decide +kernel
theorem dX11_floorWith_80 : decode cX11_floorWith 80 = .ok (.ireturn, 1) := by decide +kernel
theorem dX11_goes_0 : decode cX11_goes 0 = .ok (.aload_n 0, 1) := by decide +kernel
theorem dX11_goes_1 : decode cX11_goes 1 = .ok (.getfield 66, 3) := by decide +kernel
theorem dX11_goes_4 : decode cX11_goes 4 = .ok (.aload_n 0, 1) := by decide +kernel
theorem dX11_goes_5 : decode cX11_goes 5 = .ok (.getfield 7, 3) := by decide +kernel
theorem dX11_goes_8 : decode cX11_goes 8 = .ok (.aaload, 1) := by decide +kernel
theorem dX11_goes_9 : decode cX11_goes 9 = .ok (.astore_n 1, 1) := by decide +kernel
theorem dX11_goes_10 : decode cX11_goes 10 = .ok (.aload_n 0, 1) := by decide +kernel
theorem dX11_goes_11 : decode cX11_goes 11 = .ok (.dup, 1) := by decide +kernel
theorem dX11_goes_12 : decode cX11_goes 12 = .ok (.getfield 108, 3) := by decide +kernel
theorem dX11_goes_15 : decode cX11_goes 15 = .ok (.iconst 1, 1) := by decide +kernel
theorem dX11_goes_16 : decode cX11_goes 16 = .ok (.iadd, 1) := by decide +kernel
theorem dX11_goes_17 : decode cX11_goes 17 = .ok (.putfield 108, 3) := by decide +kernel
theorem dX11_goes_20 : decode cX11_goes 20 = .ok (.aload_n 0, 1) := by decide +kernel
theorem dX11_goes_21 : decode cX11_goes 21 = .ok (.getfield 108, 3) := by decide +kernel
theorem dX11_goes_24 : decode cX11_goes 24 = .ok (.aload_n 1, 1) := by decide +kernel
theorem dX11_goes_25 : decode cX11_goes 25 = .ok (.getfield 76, 3) := by decide +kernel
theorem dX11_goes_28 : decode cX11_goes 28 = .ok (.iconst 2, 1) := by decide +kernel
theorem dX11_goes_29 : decode cX11_goes 29 = .ok (.iaload, 1) := by decide +kernel
theorem dX11_goes_30 : decode cX11_goes 30 = .ok (.if_icmp .ne 69, 3) := by decide +kernel
theorem dX11_goes_33 : decode cX11_goes 33 = .ok (.aload_n 0, 1) := by decide +kernel
theorem dX11_goes_34 : decode cX11_goes 34 = .ok (.getfield 13, 3) := by decide +kernel
theorem dX11_goes_37 : decode cX11_goes 37 = .ok (.bipush 15, 2) := by decide +kernel
theorem dX11_goes_39 : decode cX11_goes 39 = .ok (.dup2, 1) := by decide +kernel
theorem dX11_goes_40 : decode cX11_goes 40 = .ok (.iaload, 1) := by decide +kernel
theorem dX11_goes_41 : decode cX11_goes 41 = .ok (.iconst 1, 1) := by decide +kernel
theorem dX11_goes_42 : decode cX11_goes 42 = .ok (.iadd, 1) := by decide +kernel
theorem dX11_goes_43 : decode cX11_goes 43 = .ok (.iastore, 1) := by decide +kernel
theorem dX11_goes_44 : decode cX11_goes 44 = .ok (.aload_n 1, 1) := by decide +kernel
theorem dX11_goes_45 : decode cX11_goes 45 = .ok (.dup, 1) := by decide +kernel
theorem dX11_goes_46 : decode cX11_goes 46 = .ok (.getfield 156, 3) := by decide +kernel
theorem dX11_goes_49 : decode cX11_goes 49 = .ok (.iconst 1, 1) := by decide +kernel
theorem dX11_goes_50 : decode cX11_goes 50 = .ok (.iadd, 1) := by decide +kernel
theorem dX11_goes_51 : decode cX11_goes 51 = .ok (.putfield 156, 3) := by decide +kernel
theorem dX11_goes_54 : decode cX11_goes 54 = .ok (.aload_n 1, 1) := by decide +kernel
theorem dX11_goes_55 : decode cX11_goes 55 = .ok (.getfield 93, 3) := by decide +kernel
theorem dX11_goes_58 : decode cX11_goes 58 = .ok (.ifCond .eq 32, 3) := by decide +kernel
theorem dX11_goes_61 : decode cX11_goes 61 = .ok (.aload_n 1, 1) := by decide +kernel
theorem dX11_goes_62 : decode cX11_goes 62 = .ok (.getfield 156, 3) := by decide +kernel
theorem dX11_goes_65 : decode cX11_goes 65 = .ok (.aload_n 0, 1) := by decide +kernel
theorem dX11_goes_66 : decode cX11_goes 66 = .ok (.getfield 37, 3) := by decide +kernel
theorem dX11_goes_69 : decode cX11_goes 69 = .ok (.if_icmp .lt 21, 3) := by decide +kernel
theorem dX11_goes_72 : decode cX11_goes 72 = .ok (.aload_n 1, 1) := by decide +kernel
theorem dX11_goes_73 : decode cX11_goes 73 = .ok (.iconst 0, 1) := by decide +kernel
theorem dX11_goes_74 : decode cX11_goes 74 = .ok (.putfield 93, 3) := by decide +kernel
theorem dX11_goes_77 : decode cX11_goes 77 = .ok (.aload_n 1, 1) := by decide +kernel
theorem dX11_goes_78 : decode cX11_goes 78 = .ok (.aload_n 0, 1) := by decide +kernel
theorem dX11_goes_79 : decode cX11_goes 79 = .ok (.getfield 40, 3) := by decide +kernel
theorem dX11_goes_82 : decode cX11_goes 82 = .ok (.putfield 82, 3) := by decide +kernel
theorem dX11_goes_85 : decode cX11_goes 85 = .ok (.aload_n 1, 1) := by decide +kernel
theorem dX11_goes_86 : decode cX11_goes 86 = .ok (.iconst 0, 1) := by decide +kernel
theorem dX11_goes_87 : decode cX11_goes 87 = .ok (.putfield 156, 3) := by decide +kernel
theorem dX11_goes_90 : decode cX11_goes 90 = .ok (.aload_n 0, 1) := by decide +kernel
theorem dX11_goes_91 : decode cX11_goes 91 = .ok (.iconst 2, 1) := by decide +kernel
theorem dX11_goes_92 : decode cX11_goes 92 = .ok (.invokevirtual 159, 3) := by decide +kernel
theorem dX11_goes_95 : decode cX11_goes 95 = .ok (.istore_n 2, 1) := by decide +kernel
theorem dX11_goes_96 : decode cX11_goes 96 = .ok (.goto 109, 3) := by decide +kernel
theorem dX11_goes_99 : decode cX11_goes 99 = .ok (.aload_n 0, 1) := by decide +kernel
theorem dX11_goes_100 : decode cX11_goes 100 = .ok (.getfield 108, 3) := by decide +kernel
theorem dX11_goes_103 : decode cX11_goes 103 = .ok (.aload_n 1, 1) := by decide +kernel
theorem dX11_goes_104 : decode cX11_goes 104 = .ok (.getfield 76, 3) := by decide +kernel
theorem dX11_goes_107 : decode cX11_goes 107 = .ok (.iconst 1, 1) := by decide +kernel
theorem dX11_goes_108 : decode cX11_goes 108 = .ok (.iaload, 1) := by decide +kernel
theorem dX11_goes_109 : decode cX11_goes 109 = .ok (.if_icmp .ne 61, 3) := by decide +kernel
theorem dX11_goes_112 : decode cX11_goes 112 = .ok (.aload_n 1, 1) := by decide +kernel
theorem dX11_goes_113 : decode cX11_goes 113 = .ok (.getfield 93, 3) := by decide +kernel
theorem dX11_goes_116 : decode cX11_goes 116 = .ok (.ifCond .ne 29, 3) := by decide +kernel
theorem dX11_goes_119 : decode cX11_goes 119 = .ok (.aload_n 1, 1) := by decide +kernel
theorem dX11_goes_120 : decode cX11_goes 120 = .ok (.iconst 0, 1) := by decide +kernel
theorem dX11_goes_121 : decode cX11_goes 121 = .ok (.putfield 82, 3) := by decide +kernel
theorem dX11_goes_124 : decode cX11_goes 124 = .ok (.aload_n 1, 1) := by decide +kernel
theorem dX11_goes_125 : decode cX11_goes 125 = .ok (.dup, 1) := by decide +kernel
theorem dX11_goes_126 : decode cX11_goes 126 = .ok (.getfield 162, 3) := by decide +kernel
theorem dX11_goes_129 : decode cX11_goes 129 = .ok (.iconst 1, 1) := by decide +kernel
theorem dX11_goes_130 : decode cX11_goes 130 = .ok (.iadd, 1) := by decide +kernel
theorem dX11_goes_131 : decode cX11_goes 131 = .ok (.putfield 162, 3) := by decide +kernel
theorem dX11_goes_134 : decode cX11_goes 134 = .ok (.aload_n 0, 1) := by decide +kernel
theorem dX11_goes_135 : decode cX11_goes 135 = .ok (.getfield 13, 3) := by decide +kernel
theorem dX11_goes_138 : decode cX11_goes 138 = .ok (.bipush 17, 2) := by decide +kernel
theorem dX11_goes_140 : decode cX11_goes 140 = .ok (.dup2, 1) := by decide +kernel
theorem dX11_goes_141 : decode cX11_goes 141 = .ok (.iaload, 1) := by decide +kernel
theorem dX11_goes_142 : decode cX11_goes 142 = .ok (.iconst 1, 1) := by decide +kernel
theorem dX11_goes_143 : decode cX11_goes 143 = .ok (.iadd, 1) := by decide +kernel
theorem dX11_goes_144 : decode cX11_goes 144 = .ok (.iastore, 1) := by decide +kernel
theorem dX11_goes_145 : decode cX11_goes 145 = .ok (.aload_n 1, 1) := by decide +kernel
theorem dX11_goes_146 : decode cX11_goes 146 = .ok (.iconst 1, 1) := by decide +kernel
theorem dX11_goes_147 : decode cX11_goes 147 = .ok (.putfield 93, 3) := by decide +kernel
theorem dX11_goes_150 : decode cX11_goes 150 = .ok (.aload_n 1, 1) := by decide +kernel
theorem dX11_goes_151 : decode cX11_goes 151 = .ok (.iconst 0, 1) := by decide +kernel
theorem dX11_goes_152 : decode cX11_goes 152 = .ok (.putfield 156, 3) := by decide +kernel
theorem dX11_goes_155 : decode cX11_goes 155 = .ok (.aload_n 0, 1) := by decide +kernel
theorem dX11_goes_156 : decode cX11_goes 156 = .ok (.aload_n 0, 1) := by decide +kernel
theorem dX11_goes_157 : decode cX11_goes 157 = .ok (.aload_n 0, 1) := by decide +kernel
theorem dX11_goes_158 : decode cX11_goes 158 = .ok (.getfield 7, 3) := by decide +kernel
theorem dX11_goes_161 : decode cX11_goes 161 = .ok (.invokevirtual 165, 3) := by decide +kernel
theorem dX11_goes_164 : decode cX11_goes 164 = .ok (.putfield 43, 3) := by decide +kernel
theorem dX11_goes_167 : decode cX11_goes 167 = .ok (.goto 38, 3) := by decide +kernel
theorem dX11_goes_170 : decode cX11_goes 170 = .ok (.aload_n 0, 1) := by decide +kernel
theorem dX11_goes_171 : decode cX11_goes 171 = .ok (.getfield 108, 3) := by decide +kernel
theorem dX11_goes_174 : decode cX11_goes 174 = .ok (.aload_n 0, 1) := by decide +kernel
theorem dX11_goes_175 : decode cX11_goes 175 = .ok (.getfield 34, 3) := by decide +kernel
theorem dX11_goes_178 : decode cX11_goes 178 = .ok (.if_icmp .ne 27, 3) := by decide +kernel
theorem dX11_goes_181 : decode cX11_goes 181 = .ok (.aload_n 1, 1) := by decide +kernel
theorem dX11_goes_182 : decode cX11_goes 182 = .ok (.getfield 93, 3) := by decide +kernel
theorem dX11_goes_185 : decode cX11_goes 185 = .ok (.ifCond .ne 20, 3) := by decide +kernel
theorem dX11_goes_188 : decode cX11_goes 188 = .ok (.aload_n 0, 1) := by decide +kernel
theorem dX11_goes_189 : decode cX11_goes 189 = .ok (.getfield 13, 3) := by decide +kernel
theorem dX11_goes_192 : decode cX11_goes 192 = .ok (.bipush 16, 2) := by decide +kernel
theorem dX11_goes_194 : decode cX11_goes 194 = .ok (.dup2, 1) := by decide +kernel
theorem dX11_goes_195 : decode cX11_goes 195 = .ok (.iaload, 1) := by decide +kernel
theorem dX11_goes_196 : decode cX11_goes 196 = .ok (.iconst 1, 1) := by decide +kernel
theorem dX11_goes_197 : decode cX11_goes 197 = .ok (.iadd, 1) := by decide +kernel
theorem dX11_goes_198 : decode cX11_goes 198 = .ok (.iastore, 1) := by decide +kernel
theorem dX11_goes_199 : decode cX11_goes 199 = .ok (.aload_n 0, 1) := by decide +kernel
theorem dX11_goes_200 : decode cX11_goes 200 = .ok (.iconst 3, 1) := by decide +kernel
theorem dX11_goes_201 : decode cX11_goes 201 = .ok (.invokevirtual 159, 3) := by decide +kernel
theorem dX11_goes_204 : decode cX11_goes 204 = .ok (.istore_n 2, 1) := by decide +kernel
theorem dX11_goes_205 : decode cX11_goes 205 = .ok (.return_, 1) := by decide +kernel
theorem dX11_comes_0 : decode cX11_comes 0 = .ok (.iconst 0, 1) := by decide +kernel
theorem dX11_comes_1 : decode cX11_comes 1 = .ok (.istore 4, 2) := by decide +kernel
theorem dX11_comes_3 : decode cX11_comes 3 = .ok (.iconst 0, 1) := by decide +kernel
theorem dX11_comes_4 : decode cX11_comes 4 = .ok (.istore 5, 2) := by decide +kernel
theorem dX11_comes_6 : decode cX11_comes 6 = .ok (.iload 5, 2) := by decide +kernel
theorem dX11_comes_8 : decode cX11_comes 8 = .ok (.aload_n 0, 1) := by decide +kernel
theorem dX11_comes_9 : decode cX11_comes 9 = .ok (.getfield 66, 3) := by decide +kernel
theorem dX11_comes_12 : decode cX11_comes 12 = .ok (.arraylength, 1) := by decide +kernel
theorem dX11_comes_13 : decode cX11_comes 13 = .ok (.if_icmp .ge 36, 3) := by decide +kernel
theorem dX11_comes_16 : decode cX11_comes 16 = .ok (.iload 4, 2) := by decide +kernel
theorem dX11_comes_18 : decode cX11_comes 18 = .ok (.iload 5, 2) := by decide +kernel
theorem dX11_comes_20 : decode cX11_comes 20 = .ok (.iload_n 1, 1) := by decide +kernel
theorem dX11_comes_21 : decode cX11_comes 21 = .ok (.if_icmp .ne 7, 3) := by decide +kernel
theorem dX11_comes_24 : decode cX11_comes 24 = .ok (.iconst 0, 1) := by decide +kernel
theorem dX11_comes_25 : decode cX11_comes 25 = .ok (.goto 13, 3) := by decide +kernel
theorem dX11_comes_28 : decode cX11_comes 28 = .ok (.aload_n 0, 1) := by decide +kernel
theorem dX11_comes_29 : decode cX11_comes 29 = .ok (.getfield 66, 3) := by decide +kernel
theorem dX11_comes_32 : decode cX11_comes 32 = .ok (.iload 5, 2) := by decide +kernel
theorem dX11_comes_34 : decode cX11_comes 34 = .ok (.aaload, 1) := by decide +kernel
theorem dX11_comes_35 : decode cX11_comes 35 = .ok (.getfield 79, 3) := by decide +kernel
theorem dX11_comes_38 : decode cX11_comes 38 = .ok (.invokestatic 153, 3) := by decide +kernel
theorem dX11_comes_41 : decode cX11_comes 41 = .ok (.istore 4, 2) := by decide +kernel
theorem dX11_comes_43 : decode cX11_comes 43 = .ok (.iinc 5 1, 3) := by decide +kernel
theorem dX11_comes_46 : decode cX11_comes 46 = .ok (.goto (-40), 3) := by decide +kernel
theorem dX11_comes_49 : decode cX11_comes 49 = .ok (.iconst 0, 1) := by decide +kernel
theorem dX11_comes_50 : decode cX11_comes 50 = .ok (.istore 5, 2) := by decide +kernel
theorem dX11_comes_52 : decode cX11_comes 52 = .ok (.iload 5, 2) := by decide +kernel
theorem dX11_comes_54 : decode cX11_comes 54 = .ok (.aload_n 0, 1) := by decide +kernel
theorem dX11_comes_55 : decode cX11_comes 55 = .ok (.getfield 66, 3) := by decide +kernel
theorem dX11_comes_58 : decode cX11_comes 58 = .ok (.arraylength, 1) := by decide +kernel
theorem dX11_comes_59 : decode cX11_comes 59 = .ok (.if_icmp .ge 52, 3) := by decide +kernel
theorem dX11_comes_62 : decode cX11_comes 62 = .ok (.iload 4, 2) := by decide +kernel
theorem dX11_comes_64 : decode cX11_comes 64 = .ok (.bipush 15, 2) := by decide +kernel
theorem dX11_comes_66 : decode cX11_comes 66 = .ok (.if_icmp .ne 45, 3) := by decide +kernel
theorem dX11_comes_69 : decode cX11_comes 69 = .ok (.iload 5, 2) := by decide +kernel
theorem dX11_comes_71 : decode cX11_comes 71 = .ok (.iload_n 1, 1) := by decide +kernel
theorem dX11_comes_72 : decode cX11_comes 72 = .ok (.if_icmp .eq 33, 3) := by decide +kernel
theorem dX11_comes_75 : decode cX11_comes 75 = .ok (.aload_n 0, 1) := by decide +kernel
theorem dX11_comes_76 : decode cX11_comes 76 = .ok (.getfield 66, 3) := by decide +kernel
theorem dX11_comes_79 : decode cX11_comes 79 = .ok (.iload 5, 2) := by decide +kernel
theorem dX11_comes_81 : decode cX11_comes 81 = .ok (.aaload, 1) := by decide +kernel
theorem dX11_comes_82 : decode cX11_comes 82 = .ok (.getfield 79, 3) := by decide +kernel
theorem dX11_comes_85 : decode cX11_comes 85 = .ok (.iconst 1, 1) := by decide +kernel
theorem dX11_comes_86 : decode cX11_comes 86 = .ok (.if_icmp .le 19, 3) := by decide +kernel
theorem dX11_comes_89 : decode cX11_comes 89 = .ok (.aload_n 0, 1) := by decide +kernel
theorem dX11_comes_90 : decode cX11_comes 90 = .ok (.getfield 66, 3) := by decide +kernel
theorem dX11_comes_93 : decode cX11_comes 93 = .ok (.iload 5, 2) := by decide +kernel
theorem dX11_comes_95 : decode cX11_comes 95 = .ok (.aaload, 1) := by decide +kernel
theorem dX11_comes_96 : decode cX11_comes 96 = .ok (.dup, 1) := by decide +kernel
theorem dX11_comes_97 : decode cX11_comes 97 = .ok (.getfield 79, 3) := by decide +kernel
theorem dX11_comes_100 : decode cX11_comes 100 = .ok (.iconst 1, 1) := by decide +kernel
theorem dX11_comes_101 : decode cX11_comes 101 = .ok (.isub, 1) := by decide +kernel
theorem dX11_comes_102 : decode cX11_comes 102 = .ok (.putfield 79, 3) := by decide +kernel
theorem dX11_comes_105 : decode cX11_comes 105 = .ok (.iinc 5 1, 3) := by decide +kernel
theorem dX11_comes_108 : decode cX11_comes 108 = .ok (.goto (-56), 3) := by decide +kernel
theorem dX11_comes_111 : decode cX11_comes 111 = .ok (.aload_n 0, 1) := by decide +kernel
theorem dX11_comes_112 : decode cX11_comes 112 = .ok (.getfield 66, 3) := by decide +kernel
theorem dX11_comes_115 : decode cX11_comes 115 = .ok (.iload_n 1, 1) := by decide +kernel
theorem dX11_comes_116 : decode cX11_comes 116 = .ok (.aaload, 1) := by decide +kernel
theorem dX11_comes_117 : decode cX11_comes 117 = .ok (.astore 5, 2) := by decide +kernel
theorem dX11_comes_119 : decode cX11_comes 119 = .ok (.aload 5, 2) := by decide +kernel
theorem dX11_comes_121 : decode cX11_comes 121 = .ok (.invokevirtual 168, 3) := by decide +kernel
theorem dX11_comes_124 : decode cX11_comes 124 = .ok (.aload 5, 2) := by decide +kernel
theorem dX11_comes_126 : decode cX11_comes 126 = .ok (.aload_n 2, 1) := by decide +kernel
theorem dX11_comes_127 : decode cX11_comes 127 = .ok (.invokevirtual 111, 3) := by decide +kernel
theorem dX11_comes_130 : decode cX11_comes 130 = .ok (.checkcast 23, 3) := by decide +kernel
theorem dX11_comes_133 : decode cX11_comes 133 = .ok (.putfield 76, 3) := by decide +kernel
theorem dX11_comes_136 : decode cX11_comes 136 = .ok (.aload 5, 2) := by decide +kernel
theorem dX11_comes_138 : decode cX11_comes 138 = .ok (.iload 4, 2) := by decide +kernel
theorem dX11_comes_140 : decode cX11_comes 140 = .ok (.bipush 15, 2) := by decide +kernel
theorem dX11_comes_142 : decode cX11_comes 142 = .ok (.if_icmp .ne 8, 3) := by decide +kernel
theorem dX11_comes_145 : decode cX11_comes 145 = .ok (.bipush 15, 2) := by decide +kernel
theorem dX11_comes_147 : decode cX11_comes 147 = .ok (.goto 7, 3) := by decide +kernel
theorem dX11_comes_150 : decode cX11_comes 150 = .ok (.iload 4, 2) := by decide +kernel
theorem dX11_comes_152 : decode cX11_comes 152 = .ok (.iconst 1, 1) := by decide +kernel
theorem dX11_comes_153 : decode cX11_comes 153 = .ok (.iadd, 1) := by decide +kernel
theorem dX11_comes_154 : decode cX11_comes 154 = .ok (.putfield 79, 3) := by decide +kernel
theorem dX11_comes_157 : decode cX11_comes 157 = .ok (.aload 5, 2) := by decide +kernel
theorem dX11_comes_159 : decode cX11_comes 159 = .ok (.iload_n 3, 1) := by decide +kernel
theorem dX11_comes_160 : decode cX11_comes 160 = .ok (.putfield 82, 3) := by decide +kernel
theorem dX11_comes_163 : decode cX11_comes 163 = .ok (.return_, 1) := by decide +kernel
theorem dX11_tick_0 : decode cX11_tick 0 = .ok (.aload_n 0, 1) := by decide +kernel
theorem dX11_tick_1 : decode cX11_tick 1 = .ok (.dup, 1) := by decide +kernel
theorem dX11_tick_2 : decode cX11_tick 2 = .ok (.getfield 102, 3) := by decide +kernel
theorem dX11_tick_5 : decode cX11_tick 5 = .ok (.iconst 1, 1) := by decide +kernel
theorem dX11_tick_6 : decode cX11_tick 6 = .ok (.iadd, 1) := by decide +kernel
theorem dX11_tick_7 : decode cX11_tick 7 = .ok (.putfield 102, 3) := by decide +kernel
theorem dX11_tick_10 : decode cX11_tick 10 = .ok (.aload_n 0, 1) := by decide +kernel
theorem dX11_tick_11 : decode cX11_tick 11 = .ok (.getfield 13, 3) := by decide +kernel
theorem dX11_tick_14 : decode cX11_tick 14 = .ok (.bipush 18, 2) := by decide +kernel
theorem dX11_tick_16 : decode cX11_tick 16 = .ok (.dup2, 1) := by decide +kernel
theorem dX11_tick_17 : decode cX11_tick 17 = .ok (.iaload, 1) := by decide +kernel
theorem dX11_tick_18 : decode cX11_tick 18 = .ok (.aload_n 0, 1) := by decide +kernel
theorem dX11_tick_19 : decode cX11_tick 19 = .ok (.getfield 105, 3) := by decide +kernel
theorem dX11_tick_22 : decode cX11_tick 22 = .ok (.iconst 2, 1) := by decide +kernel
theorem dX11_tick_23 : decode cX11_tick 23 = .ok (.if_icmp .ne 7, 3) := by decide +kernel
theorem dX11_tick_26 : decode cX11_tick 26 = .ok (.iconst 1, 1) := by decide +kernel
theorem dX11_tick_27 : decode cX11_tick 27 = .ok (.goto 4, 3) := by decide +kernel
theorem dX11_tick_30 : decode cX11_tick 30 = .ok (.iconst 0, 1) := by decide +kernel
theorem dX11_tick_31 : decode cX11_tick 31 = .ok (.iadd, 1) := by decide +kernel
theorem dX11_tick_32 : decode cX11_tick 32 = .ok (.iastore, 1) := by decide +kernel
theorem dX11_tick_33 : decode cX11_tick 33 = .ok (.aload_n 0, 1) := by decide +kernel
theorem dX11_tick_34 : decode cX11_tick 34 = .ok (.getfield 105, 3) := by decide +kernel
theorem dX11_tick_37 : decode cX11_tick 37 = .ok (.iconst 1, 1) := by decide +kernel
theorem dX11_tick_38 : decode cX11_tick 38 = .ok (.if_icmp .ne 7, 3) := by decide +kernel
theorem dX11_tick_41 : decode cX11_tick 41 = .ok (.aload_n 0, 1) := by decide +kernel
theorem dX11_tick_42 : decode cX11_tick 42 = .ok (.invokevirtual 171, 3) := by decide +kernel
theorem dX11_tick_45 : decode cX11_tick 45 = .ok (.aload_n 0, 1) := by decide +kernel
theorem dX11_tick_46 : decode cX11_tick 46 = .ok (.getfield 105, 3) := by decide +kernel
theorem dX11_tick_49 : decode cX11_tick 49 = .ok (.ifCond .eq 10, 3) := by decide +kernel
theorem dX11_tick_52 : decode cX11_tick 52 = .ok (.aload_n 0, 1) := by decide +kernel
theorem dX11_tick_53 : decode cX11_tick 53 = .ok (.getfield 17, 3) := by decide +kernel
theorem dX11_tick_56 : decode cX11_tick 56 = .ok (.ifCond .ge 5, 3) := by decide +kernel
theorem dX11_tick_59 : decode cX11_tick 59 = .ok (.aload_n 0, 1) := by decide +kernel
theorem dX11_tick_60 : decode cX11_tick 60 = .ok (.areturn, 1) := by decide +kernel
theorem dX11_tick_61 : decode cX11_tick 61 = .ok (.aload_n 0, 1) := by decide +kernel
theorem dX11_tick_62 : decode cX11_tick 62 = .ok (.dup, 1) := by decide +kernel
theorem dX11_tick_63 : decode cX11_tick 63 = .ok (.getfield 119, 3) := by decide +kernel
theorem dX11_tick_66 : decode cX11_tick 66 = .ok (.iconst 1, 1) := by decide +kernel
theorem dX11_tick_67 : decode cX11_tick 67 = .ok (.isub, 1) := by decide +kernel
theorem dX11_tick_68 : decode cX11_tick 68 = .ok (.putfield 119, 3) := by decide +kernel
theorem dX11_tick_71 : decode cX11_tick 71 = .ok (.aload_n 0, 1) := by decide +kernel
theorem dX11_tick_72 : decode cX11_tick 72 = .ok (.getfield 119, 3) := by decide +kernel
theorem dX11_tick_75 : decode cX11_tick 75 = .ok (.ifCond .le 5, 3) := by decide +kernel
theorem dX11_tick_78 : decode cX11_tick 78 = .ok (.aload_n 0, 1) := by decide +kernel
theorem dX11_tick_79 : decode cX11_tick 79 = .ok (.areturn, 1) := by decide +kernel
theorem dX11_tick_80 : decode cX11_tick 80 = .ok (.aload_n 0, 1) := by decide +kernel
theorem dX11_tick_81 : decode cX11_tick 81 = .ok (.aload_n 0, 1) := by decide +kernel
theorem dX11_tick_82 : decode cX11_tick 82 = .ok (.getfield 17, 3) := by decide +kernel
theorem dX11_tick_85 : decode cX11_tick 85 = .ok (.aload_n 0, 1) := by decide +kernel
theorem dX11_tick_86 : decode cX11_tick 86 = .ok (.getfield 20, 3) := by decide +kernel
theorem dX11_tick_89 : decode cX11_tick 89 = .ok (.iconst 3, 1) := by decide +kernel
theorem dX11_tick_90 : decode cX11_tick 90 = .ok (.invokevirtual 174, 3) := by decide +kernel
theorem dX11_tick_93 : decode cX11_tick 93 = .ok (.aload_n 0, 1) := by decide +kernel
theorem dX11_tick_94 : decode cX11_tick 94 = .ok (.iconst (-1), 1) := by decide +kernel
theorem dX11_tick_95 : decode cX11_tick 95 = .ok (.putfield 17, 3) := by decide +kernel
theorem dX11_tick_98 : decode cX11_tick 98 = .ok (.aload_n 0, 1) := by decide +kernel
theorem dX11_tick_99 : decode cX11_tick 99 = .ok (.getfield 13, 3) := by decide +kernel
theorem dX11_tick_102 : decode cX11_tick 102 = .ok (.bipush 19, 2) := by decide +kernel
theorem dX11_tick_104 : decode cX11_tick 104 = .ok (.dup2, 1) := by decide +kernel
theorem dX11_tick_105 : decode cX11_tick 105 = .ok (.iaload, 1) := by decide +kernel
theorem dX11_tick_106 : decode cX11_tick 106 = .ok (.iconst 1, 1) := by decide +kernel
theorem dX11_tick_107 : decode cX11_tick 107 = .ok (.iadd, 1) := by decide +kernel
theorem dX11_tick_108 : decode cX11_tick 108 = .ok (.iastore, 1) := by decide +kernel
theorem dX11_tick_109 : decode cX11_tick 109 = .ok (.aload_n 0, 1) := by decide +kernel
theorem dX11_tick_110 : decode cX11_tick 110 = .ok (.getfield 105, 3) := by decide +kernel
theorem dX11_tick_113 : decode cX11_tick 113 = .ok (.iconst 2, 1) := by decide +kernel
theorem dX11_tick_114 : decode cX11_tick 114 = .ok (.if_icmp .ne 9, 3) := by decide +kernel
theorem dX11_tick_117 : decode cX11_tick 117 = .ok (.aload_n 0, 1) := by decide +kernel
theorem dX11_tick_118 : decode cX11_tick 118 = .ok (.iconst 4, 1) := by decide +kernel
theorem dX11_tick_119 : decode cX11_tick 119 = .ok (.invokevirtual 159, 3) := by decide +kernel
theorem dX11_tick_122 : decode cX11_tick 122 = .ok (.istore_n 1, 1) := by decide +kernel
theorem dX11_tick_123 : decode cX11_tick 123 = .ok (.aload_n 0, 1) := by decide +kernel
theorem dX11_tick_124 : decode cX11_tick 124 = .ok (.areturn, 1) := by decide +kernel
theorem dX11_ticks_0 : decode cX11_ticks 0 = .ok (.iconst 0, 1) := by decide +kernel
theorem dX11_ticks_1 : decode cX11_ticks 1 = .ok (.istore_n 2, 1) := by decide +kernel
theorem dX11_ticks_2 : decode cX11_ticks 2 = .ok (.iload_n 2, 1) := by decide +kernel
theorem dX11_ticks_3 : decode cX11_ticks 3 = .ok (.iload_n 1, 1) := by decide +kernel
theorem dX11_ticks_4 : decode cX11_ticks 4 = .ok (.if_icmp .ge 14, 3) := by decide +kernel
theorem dX11_ticks_7 : decode cX11_ticks 7 = .ok (.aload_n 0, 1) := by decide +kernel
theorem dX11_ticks_8 : decode cX11_ticks 8 = .ok (.invokevirtual 178, 3) := by decide +kernel
theorem dX11_ticks_11 : decode cX11_ticks 11 = .ok (.pop, 1) := by decide +kernel
theorem dX11_ticks_12 : decode cX11_ticks 12 = .ok (.iinc 2 1, 3) := by decide +kernel
theorem dX11_ticks_15 : decode cX11_ticks 15 = .ok (.goto (-13), 3) := by decide +kernel
theorem dX11_ticks_18 : decode cX11_ticks 18 = .ok (.aload_n 0, 1) := by decide +kernel
theorem dX11_ticks_19 : decode cX11_ticks 19 = .ok (.areturn, 1) := by decide +kernel
