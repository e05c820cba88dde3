theorem dL_feeds_0 : decode cL_feeds 0 = .ok (.iconst 0, 1) := by decide +kernel
theorem dL_feeds_1 : decode cL_feeds 1 = .ok (.istore_n 2, 1) := by decide +kernel
theorem dL_feeds_2 : decode cL_feeds 2 = .ok (.iload_n 2, 1) := by decide +kernel
theorem dL_feeds_3 : decode cL_feeds 3 = .ok (.aload_n 1, 1) := by decide +kernel
theorem dL_feeds_4 : decode cL_feeds 4 = .ok (.invokevirtual 7, 3) := by decide +kernel
theorem dL_feeds_7 : decode cL_feeds 7 = .ok (.if_icmp .ge 93, 3) := by decide +kernel
theorem dL_feeds_10 : decode cL_feeds 10 = .ok (.iconst 5, 1) := by decide +kernel
theorem dL_feeds_11 : decode cL_feeds 11 = .ok (.newarray .int, 2) := by decide +kernel
theorem dL_feeds_13 : decode cL_feeds 13 = .ok (.astore_n 3, 1) := by decide +kernel
theorem dL_feeds_14 : decode cL_feeds 14 = .ok (.iconst 0, 1) := by decide +kernel
theorem dL_feeds_15 : decode cL_feeds 15 = .ok (.istore 4, 2) := by decide +kernel
theorem dL_feeds_17 : decode cL_feeds 17 = .ok (.iload 4, 2) := by decide +kernel
theorem dL_feeds_19 : decode cL_feeds 19 = .ok (.bipush 20, 2) := by decide +kernel
theorem dL_feeds_21 : decode cL_feeds 21 = .ok (.if_icmp .ge 49, 3) := by decide +kernel
theorem dL_feeds_24 : decode cL_feeds 24 = .ok (.aload_n 3, 1) := by decide +kernel
theorem dL_feeds_25 : decode cL_feeds 25 = .ok (.iload 4, 2) := by decide +kernel
theorem dL_feeds_27 : decode cL_feeds 27 = .ok (.iconst 4, 1) := by decide +kernel
theorem dL_feeds_28 : decode cL_feeds 28 = .ok (.idiv, 1) := by decide +kernel
theorem dL_feeds_29 : decode cL_feeds 29 = .ok (.aload_n 3, 1) := by decide +kernel
theorem dL_feeds_30 : decode cL_feeds 30 = .ok (.iload 4, 2) := by decide +kernel
theorem dL_feeds_32 : decode cL_feeds 32 = .ok (.iconst 4, 1) := by decide +kernel
theorem dL_feeds_33 : decode cL_feeds 33 = .ok (.idiv, 1) := by decide +kernel
theorem dL_feeds_34 : decode cL_feeds 34 = .ok (.iaload, 1) := by decide +kernel
theorem dL_feeds_35 : decode cL_feeds 35 = .ok (.bipush 8, 2) := by decide +kernel
theorem dL_feeds_37 : decode cL_feeds 37 = .ok (.ishl, 1) := by decide +kernel
theorem dL_feeds_38 : decode cL_feeds 38 = .ok (.iload_n 2, 1) := by decide +kernel
theorem dL_feeds_39 : decode cL_feeds 39 = .ok (.iload 4, 2) := by decide +kernel
theorem dL_feeds_41 : decode cL_feeds 41 = .ok (.iadd, 1) := by decide +kernel
theorem dL_feeds_42 : decode cL_feeds 42 = .ok (.aload_n 1, 1) := by decide +kernel
theorem dL_feeds_43 : decode cL_feeds 43 = .ok (.invokevirtual 7, 3) := by decide +kernel
theorem dL_feeds_46 : decode cL_feeds 46 = .ok (.if_icmp .ge 14, 3) := by decide +kernel
theorem dL_feeds_49 : decode cL_feeds 49 = .ok (.aload_n 1, 1) := by decide +kernel
theorem dL_feeds_50 : decode cL_feeds 50 = .ok (.iload_n 2, 1) := by decide +kernel
theorem dL_feeds_51 : decode cL_feeds 51 = .ok (.iload 4, 2) := by decide +kernel
theorem dL_feeds_53 : decode cL_feeds 53 = .ok (.iadd, 1) := by decide +kernel
theorem dL_feeds_54 : decode cL_feeds 54 = .ok (.invokevirtual 13, 3) := by decide +kernel
theorem dL_feeds_57 : decode cL_feeds 57 = .ok (.goto 5, 3) := by decide +kernel
theorem dL_feeds_60 : decode cL_feeds 60 = .ok (.bipush 32, 2) := by decide +kernel
theorem dL_feeds_62 : decode cL_feeds 62 = .ok (.ior, 1) := by decide +kernel
theorem dL_feeds_63 : decode cL_feeds 63 = .ok (.iastore, 1) := by decide +kernel
theorem dL_feeds_64 : decode cL_feeds 64 = .ok (.iinc 4 1, 3) := by decide +kernel
theorem dL_feeds_67 : decode cL_feeds 67 = .ok (.goto (-50), 3) := by decide +kernel
theorem dL_feeds_70 : decode cL_feeds 70 = .ok (.aload_n 0, 1) := by decide +kernel
theorem dL_feeds_71 : decode cL_feeds 71 = .ok (.aload_n 3, 1) := by decide +kernel
theorem dL_feeds_72 : decode cL_feeds 72 = .ok (.iconst 0, 1) := by decide +kernel
theorem dL_feeds_73 : decode cL_feeds 73 = .ok (.iaload, 1) := by decide +kernel
theorem dL_feeds_74 : decode cL_feeds 74 = .ok (.aload_n 3, 1) := by decide +kernel
theorem dL_feeds_75 : decode cL_feeds 75 = .ok (.iconst 1, 1) := by decide +kernel
theorem dL_feeds_76 : decode cL_feeds 76 = .ok (.iaload, 1) := by decide +kernel
theorem dL_feeds_77 : decode cL_feeds 77 = .ok (.aload_n 3, 1) := by decide +kernel
theorem dL_feeds_78 : decode cL_feeds 78 = .ok (.iconst 2, 1) := by decide +kernel
theorem dL_feeds_79 : decode cL_feeds 79 = .ok (.iaload, 1) := by decide +kernel
theorem dL_feeds_80 : decode cL_feeds 80 = .ok (.aload_n 3, 1) := by decide +kernel
theorem dL_feeds_81 : decode cL_feeds 81 = .ok (.iconst 3, 1) := by decide +kernel
theorem dL_feeds_82 : decode cL_feeds 82 = .ok (.iaload, 1) := by decide +kernel
theorem dL_feeds_83 : decode cL_feeds 83 = .ok (.aload_n 3, 1) := by decide +kernel
theorem dL_feeds_84 : decode cL_feeds 84 = .ok (.iconst 4, 1) := by decide +kernel
theorem dL_feeds_85 : decode cL_feeds 85 = .ok (.iaload, 1) := by decide +kernel
theorem dL_feeds_86 : decode cL_feeds 86 = .ok (.invokevirtual 17, 3) := by decide +kernel
theorem dL_feeds_89 : decode cL_feeds 89 = .ok (.ifCond .ge 5, 3) := by decide +kernel
theorem dL_feeds_92 : decode cL_feeds 92 = .ok (.iconst 0, 1) := by decide +kernel
theorem dL_feeds_93 : decode cL_feeds 93 = .ok (.ireturn, 1) := by decide +kernel
theorem dL_feeds_94 : decode cL_feeds 94 = .ok (.iinc 2 20, 3) := by decide +kernel
theorem dL_feeds_97 : decode cL_feeds 97 = .ok (.goto (-95), 3) := by decide +kernel
theorem dL_feeds_100 : decode cL_feeds 100 = .ok (.iconst 1, 1) := by decide +kernel
theorem dL_feeds_101 : decode cL_feeds 101 = .ok (.ireturn, 1) := by decide +kernel
theorem dL_tell_0 : decode cL_tell 0 = .ok (.aload_n 0, 1) := by decide +kernel
theorem dL_tell_1 : decode cL_tell 1 = .ok (.aload_n 1, 1) := by decide +kernel
theorem dL_tell_2 : decode cL_tell 2 = .ok (.invokestatic 23, 3) := by decide +kernel
theorem dL_tell_5 : decode cL_tell 5 = .ok (.ifCond .eq 14, 3) := by decide +kernel
theorem dL_tell_8 : decode cL_tell 8 = .ok (.aload_n 0, 1) := by decide +kernel
theorem dL_tell_9 : decode cL_tell 9 = .ok (.aload_n 1, 1) := by decide +kernel
theorem dL_tell_10 : decode cL_tell 10 = .ok (.invokevirtual 7, 3) := by decide +kernel
theorem dL_tell_13 : decode cL_tell 13 = .ok (.invokevirtual 29, 3) := by decide +kernel
theorem dL_tell_16 : decode cL_tell 16 = .ok (.goto 5, 3) := by decide +kernel
theorem dL_tell_19 : decode cL_tell 19 = .ok (.bipush (-9), 2) := by decide +kernel
theorem dL_tell_21 : decode cL_tell 21 = .ok (.ireturn, 1) := by decide +kernel
theorem dL_calls_0 : decode cL_calls 0 = .ok (.iload_n 1, 1) := by decide +kernel
theorem dL_calls_1 : decode cL_calls 1 = .ok (.tableswitch 289 0 18 #[91, 100, 112, 124, 133, 145, 151, 157, 163, 172, 193, 205, 214, 229, 241, 250, 265, 271, 280], 91) := by decide +kernel
theorem dL_calls_92 : decode cL_calls 92 = .ok (.aload_n 0, 1) := by decide +kernel
theorem dL_calls_93 : decode cL_calls 93 = .ok (.aload_n 2, 1) := by decide +kernel
theorem dL_calls_94 : decode cL_calls 94 = .ok (.iconst 0, 1) := by decide +kernel
theorem dL_calls_95 : decode cL_calls 95 = .ok (.iaload, 1) := by decide +kernel
theorem dL_calls_96 : decode cL_calls 96 = .ok (.invokevirtual 33, 3) := by decide +kernel
theorem dL_calls_99 : decode cL_calls 99 = .ok (.i2l, 1) := by decide +kernel
theorem dL_calls_100 : decode cL_calls 100 = .ok (.lreturn, 1) := by decide +kernel
theorem dL_calls_101 : decode cL_calls 101 = .ok (.aload_n 0, 1) := by decide +kernel
theorem dL_calls_102 : decode cL_calls 102 = .ok (.aload_n 2, 1) := by decide +kernel
theorem dL_calls_103 : decode cL_calls 103 = .ok (.iconst 0, 1) := by decide +kernel
theorem dL_calls_104 : decode cL_calls 104 = .ok (.iaload, 1) := by decide +kernel
theorem dL_calls_105 : decode cL_calls 105 = .ok (.aload_n 2, 1) := by decide +kernel
theorem dL_calls_106 : decode cL_calls 106 = .ok (.iconst 1, 1) := by decide +kernel
theorem dL_calls_107 : decode cL_calls 107 = .ok (.iaload, 1) := by decide +kernel
theorem dL_calls_108 : decode cL_calls 108 = .ok (.invokevirtual 36, 3) := by decide +kernel
theorem dL_calls_111 : decode cL_calls 111 = .ok (.i2l, 1) := by decide +kernel
theorem dL_calls_112 : decode cL_calls 112 = .ok (.lreturn, 1) := by decide +kernel
theorem dL_calls_113 : decode cL_calls 113 = .ok (.aload_n 0, 1) := by decide +kernel
theorem dL_calls_114 : decode cL_calls 114 = .ok (.aload_n 2, 1) := by decide +kernel
theorem dL_calls_115 : decode cL_calls 115 = .ok (.iconst 0, 1) := by decide +kernel
theorem dL_calls_116 : decode cL_calls 116 = .ok (.iaload, 1) := by decide +kernel
theorem dL_calls_117 : decode cL_calls 117 = .ok (.aload_n 2, 1) := by decide +kernel
theorem dL_calls_118 : decode cL_calls 118 = .ok (.iconst 1, 1) := by decide +kernel
theorem dL_calls_119 : decode cL_calls 119 = .ok (.iaload, 1) := by decide +kernel
theorem dL_calls_120 : decode cL_calls 120 = .ok (.invokevirtual 40, 3) := by decide +kernel
theorem dL_calls_123 : decode cL_calls 123 = .ok (.i2l, 1) := by decide +kernel
theorem dL_calls_124 : decode cL_calls 124 = .ok (.lreturn, 1) := by decide +kernel
theorem dL_calls_125 : decode cL_calls 125 = .ok (.aload_n 0, 1) := by decide +kernel
theorem dL_calls_126 : decode cL_calls 126 = .ok (.aload_n 2, 1) := by decide +kernel
theorem dL_calls_127 : decode cL_calls 127 = .ok (.iconst 0, 1) := by decide +kernel
theorem dL_calls_128 : decode cL_calls 128 = .ok (.iaload, 1) := by decide +kernel
theorem dL_calls_129 : decode cL_calls 129 = .ok (.invokevirtual 43, 3) := by decide +kernel
theorem dL_calls_132 : decode cL_calls 132 = .ok (.i2l, 1) := by decide +kernel
theorem dL_calls_133 : decode cL_calls 133 = .ok (.lreturn, 1) := by decide +kernel
theorem dL_calls_134 : decode cL_calls 134 = .ok (.aload_n 0, 1) := by decide +kernel
theorem dL_calls_135 : decode cL_calls 135 = .ok (.aload_n 2, 1) := by decide +kernel
theorem dL_calls_136 : decode cL_calls 136 = .ok (.iconst 0, 1) := by decide +kernel
theorem dL_calls_137 : decode cL_calls 137 = .ok (.iaload, 1) := by decide +kernel
theorem dL_calls_138 : decode cL_calls 138 = .ok (.aload_n 2, 1) := by decide +kernel
theorem dL_calls_139 : decode cL_calls 139 = .ok (.iconst 1, 1) := by decide +kernel
theorem dL_calls_140 : decode cL_calls 140 = .ok (.iaload, 1) := by decide +kernel
theorem dL_calls_141 : decode cL_calls 141 = .ok (.invokevirtual 46, 3) := by decide +kernel
theorem dL_calls_144 : decode cL_calls 144 = .ok (.i2l, 1) := by decide +kernel
theorem dL_calls_145 : decode cL_calls 145 = .ok (.lreturn, 1) := by decide +kernel
theorem dL_calls_146 : decode cL_calls 146 = .ok (.aload_n 0, 1) := by decide +kernel
theorem dL_calls_147 : decode cL_calls 147 = .ok (.invokevirtual 49, 3) := by decide +kernel
theorem dL_calls_150 : decode cL_calls 150 = .ok (.i2l, 1) := by decide +kernel
theorem dL_calls_151 : decode cL_calls 151 = .ok (.lreturn, 1) := by decide +kernel
theorem dL_calls_152 : decode cL_calls 152 = .ok (.aload_n 0, 1) := by decide +kernel
theorem dL_calls_153 : decode cL_calls 153 = .ok (.invokevirtual 52, 3) := by decide +kernel
theorem dL_calls_156 : decode cL_calls 156 = .ok (.i2l, 1) := by decide +kernel
theorem dL_calls_157 : decode cL_calls 157 = .ok (.lreturn, 1) := by decide +kernel
theorem dL_calls_158 : decode cL_calls 158 = .ok (.aload_n 0, 1) := by decide +kernel
theorem dL_calls_159 : decode cL_calls 159 = .ok (.invokevirtual 55, 3) := by decide +kernel
theorem dL_calls_162 : decode cL_calls 162 = .ok (.i2l, 1) := by decide +kernel
theorem dL_calls_163 : decode cL_calls 163 = .ok (.lreturn, 1) := by decide +kernel
theorem dL_calls_164 : decode cL_calls 164 = .ok (.aload_n 0, 1) := by decide +kernel
theorem dL_calls_165 : decode cL_calls 165 = .ok (.aload_n 2, 1) := by decide +kernel
theorem dL_calls_166 : decode cL_calls 166 = .ok (.iconst 0, 1) := by decide +kernel
theorem dL_calls_167 : decode cL_calls 167 = .ok (.iaload, 1) := by decide +kernel
theorem dL_calls_168 : decode cL_calls 168 = .ok (.invokevirtual 58, 3) := by decide +kernel
theorem dL_calls_171 : decode cL_calls 171 = .ok (.i2l, 1) := by decide +kernel
theorem dL_calls_172 : decode cL_calls 172 = .ok (.lreturn, 1) := by decide +kernel
theorem dL_calls_173 : decode cL_calls 173 = .ok (.aload_n 0, 1) := by decide +kernel
theorem dL_calls_174 : decode cL_calls 174 = .ok (.aload_n 2, 1) := by decide +kernel
theorem dL_calls_175 : decode cL_calls 175 = .ok (.iconst 0, 1) := by decide +kernel
theorem dL_calls_176 : decode cL_calls 176 = .ok (.iaload, 1) := by decide +kernel
theorem dL_calls_177 : decode cL_calls 177 = .ok (.aload_n 2, 1) := by decide +kernel
theorem dL_calls_178 : decode cL_calls 178 = .ok (.iconst 1, 1) := by decide +kernel
theorem dL_calls_179 : decode cL_calls 179 = .ok (.iaload, 1) := by decide +kernel
theorem dL_calls_180 : decode cL_calls 180 = .ok (.aload_n 2, 1) := by decide +kernel
theorem dL_calls_181 : decode cL_calls 181 = .ok (.iconst 2, 1) := by decide +kernel
theorem dL_calls_182 : decode cL_calls 182 = .ok (.iaload, 1) := by decide +kernel
theorem dL_calls_183 : decode cL_calls 183 = .ok (.aload_n 2, 1) := by decide +kernel
theorem dL_calls_184 : decode cL_calls 184 = .ok (.iconst 3, 1) := by decide +kernel
theorem dL_calls_185 : decode cL_calls 185 = .ok (.iaload, 1) := by decide +kernel
theorem dL_calls_186 : decode cL_calls 186 = .ok (.aload_n 2, 1) := by decide +kernel
theorem dL_calls_187 : decode cL_calls 187 = .ok (.iconst 4, 1) := by decide +kernel
theorem dL_calls_188 : decode cL_calls 188 = .ok (.iaload, 1) := by decide +kernel
theorem dL_calls_189 : decode cL_calls 189 = .ok (.invokevirtual 61, 3) := by decide +kernel
theorem dL_calls_192 : decode cL_calls 192 = .ok (.i2l, 1) := by decide +kernel
theorem dL_calls_193 : decode cL_calls 193 = .ok (.lreturn, 1) := by decide +kernel
theorem dL_calls_194 : decode cL_calls 194 = .ok (.aload_n 0, 1) := by decide +kernel
theorem dL_calls_195 : decode cL_calls 195 = .ok (.aload_n 2, 1) := by decide +kernel
theorem dL_calls_196 : decode cL_calls 196 = .ok (.iconst 0, 1) := by decide +kernel
theorem dL_calls_197 : decode cL_calls 197 = .ok (.iaload, 1) := by decide +kernel
theorem dL_calls_198 : decode cL_calls 198 = .ok (.aload_n 2, 1) := by decide +kernel
theorem dL_calls_199 : decode cL_calls 199 = .ok (.iconst 1, 1) := by decide +kernel
theorem dL_calls_200 : decode cL_calls 200 = .ok (.iaload, 1) := by decide +kernel
theorem dL_calls_201 : decode cL_calls 201 = .ok (.invokevirtual 64, 3) := by decide +kernel
theorem dL_calls_204 : decode cL_calls 204 = .ok (.i2l, 1) := by decide +kernel
theorem dL_calls_205 : decode cL_calls 205 = .ok (.lreturn, 1) := by decide +kernel
theorem dL_calls_206 : decode cL_calls 206 = .ok (.aload_n 0, 1) := by decide +kernel
theorem dL_calls_207 : decode cL_calls 207 = .ok (.aload_n 2, 1) := by decide +kernel
theorem dL_calls_208 : decode cL_calls 208 = .ok (.iconst 0, 1) := by decide +kernel
theorem dL_calls_209 : decode cL_calls 209 = .ok (.iaload, 1) := by decide +kernel
theorem dL_calls_210 : decode cL_calls 210 = .ok (.invokevirtual 67, 3) := by decide +kernel
theorem dL_calls_213 : decode cL_calls 213 = .ok (.i2l, 1) := by decide +kernel
theorem dL_calls_214 : decode cL_calls 214 = .ok (.lreturn, 1) := by decide +kernel
theorem dL_calls_215 : decode cL_calls 215 = .ok (.aload_n 0, 1) := by decide +kernel
theorem dL_calls_216 : decode cL_calls 216 = .ok (.aload_n 2, 1) := by decide +kernel
theorem dL_calls_217 : decode cL_calls 217 = .ok (.iconst 0, 1) := by decide +kernel
theorem dL_calls_218 : decode cL_calls 218 = .ok (.iaload, 1) := by decide +kernel
theorem dL_calls_219 : decode cL_calls 219 = .ok (.aload_n 2, 1) := by decide +kernel
theorem dL_calls_220 : decode cL_calls 220 = .ok (.iconst 1, 1) := by decide +kernel
theorem dL_calls_221 : decode cL_calls 221 = .ok (.iaload, 1) := by decide +kernel
theorem dL_calls_222 : decode cL_calls 222 = .ok (.aload_n 2, 1) := by decide +kernel
theorem dL_calls_223 : decode cL_calls 223 = .ok (.iconst 2, 1) := by decide +kernel
theorem dL_calls_224 : decode cL_calls 224 = .ok (.iaload, 1) := by decide +kernel
theorem dL_calls_225 : decode cL_calls 225 = .ok (.invokevirtual 70, 3) := by decide +kernel
theorem dL_calls_228 : decode cL_calls 228 = .ok (.i2l, 1) := by decide +kernel
theorem dL_calls_229 : decode cL_calls 229 = .ok (.lreturn, 1) := by decide +kernel
theorem dL_calls_230 : decode cL_calls 230 = .ok (.aload_n 0, 1) := by decide +kernel
theorem dL_calls_231 : decode cL_calls 231 = .ok (.aload_n 2, 1) := by decide +kernel
theorem dL_calls_232 : decode cL_calls 232 = .ok (.iconst 0, 1) := by decide +kernel
theorem dL_calls_233 : decode cL_calls 233 = .ok (.iaload, 1) := by decide +kernel
theorem dL_calls_234 : decode cL_calls 234 = .ok (.aload_n 2, 1) := by decide +kernel
theorem dL_calls_235 : decode cL_calls 235 = .ok (.iconst 1, 1) := by decide +kernel
theorem dL_calls_236 : decode cL_calls 236 = .ok (.iaload, 1) := by decide +kernel
theorem dL_calls_237 : decode cL_calls 237 = .ok (.invokevirtual 74, 3) := by decide +kernel
theorem dL_calls_240 : decode cL_calls 240 = .ok (.i2l, 1) := by decide +kernel
theorem dL_calls_241 : decode cL_calls 241 = .ok (.lreturn, 1) := by decide +kernel
theorem dL_calls_242 : decode cL_calls 242 = .ok (.aload_n 0, 1) := by decide +kernel
theorem dL_calls_243 : decode cL_calls 243 = .ok (.aload_n 2, 1) := by decide +kernel
theorem dL_calls_244 : decode cL_calls 244 = .ok (.iconst 0, 1) := by decide +kernel
theorem dL_calls_245 : decode cL_calls 245 = .ok (.iaload, 1) := by decide +kernel
theorem dL_calls_246 : decode cL_calls 246 = .ok (.invokevirtual 77, 3) := by decide +kernel
theorem dL_calls_249 : decode cL_calls 249 = .ok (.i2l, 1) := by decide +kernel
theorem dL_calls_250 : decode cL_calls 250 = .ok (.lreturn, 1) := by decide +kernel
theorem dL_calls_251 : decode cL_calls 251 = .ok (.aload_n 0, 1) := by decide +kernel
theorem dL_calls_252 : decode cL_calls 252 = .ok (.aload_n 2, 1) := by decide +kernel
theorem dL_calls_253 : decode cL_calls 253 = .ok (.iconst 0, 1) := by decide +kernel
theorem dL_calls_254 : decode cL_calls 254 = .ok (.iaload, 1) := by decide +kernel
theorem dL_calls_255 : decode cL_calls 255 = .ok (.aload_n 2, 1) := by decide +kernel
theorem dL_calls_256 : decode cL_calls 256 = .ok (.iconst 1, 1) := by decide +kernel
theorem dL_calls_257 : decode cL_calls 257 = .ok (.iaload, 1) := by decide +kernel
theorem dL_calls_258 : decode cL_calls 258 = .ok (.aload_n 2, 1) := by decide +kernel
theorem dL_calls_259 : decode cL_calls 259 = .ok (.iconst 2, 1) := by decide +kernel
theorem dL_calls_260 : decode cL_calls 260 = .ok (.iaload, 1) := by decide +kernel
theorem dL_calls_261 : decode cL_calls 261 = .ok (.invokevirtual 80, 3) := by decide +kernel
theorem dL_calls_264 : decode cL_calls 264 = .ok (.i2l, 1) := by decide +kernel
theorem dL_calls_265 : decode cL_calls 265 = .ok (.lreturn, 1) := by decide +kernel
theorem dL_calls_266 : decode cL_calls 266 = .ok (.aload_n 0, 1) := by decide +kernel
theorem dL_calls_267 : decode cL_calls 267 = .ok (.invokevirtual 83, 3) := by decide +kernel
theorem dL_calls_270 : decode cL_calls 270 = .ok (.i2l, 1) := by decide +kernel
theorem dL_calls_271 : decode cL_calls 271 = .ok (.lreturn, 1) := by decide +kernel
theorem dL_calls_272 : decode cL_calls 272 = .ok (.aload_n 0, 1) := by decide +kernel
theorem dL_calls_273 : decode cL_calls 273 = .ok (.aload_n 2, 1) := by decide +kernel
theorem dL_calls_274 : decode cL_calls 274 = .ok (.iconst 0, 1) := by decide +kernel
theorem dL_calls_275 : decode cL_calls 275 = .ok (.iaload, 1) := by decide +kernel
theorem dL_calls_276 : decode cL_calls 276 = .ok (.invokevirtual 86, 3) := by decide +kernel
theorem dL_calls_279 : decode cL_calls 279 = .ok (.i2l, 1) := by decide +kernel
theorem dL_calls_280 : decode cL_calls 280 = .ok (.lreturn, 1) := by decide +kernel
theorem dL_calls_281 : decode cL_calls 281 = .ok (.aload_n 0, 1) := by decide +kernel
theorem dL_calls_282 : decode cL_calls 282 = .ok (.aload_n 2, 1) := by decide +kernel
theorem dL_calls_283 : decode cL_calls 283 = .ok (.iconst 0, 1) := by decide +kernel
theorem dL_calls_284 : decode cL_calls 284 = .ok (.iaload, 1) := by decide +kernel
theorem dL_calls_285 : decode cL_calls 285 = .ok (.invokevirtual 89, 3) := by decide +kernel
theorem dL_calls_288 : decode cL_calls 288 = .ok (.i2l, 1) := by decide +kernel
theorem dL_calls_289 : decode cL_calls 289 = .ok (.lreturn, 1) := by decide +kernel
theorem dL_calls_290 : decode cL_calls 290 = .ok (.aload_n 0, 1) := by decide +kernel
theorem dL_calls_291 : decode cL_calls 291 = .ok (.aload_n 2, 1) := by decide +kernel
theorem dL_calls_292 : decode cL_calls 292 = .ok (.iconst 0, 1) := by decide +kernel
theorem dL_calls_293 : decode cL_calls 293 = .ok (.iaload, 1) := by decide +kernel
theorem dL_calls_294 : decode cL_calls 294 = .ok (.invokevirtual 29, 3) := by decide +kernel
theorem dL_calls_297 : decode cL_calls 297 = .ok (.i2l, 1) := by decide +kernel
theorem dL_calls_298 : decode cL_calls 298 = .ok (.lreturn, 1) := by decide +kernel
theorem dL_thrown_0 : decode cL_thrown 0 = .ok (.bipush 6, 2) := by decide +kernel
theorem dL_thrown_2 : decode cL_thrown 2 = .ok (.newarray .int, 2) := by decide +kernel
theorem dL_thrown_4 : decode cL_thrown 4 = .ok (.astore_n 3, 1) := by decide +kernel
theorem dL_thrown_5 : decode cL_thrown 5 = .ok (.aload_n 2, 1) := by decide +kernel
theorem dL_thrown_6 : decode cL_thrown 6 = .ok (.iconst 0, 1) := by decide +kernel
theorem dL_thrown_7 : decode cL_thrown 7 = .ok (.aload_n 3, 1) := by decide +kernel
theorem dL_thrown_8 : decode cL_thrown 8 = .ok (.iconst 0, 1) := by decide +kernel
theorem dL_thrown_9 : decode cL_thrown 9 = .ok (.aload_n 2, 1) := by decide +kernel
theorem dL_thrown_10 : decode cL_thrown 10 = .ok (.arraylength, 1) := by decide +kernel
theorem dL_thrown_11 : decode cL_thrown 11 = .ok (.invokestatic 92, 3) := by decide +kernel
theorem dL_thrown_14 : decode cL_thrown 14 = .ok (.aload_n 0, 1) := by decide +kernel
theorem dL_thrown_15 : decode cL_thrown 15 = .ok (.iload_n 1, 1) := by decide +kernel
theorem dL_thrown_16 : decode cL_thrown 16 = .ok (.aload_n 3, 1) := by decide +kernel
theorem dL_thrown_17 : decode cL_thrown 17 = .ok (.invokestatic 98, 3) := by decide +kernel
theorem dL_thrown_20 : decode cL_thrown 20 = .ok (.ldc2_w 102, 3) := by decide +kernel
theorem dL_thrown_23 : decode cL_thrown 23 = .ok (.lcmp, 1) := by decide +kernel
theorem dL_thrown_24 : decode cL_thrown 24 = .ok (.ifCond .ne 7, 3) := by decide +kernel
theorem dL_thrown_27 : decode cL_thrown 27 = .ok (.iconst 0, 1) := by decide +kernel
theorem dL_thrown_28 : decode cL_thrown 28 = .ok (.goto 4, 3) := by decide +kernel
theorem dL_thrown_31 : decode cL_thrown 31 = .ok (.iconst 0, 1) := by decide +kernel
theorem dL_thrown_32 : decode cL_thrown 32 = .ok (.ireturn, 1) := by decide +kernel
theorem dL_thrown_33 : decode cL_thrown 33 = .ok (.astore 4, 2) := by decide +kernel
theorem dL_thrown_35 : decode cL_thrown 35 = .ok (.iconst 1, 1) := by decide +kernel
theorem dL_thrown_36 : decode cL_thrown 36 = .ok (.ireturn, 1) := by decide +kernel
theorem dL_thrown_37 : decode cL_thrown 37 = .ok (.astore 4, 2) := by decide +kernel
theorem dL_thrown_39 : decode cL_thrown 39 = .ok (.iconst 2, 1) := by decide +kernel
theorem dL_thrown_40 : decode cL_thrown 40 = .ok (.ireturn, 1) := by decide +kernel
theorem dL_thrown_41 : decode cL_thrown 41 = .ok (.astore 4, 2) := by decide +kernel
theorem dL_thrown_43 : decode cL_thrown 43 = .ok (.iconst 3, 1) := by decide +kernel
theorem dL_thrown_44 : decode cL_thrown 44 = .ok (.ireturn, 1) := by decide +kernel
theorem dL_isText_0 : decode cL_isText 0 = .ok (.iload_n 1, 1) := by decide +kernel
theorem dL_isText_1 : decode cL_isText 1 = .ok (.aload_n 2, 1) := by decide +kernel
theorem dL_isText_2 : decode cL_isText 2 = .ok (.invokevirtual 7, 3) := by decide +kernel
theorem dL_isText_5 : decode cL_isText 5 = .ok (.if_icmp .eq 5, 3) := by decide +kernel
theorem dL_isText_8 : decode cL_isText 8 = .ok (.iconst 0, 1) := by decide +kernel
theorem dL_isText_9 : decode cL_isText 9 = .ok (.ireturn, 1) := by decide +kernel
theorem dL_isText_10 : decode cL_isText 10 = .ok (.iconst 0, 1) := by decide +kernel
theorem dL_isText_11 : decode cL_isText 11 = .ok (.istore_n 3, 1) := by decide +kernel
theorem dL_isText_12 : decode cL_isText 12 = .ok (.iload_n 3, 1) := by decide +kernel
theorem dL_isText_13 : decode cL_isText 13 = .ok (.aload_n 2, 1) := by decide +kernel
theorem dL_isText_14 : decode cL_isText 14 = .ok (.invokevirtual 7, 3) := by decide +kernel
theorem dL_isText_17 : decode cL_isText 17 = .ok (.if_icmp .ge 24, 3) := by decide +kernel
theorem dL_isText_20 : decode cL_isText 20 = .ok (.aload_n 0, 1) := by decide +kernel
theorem dL_isText_21 : decode cL_isText 21 = .ok (.iload_n 3, 1) := by decide +kernel
theorem dL_isText_22 : decode cL_isText 22 = .ok (.invokevirtual 67, 3) := by decide +kernel
theorem dL_isText_25 : decode cL_isText 25 = .ok (.aload_n 2, 1) := by decide +kernel
theorem dL_isText_26 : decode cL_isText 26 = .ok (.iload_n 3, 1) := by decide +kernel
theorem dL_isText_27 : decode cL_isText 27 = .ok (.invokevirtual 13, 3) := by decide +kernel
theorem dL_isText_30 : decode cL_isText 30 = .ok (.if_icmp .eq 5, 3) := by decide +kernel
theorem dL_isText_33 : decode cL_isText 33 = .ok (.iconst 0, 1) := by decide +kernel
theorem dL_isText_34 : decode cL_isText 34 = .ok (.ireturn, 1) := by decide +kernel
theorem dL_isText_35 : decode cL_isText 35 = .ok (.iinc 3 1, 3) := by decide +kernel
theorem dL_isText_38 : decode cL_isText 38 = .ok (.goto (-26), 3) := by decide +kernel
theorem dL_isText_41 : decode cL_isText 41 = .ok (.aload_n 0, 1) := by decide +kernel
theorem dL_isText_42 : decode cL_isText 42 = .ok (.bipush 11, 2) := by decide +kernel
theorem dL_isText_44 : decode cL_isText 44 = .ok (.iconst 1, 1) := by decide +kernel
theorem dL_isText_45 : decode cL_isText 45 = .ok (.newarray .int, 2) := by decide +kernel
theorem dL_isText_47 : decode cL_isText 47 = .ok (.dup, 1) := by decide +kernel
theorem dL_isText_48 : decode cL_isText 48 = .ok (.iconst 0, 1) := by decide +kernel
theorem dL_isText_49 : decode cL_isText 49 = .ok (.iload_n 1, 1) := by decide +kernel
theorem dL_isText_50 : decode cL_isText 50 = .ok (.iastore, 1) := by decide +kernel
theorem dL_isText_51 : decode cL_isText 51 = .ok (.invokestatic 110, 3) := by decide +kernel
theorem dL_isText_54 : decode cL_isText 54 = .ok (.iconst 2, 1) := by decide +kernel
theorem dL_isText_55 : decode cL_isText 55 = .ok (.if_icmp .ne 7, 3) := by decide +kernel
theorem dL_isText_58 : decode cL_isText 58 = .ok (.iconst 1, 1) := by decide +kernel
theorem dL_isText_59 : decode cL_isText 59 = .ok (.goto 4, 3) := by decide +kernel
theorem dL_isText_62 : decode cL_isText 62 = .ok (.iconst 0, 1) := by decide +kernel
theorem dL_isText_63 : decode cL_isText 63 = .ok (.ireturn, 1) := by decide +kernel
theorem dL_count_0 : decode cL_count 0 = .ok (.iconst 0, 1) := by decide +kernel
theorem dL_count_1 : decode cL_count 1 = .ok (.istore_n 2, 1) := by decide +kernel
theorem dL_count_2 : decode cL_count 2 = .ok (.iconst 0, 1) := by decide +kernel
theorem dL_count_3 : decode cL_count 3 = .ok (.istore_n 3, 1) := by decide +kernel
theorem dL_count_4 : decode cL_count 4 = .ok (.iload_n 3, 1) := by decide +kernel
theorem dL_count_5 : decode cL_count 5 = .ok (.aload_n 0, 1) := by decide +kernel
theorem dL_count_6 : decode cL_count 6 = .ok (.getfield 114, 3) := by decide +kernel
theorem dL_count_9 : decode cL_count 9 = .ok (.arraylength, 1) := by decide +kernel
theorem dL_count_10 : decode cL_count 10 = .ok (.if_icmp .ge 69, 3) := by decide +kernel
theorem dL_count_13 : decode cL_count 13 = .ok (.iload_n 2, 1) := by decide +kernel
theorem dL_count_14 : decode cL_count 14 = .ok (.iload_n 1, 1) := by decide +kernel
theorem dL_count_15 : decode cL_count 15 = .ok (.bipush 9, 2) := by decide +kernel
theorem dL_count_17 : decode cL_count 17 = .ok (.if_icmp .ne 19, 3) := by decide +kernel
theorem dL_count_20 : decode cL_count 20 = .ok (.aload_n 0, 1) := by decide +kernel
theorem dL_count_21 : decode cL_count 21 = .ok (.iload_n 3, 1) := by decide +kernel
theorem dL_count_22 : decode cL_count 22 = .ok (.invokevirtual 120, 3) := by decide +kernel
theorem dL_count_25 : decode cL_count 25 = .ok (.ifCond .ne 7, 3) := by decide +kernel
theorem dL_count_28 : decode cL_count 28 = .ok (.iconst 1, 1) := by decide +kernel
theorem dL_count_29 : decode cL_count 29 = .ok (.goto 42, 3) := by decide +kernel
theorem dL_count_32 : decode cL_count 32 = .ok (.iconst 0, 1) := by decide +kernel
theorem dL_count_33 : decode cL_count 33 = .ok (.goto 38, 3) := by decide +kernel
theorem dL_count_36 : decode cL_count 36 = .ok (.iload_n 1, 1) := by decide +kernel
theorem dL_count_37 : decode cL_count 37 = .ok (.bipush 10, 2) := by decide +kernel
theorem dL_count_39 : decode cL_count 39 = .ok (.if_icmp .ne 23, 3) := by decide +kernel
theorem dL_count_42 : decode cL_count 42 = .ok (.aload_n 0, 1) := by decide +kernel
theorem dL_count_43 : decode cL_count 43 = .ok (.getfield 114, 3) := by decide +kernel
theorem dL_count_46 : decode cL_count 46 = .ok (.iload_n 3, 1) := by decide +kernel
theorem dL_count_47 : decode cL_count 47 = .ok (.aaload, 1) := by decide +kernel
theorem dL_count_48 : decode cL_count 48 = .ok (.getfield 123, 3) := by decide +kernel
theorem dL_count_51 : decode cL_count 51 = .ok (.ifCond .eq 7, 3) := by decide +kernel
theorem dL_count_54 : decode cL_count 54 = .ok (.iconst 1, 1) := by decide +kernel
theorem dL_count_55 : decode cL_count 55 = .ok (.goto 16, 3) := by decide +kernel
theorem dL_count_58 : decode cL_count 58 = .ok (.iconst 0, 1) := by decide +kernel
theorem dL_count_59 : decode cL_count 59 = .ok (.goto 12, 3) := by decide +kernel
theorem dL_count_62 : decode cL_count 62 = .ok (.aload_n 0, 1) := by decide +kernel
theorem dL_count_63 : decode cL_count 63 = .ok (.getfield 114, 3) := by decide +kernel
theorem dL_count_66 : decode cL_count 66 = .ok (.iload_n 3, 1) := by decide +kernel
theorem dL_count_67 : decode cL_count 67 = .ok (.aaload, 1) := by decide +kernel
theorem dL_count_68 : decode cL_count 68 = .ok (.getfield 129, 3) := by decide +kernel
theorem dL_count_71 : decode cL_count 71 = .ok (.iadd, 1) := by decide +kernel
theorem dL_count_72 : decode cL_count 72 = .ok (.istore_n 2, 1) := by decide +kernel
theorem dL_count_73 : decode cL_count 73 = .ok (.iinc 3 1, 3) := by decide +kernel
theorem dL_count_76 : decode cL_count 76 = .ok (.goto (-72), 3) := by decide +kernel
theorem dL_count_79 : decode cL_count 79 = .ok (.iload_n 2, 1) := by decide +kernel
theorem dL_count_80 : decode cL_count 80 = .ok (.ireturn, 1) := by decide +kernel
theorem dL_isLike_0 : decode cL_isLike 0 = .ok (.bipush 9, 2) := by decide +kernel
theorem dL_isLike_2 : decode cL_isLike 2 = .ok (.newarray .int, 2) := by decide +kernel
theorem dL_isLike_4 : decode cL_isLike 4 = .ok (.dup, 1) := by decide +kernel
theorem dL_isLike_5 : decode cL_isLike 5 = .ok (.iconst 0, 1) := by decide +kernel
theorem dL_isLike_6 : decode cL_isLike 6 = .ok (.aload_n 1, 1) := by decide +kernel
theorem dL_isLike_7 : decode cL_isLike 7 = .ok (.getfield 114, 3) := by decide +kernel
theorem dL_isLike_10 : decode cL_isLike 10 = .ok (.arraylength, 1) := by decide +kernel
theorem dL_isLike_11 : decode cL_isLike 11 = .ok (.iastore, 1) := by decide +kernel
theorem dL_isLike_12 : decode cL_isLike 12 = .ok (.dup, 1) := by decide +kernel
theorem dL_isLike_13 : decode cL_isLike 13 = .ok (.iconst 1, 1) := by decide +kernel
theorem dL_isLike_14 : decode cL_isLike 14 = .ok (.aload_n 1, 1) := by decide +kernel
theorem dL_isLike_15 : decode cL_isLike 15 = .ok (.getfield 133, 3) := by decide +kernel
theorem dL_isLike_18 : decode cL_isLike 18 = .ok (.iastore, 1) := by decide +kernel
theorem dL_isLike_19 : decode cL_isLike 19 = .ok (.dup, 1) := by decide +kernel
theorem dL_isLike_20 : decode cL_isLike 20 = .ok (.iconst 2, 1) := by decide +kernel
theorem dL_isLike_21 : decode cL_isLike 21 = .ok (.aload_n 1, 1) := by decide +kernel
theorem dL_isLike_22 : decode cL_isLike 22 = .ok (.getfield 136, 3) := by decide +kernel
theorem dL_isLike_25 : decode cL_isLike 25 = .ok (.iastore, 1) := by decide +kernel
theorem dL_isLike_26 : decode cL_isLike 26 = .ok (.dup, 1) := by decide +kernel
theorem dL_isLike_27 : decode cL_isLike 27 = .ok (.iconst 3, 1) := by decide +kernel
theorem dL_isLike_28 : decode cL_isLike 28 = .ok (.aload_n 1, 1) := by decide +kernel
theorem dL_isLike_29 : decode cL_isLike 29 = .ok (.getfield 139, 3) := by decide +kernel
theorem dL_isLike_32 : decode cL_isLike 32 = .ok (.iastore, 1) := by decide +kernel
theorem dL_isLike_33 : decode cL_isLike 33 = .ok (.dup, 1) := by decide +kernel
theorem dL_isLike_34 : decode cL_isLike 34 = .ok (.iconst 4, 1) := by decide +kernel
theorem dL_isLike_35 : decode cL_isLike 35 = .ok (.aload_n 1, 1) := by decide +kernel
theorem dL_isLike_36 : decode cL_isLike 36 = .ok (.getfield 142, 3) := by decide +kernel
theorem dL_isLike_39 : decode cL_isLike 39 = .ok (.iastore, 1) := by decide +kernel
theorem dL_isLike_40 : decode cL_isLike 40 = .ok (.dup, 1) := by decide +kernel
theorem dL_isLike_41 : decode cL_isLike 41 = .ok (.iconst 5, 1) := by decide +kernel
theorem dL_isLike_42 : decode cL_isLike 42 = .ok (.aload_n 1, 1) := by decide +kernel
theorem dL_isLike_43 : decode cL_isLike 43 = .ok (.getfield 145, 3) := by decide +kernel
theorem dL_isLike_46 : decode cL_isLike 46 = .ok (.iastore, 1) := by decide +kernel
theorem dL_isLike_47 : decode cL_isLike 47 = .ok (.dup, 1) := by decide +kernel
theorem dL_isLike_48 : decode cL_isLike 48 = .ok (.bipush 6, 2) := by decide +kernel
theorem dL_isLike_50 : decode cL_isLike 50 = .ok (.aload_n 1, 1) := by decide +kernel
theorem dL_isLike_51 : decode cL_isLike 51 = .ok (.getfield 148, 3) := by decide +kernel
theorem dL_isLike_54 : decode cL_isLike 54 = .ok (.iastore, 1) := by decide +kernel
theorem dL_isLike_55 : decode cL_isLike 55 = .ok (.dup, 1) := by decide +kernel
theorem dL_isLike_56 : decode cL_isLike 56 = .ok (.bipush 7, 2) := by decide +kernel
theorem dL_isLike_58 : decode cL_isLike 58 = .ok (.aload_n 1, 1) := by decide +kernel
theorem dL_isLike_59 : decode cL_isLike 59 = .ok (.getfield 151, 3) := by decide +kernel
theorem dL_isLike_62 : decode cL_isLike 62 = .ok (.iastore, 1) := by decide +kernel
theorem dL_isLike_63 : decode cL_isLike 63 = .ok (.dup, 1) := by decide +kernel
theorem dL_isLike_64 : decode cL_isLike 64 = .ok (.bipush 8, 2) := by decide +kernel
theorem dL_isLike_66 : decode cL_isLike 66 = .ok (.aload_n 1, 1) := by decide +kernel
theorem dL_isLike_67 : decode cL_isLike 67 = .ok (.getfield 154, 3) := by decide +kernel
theorem dL_isLike_70 : decode cL_isLike 70 = .ok (.iastore, 1) := by decide +kernel
theorem dL_isLike_71 : decode cL_isLike 71 = .ok (.astore_n 2, 1) := by decide +kernel
theorem dL_isLike_72 : decode cL_isLike 72 = .ok (.iconst 0, 1) := by decide +kernel
theorem dL_isLike_73 : decode cL_isLike 73 = .ok (.istore_n 3, 1) := by decide +kernel
theorem dL_isLike_74 : decode cL_isLike 74 = .ok (.iload_n 3, 1) := by decide +kernel
theorem dL_isLike_75 : decode cL_isLike 75 = .ok (.bipush 20, 2) := by decide +kernel
theorem dL_isLike_77 : decode cL_isLike 77 = .ok (.if_icmp .ge 51, 3) := by decide +kernel
theorem dL_isLike_80 : decode cL_isLike 80 = .ok (.aload_n 0, 1) := by decide +kernel
theorem dL_isLike_81 : decode cL_isLike 81 = .ok (.iload_n 3, 1) := by decide +kernel
theorem dL_isLike_82 : decode cL_isLike 82 = .ok (.invokevirtual 33, 3) := by decide +kernel
theorem dL_isLike_85 : decode cL_isLike 85 = .ok (.iload_n 3, 1) := by decide +kernel
theorem dL_isLike_86 : decode cL_isLike 86 = .ok (.bipush 9, 2) := by decide +kernel
theorem dL_isLike_88 : decode cL_isLike 88 = .ok (.if_icmp .ge 9, 3) := by decide +kernel
theorem dL_isLike_91 : decode cL_isLike 91 = .ok (.aload_n 2, 1) := by decide +kernel
theorem dL_isLike_92 : decode cL_isLike 92 = .ok (.iload_n 3, 1) := by decide +kernel
theorem dL_isLike_93 : decode cL_isLike 93 = .ok (.iaload, 1) := by decide +kernel
theorem dL_isLike_94 : decode cL_isLike 94 = .ok (.goto 23, 3) := by decide +kernel
theorem dL_isLike_97 : decode cL_isLike 97 = .ok (.iload_n 3, 1) := by decide +kernel
theorem dL_isLike_98 : decode cL_isLike 98 = .ok (.bipush 12, 2) := by decide +kernel
theorem dL_isLike_100 : decode cL_isLike 100 = .ok (.if_icmp .ge 11, 3) := by decide +kernel
theorem dL_isLike_103 : decode cL_isLike 103 = .ok (.aload_n 1, 1) := by decide +kernel
theorem dL_isLike_104 : decode cL_isLike 104 = .ok (.iload_n 3, 1) := by decide +kernel
theorem dL_isLike_105 : decode cL_isLike 105 = .ok (.invokestatic 157, 3) := by decide +kernel
theorem dL_isLike_108 : decode cL_isLike 108 = .ok (.goto 9, 3) := by decide +kernel
theorem dL_isLike_111 : decode cL_isLike 111 = .ok (.aload_n 1, 1) := by decide +kernel
theorem dL_isLike_112 : decode cL_isLike 112 = .ok (.getfield 160, 3) := by decide +kernel
theorem dL_isLike_115 : decode cL_isLike 115 = .ok (.iload_n 3, 1) := by decide +kernel
theorem dL_isLike_116 : decode cL_isLike 116 = .ok (.iaload, 1) := by decide +kernel
theorem dL_isLike_117 : decode cL_isLike 117 = .ok (.if_icmp .eq 5, 3) := by decide +kernel
theorem dL_isLike_120 : decode cL_isLike 120 = .ok (.iconst 0, 1) := by decide +kernel
theorem dL_isLike_121 : decode cL_isLike 121 = .ok (.ireturn, 1) := by decide +kernel
theorem dL_isLike_122 : decode cL_isLike 122 = .ok (.iinc 3 1, 3) := by decide +kernel
theorem dL_isLike_125 : decode cL_isLike 125 = .ok (.goto (-51), 3) := by decide +kernel
theorem dL_isLike_128 : decode cL_isLike 128 = .ok (.iconst 0, 1) := by decide +kernel
theorem dL_isLike_129 : decode cL_isLike 129 = .ok (.istore_n 3, 1) := by decide +kernel
theorem dL_isLike_130 : decode cL_isLike 130 = .ok (.iload_n 3, 1) := by decide +kernel
theorem dL_isLike_131 : decode cL_isLike 131 = .ok (.aload_n 1, 1) := by decide +kernel
theorem dL_isLike_132 : decode cL_isLike 132 = .ok (.getfield 114, 3) := by decide +kernel
theorem dL_isLike_135 : decode cL_isLike 135 = .ok (.arraylength, 1) := by decide +kernel
theorem dL_isLike_136 : decode cL_isLike 136 = .ok (.if_icmp .ge 202, 3) := by decide +kernel
theorem dL_isLike_139 : decode cL_isLike 139 = .ok (.aload_n 1, 1) := by decide +kernel
theorem dL_isLike_140 : decode cL_isLike 140 = .ok (.getfield 114, 3) := by decide +kernel
theorem dL_isLike_143 : decode cL_isLike 143 = .ok (.iload_n 3, 1) := by decide +kernel
theorem dL_isLike_144 : decode cL_isLike 144 = .ok (.aaload, 1) := by decide +kernel
theorem dL_isLike_145 : decode cL_isLike 145 = .ok (.astore 4, 2) := by decide +kernel
theorem dL_isLike_147 : decode cL_isLike 147 = .ok (.bipush 9, 2) := by decide +kernel
theorem dL_isLike_149 : decode cL_isLike 149 = .ok (.newarray .int, 2) := by decide +kernel
theorem dL_isLike_151 : decode cL_isLike 151 = .ok (.dup, 1) := by decide +kernel
theorem dL_isLike_152 : decode cL_isLike 152 = .ok (.iconst 0, 1) := by decide +kernel
theorem dL_isLike_153 : decode cL_isLike 153 = .ok (.aload 4, 2) := by decide +kernel
theorem dL_isLike_155 : decode cL_isLike 155 = .ok (.invokevirtual 164, 3) := by decide +kernel
theorem dL_isLike_158 : decode cL_isLike 158 = .ok (.ifCond .eq 7, 3) := by decide +kernel
theorem dL_isLike_161 : decode cL_isLike 161 = .ok (.iconst 0, 1) := by decide +kernel
theorem dL_isLike_162 : decode cL_isLike 162 = .ok (.goto 4, 3) := by decide +kernel
theorem dL_isLike_165 : decode cL_isLike 165 = .ok (.iconst 1, 1) := by decide +kernel
theorem dL_isLike_166 : decode cL_isLike 166 = .ok (.iastore, 1) := by decide +kernel
theorem dL_isLike_167 : decode cL_isLike 167 = .ok (.dup, 1) := by decide +kernel
theorem dL_isLike_168 : decode cL_isLike 168 = .ok (.iconst 1, 1) := by decide +kernel
theorem dL_isLike_169 : decode cL_isLike 169 = .ok (.aload 4, 2) := by decide +kernel
theorem dL_isLike_171 : decode cL_isLike 171 = .ok (.getfield 168, 3) := by decide +kernel
theorem dL_isLike_174 : decode cL_isLike 174 = .ok (.iastore, 1) := by decide +kernel
theorem dL_isLike_175 : decode cL_isLike 175 = .ok (.dup, 1) := by decide +kernel
theorem dL_isLike_176 : decode cL_isLike 176 = .ok (.iconst 2, 1) := by decide +kernel
theorem dL_isLike_177 : decode cL_isLike 177 = .ok (.aload 4, 2) := by decide +kernel
theorem dL_isLike_179 : decode cL_isLike 179 = .ok (.getfield 129, 3) := by decide +kernel
theorem dL_isLike_182 : decode cL_isLike 182 = .ok (.iastore, 1) := by decide +kernel
theorem dL_isLike_183 : decode cL_isLike 183 = .ok (.dup, 1) := by decide +kernel
theorem dL_isLike_184 : decode cL_isLike 184 = .ok (.iconst 3, 1) := by decide +kernel
theorem dL_isLike_185 : decode cL_isLike 185 = .ok (.aload 4, 2) := by decide +kernel
theorem dL_isLike_187 : decode cL_isLike 187 = .ok (.getfield 123, 3) := by decide +kernel
theorem dL_isLike_190 : decode cL_isLike 190 = .ok (.ifCond .eq 7, 3) := by decide +kernel
theorem dL_isLike_193 : decode cL_isLike 193 = .ok (.iconst 1, 1) := by decide +kernel
theorem dL_isLike_194 : decode cL_isLike 194 = .ok (.goto 4, 3) := by decide +kernel
theorem dL_isLike_197 : decode cL_isLike 197 = .ok (.iconst 0, 1) := by decide +kernel
theorem dL_isLike_198 : decode cL_isLike 198 = .ok (.iastore, 1) := by decide +kernel
theorem dL_isLike_199 : decode cL_isLike 199 = .ok (.dup, 1) := by decide +kernel
theorem dL_isLike_200 : decode cL_isLike 200 = .ok (.iconst 4, 1) := by decide +kernel
theorem dL_isLike_201 : decode cL_isLike 201 = .ok (.aload 4, 2) := by decide +kernel
theorem dL_isLike_203 : decode cL_isLike 203 = .ok (.getfield 171, 3) := by decide +kernel
theorem dL_isLike_206 : decode cL_isLike 206 = .ok (.iastore, 1) := by decide +kernel
theorem dL_isLike_207 : decode cL_isLike 207 = .ok (.dup, 1) := by decide +kernel
theorem dL_isLike_208 : decode cL_isLike 208 = .ok (.iconst 5, 1) := by decide +kernel
theorem dL_isLike_209 : decode cL_isLike 209 = .ok (.aload_n 1, 1) := by decide +kernel
theorem dL_isLike_210 : decode cL_isLike 210 = .ok (.iload_n 3, 1) := by decide +kernel
theorem dL_isLike_211 : decode cL_isLike 211 = .ok (.invokevirtual 120, 3) := by decide +kernel
theorem dL_isLike_214 : decode cL_isLike 214 = .ok (.ifCond .ne 7, 3) := by decide +kernel
theorem dL_isLike_217 : decode cL_isLike 217 = .ok (.iconst 1, 1) := by decide +kernel
theorem dL_isLike_218 : decode cL_isLike 218 = .ok (.goto 4, 3) := by decide +kernel
theorem dL_isLike_221 : decode cL_isLike 221 = .ok (.iconst 0, 1) := by decide +kernel
theorem dL_isLike_222 : decode cL_isLike 222 = .ok (.iastore, 1) := by decide +kernel
theorem dL_isLike_223 : decode cL_isLike 223 = .ok (.dup, 1) := by decide +kernel
theorem dL_isLike_224 : decode cL_isLike 224 = .ok (.bipush 6, 2) := by decide +kernel
theorem dL_isLike_226 : decode cL_isLike 226 = .ok (.aload 4, 2) := by decide +kernel
theorem dL_isLike_228 : decode cL_isLike 228 = .ok (.getfield 174, 3) := by decide +kernel
theorem dL_isLike_231 : decode cL_isLike 231 = .ok (.iastore, 1) := by decide +kernel
theorem dL_isLike_232 : decode cL_isLike 232 = .ok (.dup, 1) := by decide +kernel
theorem dL_isLike_233 : decode cL_isLike 233 = .ok (.bipush 7, 2) := by decide +kernel
theorem dL_isLike_235 : decode cL_isLike 235 = .ok (.aload 4, 2) := by decide +kernel
theorem dL_isLike_237 : decode cL_isLike 237 = .ok (.getfield 177, 3) := by decide +kernel
theorem dL_isLike_240 : decode cL_isLike 240 = .ok (.iastore, 1) := by decide +kernel
theorem dL_isLike_241 : decode cL_isLike 241 = .ok (.dup, 1) := by decide +kernel
theorem dL_isLike_242 : decode cL_isLike 242 = .ok (.bipush 8, 2) := by decide +kernel
theorem dL_isLike_244 : decode cL_isLike 244 = .ok (.aload 4, 2) := by decide +kernel
theorem dL_isLike_246 : decode cL_isLike 246 = .ok (.getfield 180, 3) := by decide +kernel
theorem dL_isLike_249 : decode cL_isLike 249 = .ok (.iastore, 1) := by decide +kernel
theorem dL_isLike_250 : decode cL_isLike 250 = .ok (.astore 5, 2) := by decide +kernel
theorem dL_isLike_252 : decode cL_isLike 252 = .ok (.iconst 0, 1) := by decide +kernel
theorem dL_isLike_253 : decode cL_isLike 253 = .ok (.istore 6, 2) := by decide +kernel
theorem dL_isLike_255 : decode cL_isLike 255 = .ok (.iload 6, 2) := by decide +kernel
theorem dL_isLike_257 : decode cL_isLike 257 = .ok (.bipush 9, 2) := by decide +kernel
theorem dL_isLike_259 : decode cL_isLike 259 = .ok (.if_icmp .ge 26, 3) := by decide +kernel
theorem dL_isLike_262 : decode cL_isLike 262 = .ok (.aload_n 0, 1) := by decide +kernel
theorem dL_isLike_263 : decode cL_isLike 263 = .ok (.iload_n 3, 1) := by decide +kernel
theorem dL_isLike_264 : decode cL_isLike 264 = .ok (.iload 6, 2) := by decide +kernel
theorem dL_isLike_266 : decode cL_isLike 266 = .ok (.invokevirtual 36, 3) := by decide +kernel
theorem dL_isLike_269 : decode cL_isLike 269 = .ok (.aload 5, 2) := by decide +kernel
theorem dL_isLike_271 : decode cL_isLike 271 = .ok (.iload 6, 2) := by decide +kernel
theorem dL_isLike_273 : decode cL_isLike 273 = .ok (.iaload, 1) := by decide +kernel
theorem dL_isLike_274 : decode cL_isLike 274 = .ok (.if_icmp .eq 5, 3) := by decide +kernel
theorem dL_isLike_277 : decode cL_isLike 277 = .ok (.iconst 0, 1) := by decide +kernel
theorem dL_isLike_278 : decode cL_isLike 278 = .ok (.ireturn, 1) := by decide +kernel
theorem dL_isLike_279 : decode cL_isLike 279 = .ok (.iinc 6 1, 3) := by decide +kernel
theorem dL_isLike_282 : decode cL_isLike 282 = .ok (.goto (-27), 3) := by decide +kernel
theorem dL_isLike_285 : decode cL_isLike 285 = .ok (.iconst 0, 1) := by decide +kernel
theorem dL_isLike_286 : decode cL_isLike 286 = .ok (.istore 6, 2) := by decide +kernel
theorem dL_isLike_288 : decode cL_isLike 288 = .ok (.iload 6, 2) := by decide +kernel
theorem dL_isLike_290 : decode cL_isLike 290 = .ok (.iconst 5, 1) := by decide +kernel
theorem dL_isLike_291 : decode cL_isLike 291 = .ok (.if_icmp .ge 41, 3) := by decide +kernel
theorem dL_isLike_294 : decode cL_isLike 294 = .ok (.aload_n 0, 1) := by decide +kernel
theorem dL_isLike_295 : decode cL_isLike 295 = .ok (.iload_n 3, 1) := by decide +kernel
theorem dL_isLike_296 : decode cL_isLike 296 = .ok (.iload 6, 2) := by decide +kernel
theorem dL_isLike_298 : decode cL_isLike 298 = .ok (.invokevirtual 40, 3) := by decide +kernel
theorem dL_isLike_301 : decode cL_isLike 301 = .ok (.aload 4, 2) := by decide +kernel
theorem dL_isLike_303 : decode cL_isLike 303 = .ok (.invokevirtual 164, 3) := by decide +kernel
theorem dL_isLike_306 : decode cL_isLike 306 = .ok (.ifCond .eq 7, 3) := by decide +kernel
theorem dL_isLike_309 : decode cL_isLike 309 = .ok (.iconst (-1), 1) := by decide +kernel
theorem dL_isLike_310 : decode cL_isLike 310 = .ok (.goto 11, 3) := by decide +kernel
theorem dL_isLike_313 : decode cL_isLike 313 = .ok (.aload 4, 2) := by decide +kernel
theorem dL_isLike_315 : decode cL_isLike 315 = .ok (.getfield 183, 3) := by decide +kernel
theorem dL_isLike_318 : decode cL_isLike 318 = .ok (.iload 6, 2) := by decide +kernel
theorem dL_isLike_320 : decode cL_isLike 320 = .ok (.iaload, 1) := by decide +kernel
theorem dL_isLike_321 : decode cL_isLike 321 = .ok (.if_icmp .eq 5, 3) := by decide +kernel
theorem dL_isLike_324 : decode cL_isLike 324 = .ok (.iconst 0, 1) := by decide +kernel
theorem dL_isLike_325 : decode cL_isLike 325 = .ok (.ireturn, 1) := by decide +kernel
theorem dL_isLike_326 : decode cL_isLike 326 = .ok (.iinc 6 1, 3) := by decide +kernel
theorem dL_isLike_329 : decode cL_isLike 329 = .ok (.goto (-41), 3) := by decide +kernel
theorem dL_isLike_332 : decode cL_isLike 332 = .ok (.iinc 3 1, 3) := by decide +kernel
theorem dL_isLike_335 : decode cL_isLike 335 = .ok (.goto (-205), 3) := by decide +kernel
theorem dL_isLike_338 : decode cL_isLike 338 = .ok (.iconst 4, 1) := by decide +kernel
theorem dL_isLike_339 : decode cL_isLike 339 = .ok (.newarray .int, 2) := by decide +kernel
theorem dL_isLike_341 : decode cL_isLike 341 = .ok (.dup, 1) := by decide +kernel
theorem dL_isLike_342 : decode cL_isLike 342 = .ok (.iconst 0, 1) := by decide +kernel
theorem dL_isLike_343 : decode cL_isLike 343 = .ok (.aload_n 1, 1) := by decide +kernel
theorem dL_isLike_344 : decode cL_isLike 344 = .ok (.getfield 185, 3) := by decide +kernel
