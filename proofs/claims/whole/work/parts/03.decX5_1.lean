theorem dX5_change_124 : decode cX5_change 124 = .ok (.goto (-59), 3) := by decide +kernel
theorem dX5_change_127 : decode cX5_change 127 = .ok (.aload_n 0, 1) := by decide +kernel
theorem dX5_change_128 : decode cX5_change 128 = .ok (.iload_n 3, 1) := by decide +kernel
theorem dX5_change_129 : decode cX5_change 129 = .ok (.invokevirtual 116, 3) := by decide +kernel
theorem dX5_change_132 : decode cX5_change 132 = .ok (.ireturn, 1) := by decide +kernel
theorem dX5_changed_0 : decode cX5_changed 0 = .ok (.iconst 1, 1) := by decide +kernel
theorem dX5_changed_1 : decode cX5_changed 1 = .ok (.istore 4, 2) := by decide +kernel
theorem dX5_changed_3 : decode cX5_changed 3 = .ok (.iconst 0, 1) := by decide +kernel
theorem dX5_changed_4 : decode cX5_changed 4 = .ok (.istore 5, 2) := by decide +kernel
theorem dX5_changed_6 : decode cX5_changed 6 = .ok (.iload 5, 2) := by decide +kernel
theorem dX5_changed_8 : decode cX5_changed 8 = .ok (.iload_n 2, 1) := by decide +kernel
theorem dX5_changed_9 : decode cX5_changed 9 = .ok (.if_icmp .ge 35, 3) := by decide +kernel
theorem dX5_changed_12 : decode cX5_changed 12 = .ok (.iload 4, 2) := by decide +kernel
theorem dX5_changed_14 : decode cX5_changed 14 = .ok (.iload_n 0, 1) := by decide +kernel
theorem dX5_changed_15 : decode cX5_changed 15 = .ok (.iload_n 1, 1) := by decide +kernel
theorem dX5_changed_16 : decode cX5_changed 16 = .ok (.isub, 1) := by decide +kernel
theorem dX5_changed_17 : decode cX5_changed 17 = .ok (.iload 5, 2) := by decide +kernel
theorem dX5_changed_19 : decode cX5_changed 19 = .ok (.isub, 1) := by decide +kernel
theorem dX5_changed_20 : decode cX5_changed 20 = .ok (.ifCond .le 12, 3) := by decide +kernel
theorem dX5_changed_23 : decode cX5_changed 23 = .ok (.iload_n 0, 1) := by decide +kernel
theorem dX5_changed_24 : decode cX5_changed 24 = .ok (.iload_n 1, 1) := by decide +kernel
theorem dX5_changed_25 : decode cX5_changed 25 = .ok (.isub, 1) := by decide +kernel
theorem dX5_changed_26 : decode cX5_changed 26 = .ok (.iload 5, 2) := by decide +kernel
theorem dX5_changed_28 : decode cX5_changed 28 = .ok (.isub, 1) := by decide +kernel
theorem dX5_changed_29 : decode cX5_changed 29 = .ok (.goto 4, 3) := by decide +kernel
theorem dX5_changed_32 : decode cX5_changed 32 = .ok (.iconst 0, 1) := by decide +kernel
theorem dX5_changed_33 : decode cX5_changed 33 = .ok (.invokestatic 52, 3) := by decide +kernel
theorem dX5_changed_36 : decode cX5_changed 36 = .ok (.istore 4, 2) := by decide +kernel
theorem dX5_changed_38 : decode cX5_changed 38 = .ok (.iinc 5 1, 3) := by decide +kernel
theorem dX5_changed_41 : decode cX5_changed 41 = .ok (.goto (-35), 3) := by decide +kernel
theorem dX5_changed_44 : decode cX5_changed 44 = .ok (.iconst 0, 1) := by decide +kernel
theorem dX5_changed_45 : decode cX5_changed 45 = .ok (.istore 5, 2) := by decide +kernel
theorem dX5_changed_47 : decode cX5_changed 47 = .ok (.iload 5, 2) := by decide +kernel
theorem dX5_changed_49 : decode cX5_changed 49 = .ok (.iload_n 3, 1) := by decide +kernel
theorem dX5_changed_50 : decode cX5_changed 50 = .ok (.if_icmp .ge 31, 3) := by decide +kernel
theorem dX5_changed_53 : decode cX5_changed 53 = .ok (.iload 4, 2) := by decide +kernel
theorem dX5_changed_55 : decode cX5_changed 55 = .ok (.iload_n 1, 1) := by decide +kernel
theorem dX5_changed_56 : decode cX5_changed 56 = .ok (.iload 5, 2) := by decide +kernel
theorem dX5_changed_58 : decode cX5_changed 58 = .ok (.isub, 1) := by decide +kernel
theorem dX5_changed_59 : decode cX5_changed 59 = .ok (.ifCond .le 10, 3) := by decide +kernel
theorem dX5_changed_62 : decode cX5_changed 62 = .ok (.iload_n 1, 1) := by decide +kernel
theorem dX5_changed_63 : decode cX5_changed 63 = .ok (.iload 5, 2) := by decide +kernel
theorem dX5_changed_65 : decode cX5_changed 65 = .ok (.isub, 1) := by decide +kernel
theorem dX5_changed_66 : decode cX5_changed 66 = .ok (.goto 4, 3) := by decide +kernel
theorem dX5_changed_69 : decode cX5_changed 69 = .ok (.iconst 0, 1) := by decide +kernel
theorem dX5_changed_70 : decode cX5_changed 70 = .ok (.invokestatic 52, 3) := by decide +kernel
theorem dX5_changed_73 : decode cX5_changed 73 = .ok (.istore 4, 2) := by decide +kernel
theorem dX5_changed_75 : decode cX5_changed 75 = .ok (.iinc 5 1, 3) := by decide +kernel
theorem dX5_changed_78 : decode cX5_changed 78 = .ok (.goto (-31), 3) := by decide +kernel
theorem dX5_changed_81 : decode cX5_changed 81 = .ok (.iload 4, 2) := by decide +kernel
theorem dX5_changed_83 : decode cX5_changed 83 = .ok (.ireturn, 1) := by decide +kernel
theorem dX5_overlap_0 : decode cX5_overlap 0 = .ok (.iload_n 1, 1) := by decide +kernel
theorem dX5_overlap_1 : decode cX5_overlap 1 = .ok (.invokestatic 66, 3) := by decide +kernel
theorem dX5_overlap_4 : decode cX5_overlap 4 = .ok (.ifCond .eq 30, 3) := by decide +kernel
theorem dX5_overlap_7 : decode cX5_overlap 7 = .ok (.iload_n 2, 1) := by decide +kernel
theorem dX5_overlap_8 : decode cX5_overlap 8 = .ok (.invokestatic 66, 3) := by decide +kernel
theorem dX5_overlap_11 : decode cX5_overlap 11 = .ok (.ifCond .eq 23, 3) := by decide +kernel
theorem dX5_overlap_14 : decode cX5_overlap 14 = .ok (.iload_n 3, 1) := by decide +kernel
theorem dX5_overlap_15 : decode cX5_overlap 15 = .ok (.i2l, 1) := by decide +kernel
theorem dX5_overlap_16 : decode cX5_overlap 16 = .ok (.lconst 0, 1) := by decide +kernel
theorem dX5_overlap_17 : decode cX5_overlap 17 = .ok (.ldc2_w 100, 3) := by decide +kernel
theorem dX5_overlap_20 : decode cX5_overlap 20 = .ok (.invokestatic 62, 3) := by decide +kernel
theorem dX5_overlap_23 : decode cX5_overlap 23 = .ok (.ifCond .eq 11, 3) := by decide +kernel
theorem dX5_overlap_26 : decode cX5_overlap 26 = .ok (.iload 4, 2) := by decide +kernel
theorem dX5_overlap_28 : decode cX5_overlap 28 = .ok (.invokestatic 66, 3) := by decide +kernel
theorem dX5_overlap_31 : decode cX5_overlap 31 = .ok (.ifCond .ne 6, 3) := by decide +kernel
theorem dX5_overlap_34 : decode cX5_overlap 34 = .ok (.bipush (-2), 2) := by decide +kernel
theorem dX5_overlap_36 : decode cX5_overlap 36 = .ok (.ireturn, 1) := by decide +kernel
theorem dX5_overlap_37 : decode cX5_overlap 37 = .ok (.aload_n 0, 1) := by decide +kernel
theorem dX5_overlap_38 : decode cX5_overlap 38 = .ok (.iload_n 1, 1) := by decide +kernel
theorem dX5_overlap_39 : decode cX5_overlap 39 = .ok (.iload_n 2, 1) := by decide +kernel
theorem dX5_overlap_40 : decode cX5_overlap 40 = .ok (.invokevirtual 110, 3) := by decide +kernel
theorem dX5_overlap_43 : decode cX5_overlap 43 = .ok (.istore 5, 2) := by decide +kernel
theorem dX5_overlap_45 : decode cX5_overlap 45 = .ok (.iload 5, 2) := by decide +kernel
theorem dX5_overlap_47 : decode cX5_overlap 47 = .ok (.ifCond .eq 6, 3) := by decide +kernel
theorem dX5_overlap_50 : decode cX5_overlap 50 = .ok (.iload 5, 2) := by decide +kernel
theorem dX5_overlap_52 : decode cX5_overlap 52 = .ok (.ireturn, 1) := by decide +kernel
theorem dX5_overlap_53 : decode cX5_overlap 53 = .ok (.iload_n 3, 1) := by decide +kernel
theorem dX5_overlap_54 : decode cX5_overlap 54 = .ok (.aload_n 0, 1) := by decide +kernel
theorem dX5_overlap_55 : decode cX5_overlap 55 = .ok (.getfield 81, 3) := by decide +kernel
theorem dX5_overlap_58 : decode cX5_overlap 58 = .ok (.if_icmp .gt 29, 3) := by decide +kernel
theorem dX5_overlap_61 : decode cX5_overlap 61 = .ok (.iload_n 3, 1) := by decide +kernel
theorem dX5_overlap_62 : decode cX5_overlap 62 = .ok (.aload_n 0, 1) := by decide +kernel
theorem dX5_overlap_63 : decode cX5_overlap 63 = .ok (.getfield 84, 3) := by decide +kernel
theorem dX5_overlap_66 : decode cX5_overlap 66 = .ok (.if_icmp .gt 21, 3) := by decide +kernel
theorem dX5_overlap_69 : decode cX5_overlap 69 = .ok (.aload_n 0, 1) := by decide +kernel
theorem dX5_overlap_70 : decode cX5_overlap 70 = .ok (.getfield 81, 3) := by decide +kernel
theorem dX5_overlap_73 : decode cX5_overlap 73 = .ok (.aload_n 0, 1) := by decide +kernel
theorem dX5_overlap_74 : decode cX5_overlap 74 = .ok (.getfield 84, 3) := by decide +kernel
theorem dX5_overlap_77 : decode cX5_overlap 77 = .ok (.iadd, 1) := by decide +kernel
theorem dX5_overlap_78 : decode cX5_overlap 78 = .ok (.iconst 2, 1) := by decide +kernel
theorem dX5_overlap_79 : decode cX5_overlap 79 = .ok (.iload_n 3, 1) := by decide +kernel
theorem dX5_overlap_80 : decode cX5_overlap 80 = .ok (.imul, 1) := by decide +kernel
theorem dX5_overlap_81 : decode cX5_overlap 81 = .ok (.isub, 1) := by decide +kernel
theorem dX5_overlap_82 : decode cX5_overlap 82 = .ok (.bipush 8, 2) := by decide +kernel
theorem dX5_overlap_84 : decode cX5_overlap 84 = .ok (.if_icmp .le 6, 3) := by decide +kernel
theorem dX5_overlap_87 : decode cX5_overlap 87 = .ok (.bipush (-3), 2) := by decide +kernel
theorem dX5_overlap_89 : decode cX5_overlap 89 = .ok (.ireturn, 1) := by decide +kernel
theorem dX5_overlap_90 : decode cX5_overlap 90 = .ok (.aload_n 0, 1) := by decide +kernel
theorem dX5_overlap_91 : decode cX5_overlap 91 = .ok (.aload_n 0, 1) := by decide +kernel
theorem dX5_overlap_92 : decode cX5_overlap 92 = .ok (.getfield 81, 3) := by decide +kernel
theorem dX5_overlap_95 : decode cX5_overlap 95 = .ok (.aload_n 0, 1) := by decide +kernel
theorem dX5_overlap_96 : decode cX5_overlap 96 = .ok (.getfield 84, 3) := by decide +kernel
theorem dX5_overlap_99 : decode cX5_overlap 99 = .ok (.iadd, 1) := by decide +kernel
theorem dX5_overlap_100 : decode cX5_overlap 100 = .ok (.iconst 2, 1) := by decide +kernel
theorem dX5_overlap_101 : decode cX5_overlap 101 = .ok (.iload_n 3, 1) := by decide +kernel
theorem dX5_overlap_102 : decode cX5_overlap 102 = .ok (.imul, 1) := by decide +kernel
theorem dX5_overlap_103 : decode cX5_overlap 103 = .ok (.isub, 1) := by decide +kernel
theorem dX5_overlap_104 : decode cX5_overlap 104 = .ok (.invokevirtual 113, 3) := by decide +kernel
theorem dX5_overlap_107 : decode cX5_overlap 107 = .ok (.iconst 0, 1) := by decide +kernel
theorem dX5_overlap_108 : decode cX5_overlap 108 = .ok (.istore 6, 2) := by decide +kernel
theorem dX5_overlap_110 : decode cX5_overlap 110 = .ok (.iload 6, 2) := by decide +kernel
theorem dX5_overlap_112 : decode cX5_overlap 112 = .ok (.iload_n 3, 1) := by decide +kernel
theorem dX5_overlap_113 : decode cX5_overlap 113 = .ok (.if_icmp .gt 182, 3) := by decide +kernel
theorem dX5_overlap_116 : decode cX5_overlap 116 = .ok (.iload 6, 2) := by decide +kernel
theorem dX5_overlap_118 : decode cX5_overlap 118 = .ok (.iconst 2, 1) := by decide +kernel
theorem dX5_overlap_119 : decode cX5_overlap 119 = .ok (.irem, 1) := by decide +kernel
theorem dX5_overlap_120 : decode cX5_overlap 120 = .ok (.ifCond .ne 12, 3) := by decide +kernel
theorem dX5_overlap_123 : decode cX5_overlap 123 = .ok (.iload_n 3, 1) := by decide +kernel
theorem dX5_overlap_124 : decode cX5_overlap 124 = .ok (.iload 6, 2) := by decide +kernel
theorem dX5_overlap_126 : decode cX5_overlap 126 = .ok (.invokestatic 123, 3) := by decide +kernel
theorem dX5_overlap_129 : decode cX5_overlap 129 = .ok (.goto 13, 3) := by decide +kernel
theorem dX5_overlap_132 : decode cX5_overlap 132 = .ok (.sipush 10007, 3) := by decide +kernel
theorem dX5_overlap_135 : decode cX5_overlap 135 = .ok (.iload_n 3, 1) := by decide +kernel
theorem dX5_overlap_136 : decode cX5_overlap 136 = .ok (.iload 6, 2) := by decide +kernel
theorem dX5_overlap_138 : decode cX5_overlap 138 = .ok (.invokestatic 123, 3) := by decide +kernel
theorem dX5_overlap_141 : decode cX5_overlap 141 = .ok (.isub, 1) := by decide +kernel
theorem dX5_overlap_142 : decode cX5_overlap 142 = .ok (.istore 7, 2) := by decide +kernel
theorem dX5_overlap_144 : decode cX5_overlap 144 = .ok (.iload 6, 2) := by decide +kernel
theorem dX5_overlap_146 : decode cX5_overlap 146 = .ok (.istore 8, 2) := by decide +kernel
theorem dX5_overlap_148 : decode cX5_overlap 148 = .ok (.iload 8, 2) := by decide +kernel
theorem dX5_overlap_150 : decode cX5_overlap 150 = .ok (.aload_n 0, 1) := by decide +kernel
theorem dX5_overlap_151 : decode cX5_overlap 151 = .ok (.getfield 81, 3) := by decide +kernel
theorem dX5_overlap_154 : decode cX5_overlap 154 = .ok (.if_icmp .gt 135, 3) := by decide +kernel
theorem dX5_overlap_157 : decode cX5_overlap 157 = .ok (.iload_n 3, 1) := by decide +kernel
theorem dX5_overlap_158 : decode cX5_overlap 158 = .ok (.iload 6, 2) := by decide +kernel
theorem dX5_overlap_160 : decode cX5_overlap 160 = .ok (.isub, 1) := by decide +kernel
theorem dX5_overlap_161 : decode cX5_overlap 161 = .ok (.istore 9, 2) := by decide +kernel
theorem dX5_overlap_163 : decode cX5_overlap 163 = .ok (.iload 9, 2) := by decide +kernel
theorem dX5_overlap_165 : decode cX5_overlap 165 = .ok (.aload_n 0, 1) := by decide +kernel
theorem dX5_overlap_166 : decode cX5_overlap 166 = .ok (.getfield 84, 3) := by decide +kernel
theorem dX5_overlap_169 : decode cX5_overlap 169 = .ok (.if_icmp .gt 114, 3) := by decide +kernel
theorem dX5_overlap_172 : decode cX5_overlap 172 = .ok (.aload_n 0, 1) := by decide +kernel
theorem dX5_overlap_173 : decode cX5_overlap 173 = .ok (.getfield 22, 3) := by decide +kernel
theorem dX5_overlap_176 : decode cX5_overlap 176 = .ok (.iload 8, 2) := by decide +kernel
theorem dX5_overlap_178 : decode cX5_overlap 178 = .ok (.iaload, 1) := by decide +kernel
theorem dX5_overlap_179 : decode cX5_overlap 179 = .ok (.aload_n 0, 1) := by decide +kernel
theorem dX5_overlap_180 : decode cX5_overlap 180 = .ok (.getfield 81, 3) := by decide +kernel
theorem dX5_overlap_183 : decode cX5_overlap 183 = .ok (.iload 8, 2) := by decide +kernel
theorem dX5_overlap_185 : decode cX5_overlap 185 = .ok (.iload_n 3, 1) := by decide +kernel
theorem dX5_overlap_186 : decode cX5_overlap 186 = .ok (.iload 6, 2) := by decide +kernel
theorem dX5_overlap_188 : decode cX5_overlap 188 = .ok (.isub, 1) := by decide +kernel
theorem dX5_overlap_189 : decode cX5_overlap 189 = .ok (.iload 6, 2) := by decide +kernel
theorem dX5_overlap_191 : decode cX5_overlap 191 = .ok (.invokestatic 126, 3) := by decide +kernel
theorem dX5_overlap_194 : decode cX5_overlap 194 = .ok (.invokestatic 52, 3) := by decide +kernel
theorem dX5_overlap_197 : decode cX5_overlap 197 = .ok (.istore 10, 2) := by decide +kernel
theorem dX5_overlap_199 : decode cX5_overlap 199 = .ok (.aload_n 0, 1) := by decide +kernel
theorem dX5_overlap_200 : decode cX5_overlap 200 = .ok (.getfield 25, 3) := by decide +kernel
theorem dX5_overlap_203 : decode cX5_overlap 203 = .ok (.iload 9, 2) := by decide +kernel
theorem dX5_overlap_205 : decode cX5_overlap 205 = .ok (.iaload, 1) := by decide +kernel
theorem dX5_overlap_206 : decode cX5_overlap 206 = .ok (.aload_n 0, 1) := by decide +kernel
theorem dX5_overlap_207 : decode cX5_overlap 207 = .ok (.getfield 84, 3) := by decide +kernel
theorem dX5_overlap_210 : decode cX5_overlap 210 = .ok (.iload 9, 2) := by decide +kernel
theorem dX5_overlap_212 : decode cX5_overlap 212 = .ok (.iload 6, 2) := by decide +kernel
theorem dX5_overlap_214 : decode cX5_overlap 214 = .ok (.iload_n 3, 1) := by decide +kernel
theorem dX5_overlap_215 : decode cX5_overlap 215 = .ok (.iload 6, 2) := by decide +kernel
theorem dX5_overlap_217 : decode cX5_overlap 217 = .ok (.isub, 1) := by decide +kernel
theorem dX5_overlap_218 : decode cX5_overlap 218 = .ok (.invokestatic 126, 3) := by decide +kernel
theorem dX5_overlap_221 : decode cX5_overlap 221 = .ok (.invokestatic 52, 3) := by decide +kernel
theorem dX5_overlap_224 : decode cX5_overlap 224 = .ok (.istore 11, 2) := by decide +kernel
theorem dX5_overlap_226 : decode cX5_overlap 226 = .ok (.iload 10, 2) := by decide +kernel
theorem dX5_overlap_228 : decode cX5_overlap 228 = .ok (.ifCond .eq 49, 3) := by decide +kernel
theorem dX5_overlap_231 : decode cX5_overlap 231 = .ok (.iload 11, 2) := by decide +kernel
theorem dX5_overlap_233 : decode cX5_overlap 233 = .ok (.ifCond .eq 44, 3) := by decide +kernel
theorem dX5_overlap_236 : decode cX5_overlap 236 = .ok (.aload_n 0, 1) := by decide +kernel
theorem dX5_overlap_237 : decode cX5_overlap 237 = .ok (.getfield 28, 3) := by decide +kernel
theorem dX5_overlap_240 : decode cX5_overlap 240 = .ok (.iload 8, 2) := by decide +kernel
theorem dX5_overlap_242 : decode cX5_overlap 242 = .ok (.iload 9, 2) := by decide +kernel
theorem dX5_overlap_244 : decode cX5_overlap 244 = .ok (.iadd, 1) := by decide +kernel
theorem dX5_overlap_245 : decode cX5_overlap 245 = .ok (.iload_n 3, 1) := by decide +kernel
theorem dX5_overlap_246 : decode cX5_overlap 246 = .ok (.isub, 1) := by decide +kernel
theorem dX5_overlap_247 : decode cX5_overlap 247 = .ok (.aload_n 0, 1) := by decide +kernel
theorem dX5_overlap_248 : decode cX5_overlap 248 = .ok (.getfield 28, 3) := by decide +kernel
theorem dX5_overlap_251 : decode cX5_overlap 251 = .ok (.iload 8, 2) := by decide +kernel
theorem dX5_overlap_253 : decode cX5_overlap 253 = .ok (.iload 9, 2) := by decide +kernel
theorem dX5_overlap_255 : decode cX5_overlap 255 = .ok (.iadd, 1) := by decide +kernel
theorem dX5_overlap_256 : decode cX5_overlap 256 = .ok (.iload_n 3, 1) := by decide +kernel
theorem dX5_overlap_257 : decode cX5_overlap 257 = .ok (.isub, 1) := by decide +kernel
theorem dX5_overlap_258 : decode cX5_overlap 258 = .ok (.iaload, 1) := by decide +kernel
theorem dX5_overlap_259 : decode cX5_overlap 259 = .ok (.i2l, 1) := by decide +kernel
theorem dX5_overlap_260 : decode cX5_overlap 260 = .ok (.iload 10, 2) := by decide +kernel
theorem dX5_overlap_262 : decode cX5_overlap 262 = .ok (.iload 11, 2) := by decide +kernel
theorem dX5_overlap_264 : decode cX5_overlap 264 = .ok (.invokestatic 52, 3) := by decide +kernel
theorem dX5_overlap_267 : decode cX5_overlap 267 = .ok (.i2l, 1) := by decide +kernel
theorem dX5_overlap_268 : decode cX5_overlap 268 = .ok (.iload 7, 2) := by decide +kernel
theorem dX5_overlap_270 : decode cX5_overlap 270 = .ok (.i2l, 1) := by decide +kernel
theorem dX5_overlap_271 : decode cX5_overlap 271 = .ok (.lmul, 1) := by decide +kernel
theorem dX5_overlap_272 : decode cX5_overlap 272 = .ok (.ladd, 1) := by decide +kernel
theorem dX5_overlap_273 : decode cX5_overlap 273 = .ok (.invokestatic 48, 3) := by decide +kernel
theorem dX5_overlap_276 : decode cX5_overlap 276 = .ok (.iastore, 1) := by decide +kernel
theorem dX5_overlap_277 : decode cX5_overlap 277 = .ok (.iinc 9 1, 3) := by decide +kernel
theorem dX5_overlap_280 : decode cX5_overlap 280 = .ok (.goto (-117), 3) := by decide +kernel
theorem dX5_overlap_283 : decode cX5_overlap 283 = .ok (.iinc 8 1, 3) := by decide +kernel
theorem dX5_overlap_286 : decode cX5_overlap 286 = .ok (.goto (-138), 3) := by decide +kernel
theorem dX5_overlap_289 : decode cX5_overlap 289 = .ok (.iinc 6 1, 3) := by decide +kernel
theorem dX5_overlap_292 : decode cX5_overlap 292 = .ok (.goto (-182), 3) := by decide +kernel
theorem dX5_overlap_295 : decode cX5_overlap 295 = .ok (.aload_n 0, 1) := by decide +kernel
theorem dX5_overlap_296 : decode cX5_overlap 296 = .ok (.getfield 81, 3) := by decide +kernel
theorem dX5_overlap_299 : decode cX5_overlap 299 = .ok (.iload_n 3, 1) := by decide +kernel
theorem dX5_overlap_300 : decode cX5_overlap 300 = .ok (.isub, 1) := by decide +kernel
theorem dX5_overlap_301 : decode cX5_overlap 301 = .ok (.invokestatic 130, 3) := by decide +kernel
theorem dX5_overlap_304 : decode cX5_overlap 304 = .ok (.aload_n 0, 1) := by decide +kernel
theorem dX5_overlap_305 : decode cX5_overlap 305 = .ok (.getfield 84, 3) := by decide +kernel
theorem dX5_overlap_308 : decode cX5_overlap 308 = .ok (.iload_n 3, 1) := by decide +kernel
theorem dX5_overlap_309 : decode cX5_overlap 309 = .ok (.isub, 1) := by decide +kernel
theorem dX5_overlap_310 : decode cX5_overlap 310 = .ok (.invokestatic 130, 3) := by decide +kernel
theorem dX5_overlap_313 : decode cX5_overlap 313 = .ok (.invokestatic 52, 3) := by decide +kernel
theorem dX5_overlap_316 : decode cX5_overlap 316 = .ok (.aload_n 0, 1) := by decide +kernel
theorem dX5_overlap_317 : decode cX5_overlap 317 = .ok (.getfield 81, 3) := by decide +kernel
theorem dX5_overlap_320 : decode cX5_overlap 320 = .ok (.invokestatic 130, 3) := by decide +kernel
theorem dX5_overlap_323 : decode cX5_overlap 323 = .ok (.aload_n 0, 1) := by decide +kernel
theorem dX5_overlap_324 : decode cX5_overlap 324 = .ok (.getfield 84, 3) := by decide +kernel
theorem dX5_overlap_327 : decode cX5_overlap 327 = .ok (.invokestatic 130, 3) := by decide +kernel
theorem dX5_overlap_330 : decode cX5_overlap 330 = .ok (.invokestatic 52, 3) := by decide +kernel
theorem dX5_overlap_333 : decode cX5_overlap 333 = .ok (.invokestatic 133, 3) := by decide +kernel
theorem dX5_overlap_336 : decode cX5_overlap 336 = .ok (.invokestatic 52, 3) := by decide +kernel
theorem dX5_overlap_339 : decode cX5_overlap 339 = .ok (.istore 6, 2) := by decide +kernel
theorem dX5_overlap_341 : decode cX5_overlap 341 = .ok (.iconst 0, 1) := by decide +kernel
theorem dX5_overlap_342 : decode cX5_overlap 342 = .ok (.istore 7, 2) := by decide +kernel
theorem dX5_overlap_344 : decode cX5_overlap 344 = .ok (.iload 7, 2) := by decide +kernel
theorem dX5_overlap_346 : decode cX5_overlap 346 = .ok (.aload_n 0, 1) := by decide +kernel
theorem dX5_overlap_347 : decode cX5_overlap 347 = .ok (.getfield 87, 3) := by decide +kernel
theorem dX5_overlap_350 : decode cX5_overlap 350 = .ok (.if_icmp .gt 28, 3) := by decide +kernel
theorem dX5_overlap_353 : decode cX5_overlap 353 = .ok (.aload_n 0, 1) := by decide +kernel
theorem dX5_overlap_354 : decode cX5_overlap 354 = .ok (.getfield 28, 3) := by decide +kernel
theorem dX5_overlap_357 : decode cX5_overlap 357 = .ok (.iload 7, 2) := by decide +kernel
theorem dX5_overlap_359 : decode cX5_overlap 359 = .ok (.aload_n 0, 1) := by decide +kernel
theorem dX5_overlap_360 : decode cX5_overlap 360 = .ok (.getfield 28, 3) := by decide +kernel
theorem dX5_overlap_363 : decode cX5_overlap 363 = .ok (.iload 7, 2) := by decide +kernel
theorem dX5_overlap_365 : decode cX5_overlap 365 = .ok (.iaload, 1) := by decide +kernel
theorem dX5_overlap_366 : decode cX5_overlap 366 = .ok (.iload 6, 2) := by decide +kernel
theorem dX5_overlap_368 : decode cX5_overlap 368 = .ok (.invokestatic 52, 3) := by decide +kernel
theorem dX5_overlap_371 : decode cX5_overlap 371 = .ok (.iastore, 1) := by decide +kernel
theorem dX5_overlap_372 : decode cX5_overlap 372 = .ok (.iinc 7 1, 3) := by decide +kernel
theorem dX5_overlap_375 : decode cX5_overlap 375 = .ok (.goto (-31), 3) := by decide +kernel
theorem dX5_overlap_378 : decode cX5_overlap 378 = .ok (.aload_n 0, 1) := by decide +kernel
theorem dX5_overlap_379 : decode cX5_overlap 379 = .ok (.iload 4, 2) := by decide +kernel
theorem dX5_overlap_381 : decode cX5_overlap 381 = .ok (.invokevirtual 116, 3) := by decide +kernel
theorem dX5_overlap_384 : decode cX5_overlap 384 = .ok (.ireturn, 1) := by decide +kernel
theorem dX5_alike_0 : decode cX5_alike 0 = .ok (.iload_n 1, 1) := by decide +kernel
theorem dX5_alike_1 : decode cX5_alike 1 = .ok (.invokestatic 66, 3) := by decide +kernel
theorem dX5_alike_4 : decode cX5_alike 4 = .ok (.ifCond .eq 10, 3) := by decide +kernel
theorem dX5_alike_7 : decode cX5_alike 7 = .ok (.iload_n 2, 1) := by decide +kernel
theorem dX5_alike_8 : decode cX5_alike 8 = .ok (.invokestatic 66, 3) := by decide +kernel
theorem dX5_alike_11 : decode cX5_alike 11 = .ok (.ifCond .ne 6, 3) := by decide +kernel
theorem dX5_alike_14 : decode cX5_alike 14 = .ok (.bipush (-2), 2) := by decide +kernel
theorem dX5_alike_16 : decode cX5_alike 16 = .ok (.ireturn, 1) := by decide +kernel
theorem dX5_alike_17 : decode cX5_alike 17 = .ok (.aload_n 0, 1) := by decide +kernel
theorem dX5_alike_18 : decode cX5_alike 18 = .ok (.iload_n 1, 1) := by decide +kernel
theorem dX5_alike_19 : decode cX5_alike 19 = .ok (.iload_n 2, 1) := by decide +kernel
theorem dX5_alike_20 : decode cX5_alike 20 = .ok (.invokevirtual 110, 3) := by decide +kernel
theorem dX5_alike_23 : decode cX5_alike 23 = .ok (.istore_n 3, 1) := by decide +kernel
theorem dX5_alike_24 : decode cX5_alike 24 = .ok (.iload_n 3, 1) := by decide +kernel
theorem dX5_alike_25 : decode cX5_alike 25 = .ok (.ifCond .eq 5, 3) := by decide +kernel
theorem dX5_alike_28 : decode cX5_alike 28 = .ok (.iload_n 3, 1) := by decide +kernel
theorem dX5_alike_29 : decode cX5_alike 29 = .ok (.ireturn, 1) := by decide +kernel
theorem dX5_alike_30 : decode cX5_alike 30 = .ok (.aload_n 0, 1) := by decide +kernel
theorem dX5_alike_31 : decode cX5_alike 31 = .ok (.getfield 81, 3) := by decide +kernel
theorem dX5_alike_34 : decode cX5_alike 34 = .ok (.aload_n 0, 1) := by decide +kernel
theorem dX5_alike_35 : decode cX5_alike 35 = .ok (.getfield 84, 3) := by decide +kernel
theorem dX5_alike_38 : decode cX5_alike 38 = .ok (.if_icmp .eq 5, 3) := by decide +kernel
theorem dX5_alike_41 : decode cX5_alike 41 = .ok (.iconst 0, 1) := by decide +kernel
theorem dX5_alike_42 : decode cX5_alike 42 = .ok (.ireturn, 1) := by decide +kernel
theorem dX5_alike_43 : decode cX5_alike 43 = .ok (.aload_n 0, 1) := by decide +kernel
theorem dX5_alike_44 : decode cX5_alike 44 = .ok (.invokevirtual 136, 3) := by decide +kernel
theorem dX5_alike_47 : decode cX5_alike 47 = .ok (.ifCond .ne 10, 3) := by decide +kernel
theorem dX5_alike_50 : decode cX5_alike 50 = .ok (.aload_n 0, 1) := by decide +kernel
theorem dX5_alike_51 : decode cX5_alike 51 = .ok (.invokevirtual 140, 3) := by decide +kernel
theorem dX5_alike_54 : decode cX5_alike 54 = .ok (.ifCond .eq 23, 3) := by decide +kernel
theorem dX5_alike_57 : decode cX5_alike 57 = .ok (.aload_n 0, 1) := by decide +kernel
theorem dX5_alike_58 : decode cX5_alike 58 = .ok (.invokevirtual 136, 3) := by decide +kernel
theorem dX5_alike_61 : decode cX5_alike 61 = .ok (.ifCond .eq 14, 3) := by decide +kernel
theorem dX5_alike_64 : decode cX5_alike 64 = .ok (.aload_n 0, 1) := by decide +kernel
theorem dX5_alike_65 : decode cX5_alike 65 = .ok (.invokevirtual 140, 3) := by decide +kernel
theorem dX5_alike_68 : decode cX5_alike 68 = .ok (.ifCond .eq 7, 3) := by decide +kernel
theorem dX5_alike_71 : decode cX5_alike 71 = .ok (.iconst 1, 1) := by decide +kernel
theorem dX5_alike_72 : decode cX5_alike 72 = .ok (.goto 4, 3) := by decide +kernel
theorem dX5_alike_75 : decode cX5_alike 75 = .ok (.iconst 0, 1) := by decide +kernel
theorem dX5_alike_76 : decode cX5_alike 76 = .ok (.ireturn, 1) := by decide +kernel
theorem dX5_alike_77 : decode cX5_alike 77 = .ok (.iconst 0, 1) := by decide +kernel
theorem dX5_alike_78 : decode cX5_alike 78 = .ok (.istore 4, 2) := by decide +kernel
theorem dX5_alike_80 : decode cX5_alike 80 = .ok (.aload_n 0, 1) := by decide +kernel
theorem dX5_alike_81 : decode cX5_alike 81 = .ok (.getfield 22, 3) := by decide +kernel
theorem dX5_alike_84 : decode cX5_alike 84 = .ok (.iload 4, 2) := by decide +kernel
theorem dX5_alike_86 : decode cX5_alike 86 = .ok (.iaload, 1) := by decide +kernel
theorem dX5_alike_87 : decode cX5_alike 87 = .ok (.ifCond .ne 9, 3) := by decide +kernel
theorem dX5_alike_90 : decode cX5_alike 90 = .ok (.iinc 4 1, 3) := by decide +kernel
theorem dX5_alike_93 : decode cX5_alike 93 = .ok (.goto (-13), 3) := by decide +kernel
theorem dX5_alike_96 : decode cX5_alike 96 = .ok (.aload_n 0, 1) := by decide +kernel
theorem dX5_alike_97 : decode cX5_alike 97 = .ok (.getfield 25, 3) := by decide +kernel
theorem dX5_alike_100 : decode cX5_alike 100 = .ok (.iload 4, 2) := by decide +kernel
theorem dX5_alike_102 : decode cX5_alike 102 = .ok (.iaload, 1) := by decide +kernel
theorem dX5_alike_103 : decode cX5_alike 103 = .ok (.aload_n 0, 1) := by decide +kernel
theorem dX5_alike_104 : decode cX5_alike 104 = .ok (.getfield 22, 3) := by decide +kernel
theorem dX5_alike_107 : decode cX5_alike 107 = .ok (.iload 4, 2) := by decide +kernel
theorem dX5_alike_109 : decode cX5_alike 109 = .ok (.iaload, 1) := by decide +kernel
theorem dX5_alike_110 : decode cX5_alike 110 = .ok (.invokestatic 133, 3) := by decide +kernel
theorem dX5_alike_113 : decode cX5_alike 113 = .ok (.invokestatic 52, 3) := by decide +kernel
theorem dX5_alike_116 : decode cX5_alike 116 = .ok (.istore 5, 2) := by decide +kernel
theorem dX5_alike_118 : decode cX5_alike 118 = .ok (.iconst 0, 1) := by decide +kernel
theorem dX5_alike_119 : decode cX5_alike 119 = .ok (.istore 6, 2) := by decide +kernel
theorem dX5_alike_121 : decode cX5_alike 121 = .ok (.iload 6, 2) := by decide +kernel
theorem dX5_alike_123 : decode cX5_alike 123 = .ok (.aload_n 0, 1) := by decide +kernel
theorem dX5_alike_124 : decode cX5_alike 124 = .ok (.getfield 81, 3) := by decide +kernel
theorem dX5_alike_127 : decode cX5_alike 127 = .ok (.if_icmp .gt 33, 3) := by decide +kernel
theorem dX5_alike_130 : decode cX5_alike 130 = .ok (.aload_n 0, 1) := by decide +kernel
theorem dX5_alike_131 : decode cX5_alike 131 = .ok (.getfield 25, 3) := by decide +kernel
theorem dX5_alike_134 : decode cX5_alike 134 = .ok (.iload 6, 2) := by decide +kernel
theorem dX5_alike_136 : decode cX5_alike 136 = .ok (.iaload, 1) := by decide +kernel
theorem dX5_alike_137 : decode cX5_alike 137 = .ok (.iload 5, 2) := by decide +kernel
theorem dX5_alike_139 : decode cX5_alike 139 = .ok (.aload_n 0, 1) := by decide +kernel
theorem dX5_alike_140 : decode cX5_alike 140 = .ok (.getfield 22, 3) := by decide +kernel
theorem dX5_alike_143 : decode cX5_alike 143 = .ok (.iload 6, 2) := by decide +kernel
theorem dX5_alike_145 : decode cX5_alike 145 = .ok (.iaload, 1) := by decide +kernel
theorem dX5_alike_146 : decode cX5_alike 146 = .ok (.invokestatic 52, 3) := by decide +kernel
theorem dX5_alike_149 : decode cX5_alike 149 = .ok (.if_icmp .eq 5, 3) := by decide +kernel
theorem dX5_alike_152 : decode cX5_alike 152 = .ok (.iconst 0, 1) := by decide +kernel
theorem dX5_alike_153 : decode cX5_alike 153 = .ok (.ireturn, 1) := by decide +kernel
theorem dX5_alike_154 : decode cX5_alike 154 = .ok (.iinc 6 1, 3) := by decide +kernel
theorem dX5_alike_157 : decode cX5_alike 157 = .ok (.goto (-36), 3) := by decide +kernel
theorem dX5_alike_160 : decode cX5_alike 160 = .ok (.iload 5, 2) := by decide +kernel
theorem dX5_alike_162 : decode cX5_alike 162 = .ok (.ireturn, 1) := by decide +kernel
theorem dX5_isRoot_0 : decode cX5_isRoot 0 = .ok (.iload_n 1, 1) := by decide +kernel
theorem dX5_isRoot_1 : decode cX5_isRoot 1 = .ok (.sipush 10007, 3) := by decide +kernel
theorem dX5_isRoot_4 : decode cX5_isRoot 4 = .ok (.if_icmp .ne 21, 3) := by decide +kernel
theorem dX5_isRoot_7 : decode cX5_isRoot 7 = .ok (.aload_n 0, 1) := by decide +kernel
theorem dX5_isRoot_8 : decode cX5_isRoot 8 = .ok (.getfield 22, 3) := by decide +kernel
theorem dX5_isRoot_11 : decode cX5_isRoot 11 = .ok (.aload_n 0, 1) := by decide +kernel
theorem dX5_isRoot_12 : decode cX5_isRoot 12 = .ok (.getfield 81, 3) := by decide +kernel
theorem dX5_isRoot_15 : decode cX5_isRoot 15 = .ok (.iaload, 1) := by decide +kernel
theorem dX5_isRoot_16 : decode cX5_isRoot 16 = .ok (.ifCond .ne 7, 3) := by decide +kernel
theorem dX5_isRoot_19 : decode cX5_isRoot 19 = .ok (.iconst 1, 1) := by decide +kernel
theorem dX5_isRoot_20 : decode cX5_isRoot 20 = .ok (.goto 4, 3) := by decide +kernel
theorem dX5_isRoot_23 : decode cX5_isRoot 23 = .ok (.iconst 0, 1) := by decide +kernel
theorem dX5_isRoot_24 : decode cX5_isRoot 24 = .ok (.ireturn, 1) := by decide +kernel
theorem dX5_isRoot_25 : decode cX5_isRoot 25 = .ok (.iconst 0, 1) := by decide +kernel
theorem dX5_isRoot_26 : decode cX5_isRoot 26 = .ok (.istore_n 2, 1) := by decide +kernel
theorem dX5_isRoot_27 : decode cX5_isRoot 27 = .ok (.aload_n 0, 1) := by decide +kernel
theorem dX5_isRoot_28 : decode cX5_isRoot 28 = .ok (.getfield 81, 3) := by decide +kernel
theorem dX5_isRoot_31 : decode cX5_isRoot 31 = .ok (.istore_n 3, 1) := by decide +kernel
theorem dX5_isRoot_32 : decode cX5_isRoot 32 = .ok (.iload_n 3, 1) := by decide +kernel
theorem dX5_isRoot_33 : decode cX5_isRoot 33 = .ok (.ifCond .lt 26, 3) := by decide +kernel
theorem dX5_isRoot_36 : decode cX5_isRoot 36 = .ok (.iload_n 2, 1) := by decide +kernel
theorem dX5_isRoot_37 : decode cX5_isRoot 37 = .ok (.i2l, 1) := by decide +kernel
theorem dX5_isRoot_38 : decode cX5_isRoot 38 = .ok (.iload_n 1, 1) := by decide +kernel
theorem dX5_isRoot_39 : decode cX5_isRoot 39 = .ok (.i2l, 1) := by decide +kernel
theorem dX5_isRoot_40 : decode cX5_isRoot 40 = .ok (.lmul, 1) := by decide +kernel
theorem dX5_isRoot_41 : decode cX5_isRoot 41 = .ok (.aload_n 0, 1) := by decide +kernel
theorem dX5_isRoot_42 : decode cX5_isRoot 42 = .ok (.getfield 22, 3) := by decide +kernel
theorem dX5_isRoot_45 : decode cX5_isRoot 45 = .ok (.iload_n 3, 1) := by decide +kernel
theorem dX5_isRoot_46 : decode cX5_isRoot 46 = .ok (.iaload, 1) := by decide +kernel
theorem dX5_isRoot_47 : decode cX5_isRoot 47 = .ok (.i2l, 1) := by decide +kernel
theorem dX5_isRoot_48 : decode cX5_isRoot 48 = .ok (.ladd, 1) := by decide +kernel
theorem dX5_isRoot_49 : decode cX5_isRoot 49 = .ok (.invokestatic 48, 3) := by decide +kernel
theorem dX5_isRoot_52 : decode cX5_isRoot 52 = .ok (.istore_n 2, 1) := by decide +kernel
theorem dX5_isRoot_53 : decode cX5_isRoot 53 = .ok (.iinc 3 (-1), 3) := by decide +kernel
theorem dX5_isRoot_56 : decode cX5_isRoot 56 = .ok (.goto (-24), 3) := by decide +kernel
theorem dX5_isRoot_59 : decode cX5_isRoot 59 = .ok (.iload_n 2, 1) := by decide +kernel
theorem dX5_isRoot_60 : decode cX5_isRoot 60 = .ok (.ifCond .ne 7, 3) := by decide +kernel
theorem dX5_isRoot_63 : decode cX5_isRoot 63 = .ok (.iconst 1, 1) := by decide +kernel
theorem dX5_isRoot_64 : decode cX5_isRoot 64 = .ok (.goto 4, 3) := by decide +kernel
theorem dX5_isRoot_67 : decode cX5_isRoot 67 = .ok (.iconst 0, 1) := by decide +kernel
theorem dX5_isRoot_68 : decode cX5_isRoot 68 = .ok (.ireturn, 1) := by decide +kernel
theorem dX5_lacksRoots_0 : decode cX5_lacksRoots 0 = .ok (.aload_n 0, 1) := by decide +kernel
theorem dX5_lacksRoots_1 : decode cX5_lacksRoots 1 = .ok (.iload_n 1, 1) := by decide +kernel
theorem dX5_lacksRoots_2 : decode cX5_lacksRoots 2 = .ok (.invokevirtual 102, 3) := by decide +kernel
theorem dX5_lacksRoots_5 : decode cX5_lacksRoots 5 = .ok (.istore_n 2, 1) := by decide +kernel
theorem dX5_lacksRoots_6 : decode cX5_lacksRoots 6 = .ok (.iload_n 2, 1) := by decide +kernel
theorem dX5_lacksRoots_7 : decode cX5_lacksRoots 7 = .ok (.ifCond .eq 7, 3) := by decide +kernel
theorem dX5_lacksRoots_10 : decode cX5_lacksRoots 10 = .ok (.iload_n 2, 1) := by decide +kernel
theorem dX5_lacksRoots_11 : decode cX5_lacksRoots 11 = .ok (.goto 16, 3) := by decide +kernel
theorem dX5_lacksRoots_14 : decode cX5_lacksRoots 14 = .ok (.aload_n 0, 1) := by decide +kernel
theorem dX5_lacksRoots_15 : decode cX5_lacksRoots 15 = .ok (.invokevirtual 136, 3) := by decide +kernel
theorem dX5_lacksRoots_18 : decode cX5_lacksRoots 18 = .ok (.ifCond .eq 8, 3) := by decide +kernel
theorem dX5_lacksRoots_21 : decode cX5_lacksRoots 21 = .ok (.bipush (-3), 2) := by decide +kernel
theorem dX5_lacksRoots_23 : decode cX5_lacksRoots 23 = .ok (.goto 4, 3) := by decide +kernel
theorem dX5_lacksRoots_26 : decode cX5_lacksRoots 26 = .ok (.iconst 0, 1) := by decide +kernel
theorem dX5_lacksRoots_27 : decode cX5_lacksRoots 27 = .ok (.ireturn, 1) := by decide +kernel
theorem dX5_roots_0 : decode cX5_roots 0 = .ok (.iload_n 1, 1) := by decide +kernel
theorem dX5_roots_1 : decode cX5_roots 1 = .ok (.invokestatic 66, 3) := by decide +kernel
theorem dX5_roots_4 : decode cX5_roots 4 = .ok (.ifCond .ne 6, 3) := by decide +kernel
theorem dX5_roots_7 : decode cX5_roots 7 = .ok (.bipush (-2), 2) := by decide +kernel
theorem dX5_roots_9 : decode cX5_roots 9 = .ok (.ireturn, 1) := by decide +kernel
theorem dX5_roots_10 : decode cX5_roots 10 = .ok (.aload_n 0, 1) := by decide +kernel
theorem dX5_roots_11 : decode cX5_roots 11 = .ok (.iload_n 1, 1) := by decide +kernel
theorem dX5_roots_12 : decode cX5_roots 12 = .ok (.invokevirtual 143, 3) := by decide +kernel
theorem dX5_roots_15 : decode cX5_roots 15 = .ok (.istore_n 2, 1) := by decide +kernel
theorem dX5_roots_16 : decode cX5_roots 16 = .ok (.iload_n 2, 1) := by decide +kernel
theorem dX5_roots_17 : decode cX5_roots 17 = .ok (.ifCond .eq 5, 3) := by decide +kernel
theorem dX5_roots_20 : decode cX5_roots 20 = .ok (.iload_n 2, 1) := by decide +kernel
theorem dX5_roots_21 : decode cX5_roots 21 = .ok (.ireturn, 1) := by decide +kernel
theorem dX5_roots_22 : decode cX5_roots 22 = .ok (.iconst 0, 1) := by decide +kernel
theorem dX5_roots_23 : decode cX5_roots 23 = .ok (.istore_n 3, 1) := by decide +kernel
theorem dX5_roots_24 : decode cX5_roots 24 = .ok (.iconst 0, 1) := by decide +kernel
theorem dX5_roots_25 : decode cX5_roots 25 = .ok (.istore 4, 2) := by decide +kernel
theorem dX5_roots_27 : decode cX5_roots 27 = .ok (.iload 4, 2) := by decide +kernel
theorem dX5_roots_29 : decode cX5_roots 29 = .ok (.sipush 10007, 3) := by decide +kernel
theorem dX5_roots_32 : decode cX5_roots 32 = .ok (.if_icmp .gt 26, 3) := by decide +kernel
theorem dX5_roots_35 : decode cX5_roots 35 = .ok (.iload_n 3, 1) := by decide +kernel
theorem dX5_roots_36 : decode cX5_roots 36 = .ok (.aload_n 0, 1) := by decide +kernel
theorem dX5_roots_37 : decode cX5_roots 37 = .ok (.iload 4, 2) := by decide +kernel
theorem dX5_roots_39 : decode cX5_roots 39 = .ok (.invokevirtual 146, 3) := by decide +kernel
theorem dX5_roots_42 : decode cX5_roots 42 = .ok (.ifCond .eq 7, 3) := by decide +kernel
theorem dX5_roots_45 : decode cX5_roots 45 = .ok (.iconst 1, 1) := by decide +kernel
theorem dX5_roots_46 : decode cX5_roots 46 = .ok (.goto 4, 3) := by decide +kernel
theorem dX5_roots_49 : decode cX5_roots 49 = .ok (.iconst 0, 1) := by decide +kernel
theorem dX5_roots_50 : decode cX5_roots 50 = .ok (.iadd, 1) := by decide +kernel
theorem dX5_roots_51 : decode cX5_roots 51 = .ok (.istore_n 3, 1) := by decide +kernel
theorem dX5_roots_52 : decode cX5_roots 52 = .ok (.iinc 4 1, 3) := by decide +kernel
theorem dX5_roots_55 : decode cX5_roots 55 = .ok (.goto (-28), 3) := by decide +kernel
theorem dX5_roots_58 : decode cX5_roots 58 = .ok (.iload_n 3, 1) := by decide +kernel
theorem dX5_roots_59 : decode cX5_roots 59 = .ok (.ireturn, 1) := by decide +kernel
theorem dX5_root_0 : decode cX5_root 0 = .ok (.iload_n 1, 1) := by decide +kernel
theorem dX5_root_1 : decode cX5_root 1 = .ok (.invokestatic 66, 3) := by decide +kernel
theorem dX5_root_4 : decode cX5_root 4 = .ok (.ifCond .eq 7, 3) := by decide +kernel
theorem dX5_root_7 : decode cX5_root 7 = .ok (.iload_n 2, 1) := by decide +kernel
theorem dX5_root_8 : decode cX5_root 8 = .ok (.ifCond .ge 6, 3) := by decide +kernel
theorem dX5_root_11 : decode cX5_root 11 = .ok (.bipush (-2), 2) := by decide +kernel
theorem dX5_root_13 : decode cX5_root 13 = .ok (.ireturn, 1) := by decide +kernel
theorem dX5_root_14 : decode cX5_root 14 = .ok (.aload_n 0, 1) := by decide +kernel
theorem dX5_root_15 : decode cX5_root 15 = .ok (.iload_n 1, 1) := by decide +kernel
theorem dX5_root_16 : decode cX5_root 16 = .ok (.invokevirtual 143, 3) := by decide +kernel
theorem dX5_root_19 : decode cX5_root 19 = .ok (.istore_n 3, 1) := by decide +kernel
theorem dX5_root_20 : decode cX5_root 20 = .ok (.iload_n 3, 1) := by decide +kernel
theorem dX5_root_21 : decode cX5_root 21 = .ok (.ifCond .eq 5, 3) := by decide +kernel
theorem dX5_root_24 : decode cX5_root 24 = .ok (.iload_n 3, 1) := by decide +kernel
theorem dX5_root_25 : decode cX5_root 25 = .ok (.ireturn, 1) := by decide +kernel
theorem dX5_root_26 : decode cX5_root 26 = .ok (.iconst 0, 1) := by decide +kernel
theorem dX5_root_27 : decode cX5_root 27 = .ok (.istore 4, 2) := by decide +kernel
theorem dX5_root_29 : decode cX5_root 29 = .ok (.iconst 0, 1) := by decide +kernel
theorem dX5_root_30 : decode cX5_root 30 = .ok (.istore 5, 2) := by decide +kernel
theorem dX5_root_32 : decode cX5_root 32 = .ok (.iload 5, 2) := by decide +kernel
theorem dX5_root_34 : decode cX5_root 34 = .ok (.sipush 10007, 3) := by decide +kernel
theorem dX5_root_37 : decode cX5_root 37 = .ok (.if_icmp .gt 30, 3) := by decide +kernel
theorem dX5_root_40 : decode cX5_root 40 = .ok (.aload_n 0, 1) := by decide +kernel
theorem dX5_root_41 : decode cX5_root 41 = .ok (.iload 5, 2) := by decide +kernel
theorem dX5_root_43 : decode cX5_root 43 = .ok (.invokevirtual 146, 3) := by decide +kernel
theorem dX5_root_46 : decode cX5_root 46 = .ok (.ifCond .eq 15, 3) := by decide +kernel
theorem dX5_root_49 : decode cX5_root 49 = .ok (.iload 4, 2) := by decide +kernel
theorem dX5_root_51 : decode cX5_root 51 = .ok (.iload_n 2, 1) := by decide +kernel
theorem dX5_root_52 : decode cX5_root 52 = .ok (.if_icmp .ne 6, 3) := by decide +kernel
theorem dX5_root_55 : decode cX5_root 55 = .ok (.iload 5, 2) := by decide +kernel
theorem dX5_root_57 : decode cX5_root 57 = .ok (.ireturn, 1) := by decide +kernel
theorem dX5_root_58 : decode cX5_root 58 = .ok (.iinc 4 1, 3) := by decide +kernel
theorem dX5_root_61 : decode cX5_root 61 = .ok (.iinc 5 1, 3) := by decide +kernel
theorem dX5_root_64 : decode cX5_root 64 = .ok (.goto (-32), 3) := by decide +kernel
theorem dX5_root_67 : decode cX5_root 67 = .ok (.iconst (-1), 1) := by decide +kernel
theorem dX5_root_68 : decode cX5_root 68 = .ok (.ireturn, 1) := by decide +kernel
theorem dX5_common_0 : decode cX5_common 0 = .ok (.iload_n 1, 1) := by decide +kernel
theorem dX5_common_1 : decode cX5_common 1 = .ok (.invokestatic 66, 3) := by decide +kernel
theorem dX5_common_4 : decode cX5_common 4 = .ok (.ifCond .eq 17, 3) := by decide +kernel
theorem dX5_common_7 : decode cX5_common 7 = .ok (.iload_n 2, 1) := by decide +kernel
theorem dX5_common_8 : decode cX5_common 8 = .ok (.invokestatic 66, 3) := by decide +kernel
theorem dX5_common_11 : decode cX5_common 11 = .ok (.ifCond .eq 10, 3) := by decide +kernel
theorem dX5_common_14 : decode cX5_common 14 = .ok (.iload_n 3, 1) := by decide +kernel
theorem dX5_common_15 : decode cX5_common 15 = .ok (.invokestatic 66, 3) := by decide +kernel
theorem dX5_common_18 : decode cX5_common 18 = .ok (.ifCond .ne 6, 3) := by decide +kernel
theorem dX5_common_21 : decode cX5_common 21 = .ok (.bipush (-2), 2) := by decide +kernel
theorem dX5_common_23 : decode cX5_common 23 = .ok (.ireturn, 1) := by decide +kernel
theorem dX5_common_24 : decode cX5_common 24 = .ok (.aload_n 0, 1) := by decide +kernel
theorem dX5_common_25 : decode cX5_common 25 = .ok (.iload_n 1, 1) := by decide +kernel
theorem dX5_common_26 : decode cX5_common 26 = .ok (.iload_n 2, 1) := by decide +kernel
theorem dX5_common_27 : decode cX5_common 27 = .ok (.invokevirtual 110, 3) := by decide +kernel
theorem dX5_common_30 : decode cX5_common 30 = .ok (.istore 4, 2) := by decide +kernel
theorem dX5_common_32 : decode cX5_common 32 = .ok (.iload 4, 2) := by decide +kernel
theorem dX5_common_34 : decode cX5_common 34 = .ok (.ifCond .eq 6, 3) := by decide +kernel
theorem dX5_common_37 : decode cX5_common 37 = .ok (.iload 4, 2) := by decide +kernel
theorem dX5_common_39 : decode cX5_common 39 = .ok (.ireturn, 1) := by decide +kernel
theorem dX5_common_40 : decode cX5_common 40 = .ok (.aload_n 0, 1) := by decide +kernel
theorem dX5_common_41 : decode cX5_common 41 = .ok (.invokevirtual 136, 3) := by decide +kernel
theorem dX5_common_44 : decode cX5_common 44 = .ok (.ifCond .ne 10, 3) := by decide +kernel
theorem dX5_common_47 : decode cX5_common 47 = .ok (.aload_n 0, 1) := by decide +kernel
theorem dX5_common_48 : decode cX5_common 48 = .ok (.invokevirtual 140, 3) := by decide +kernel
theorem dX5_common_51 : decode cX5_common 51 = .ok (.ifCond .eq 6, 3) := by decide +kernel
theorem dX5_common_54 : decode cX5_common 54 = .ok (.bipush (-3), 2) := by decide +kernel
theorem dX5_common_56 : decode cX5_common 56 = .ok (.ireturn, 1) := by decide +kernel
theorem dX5_common_57 : decode cX5_common 57 = .ok (.aload_n 0, 1) := by decide +kernel
theorem dX5_common_58 : decode cX5_common 58 = .ok (.getfield 81, 3) := by decide +kernel
theorem dX5_common_61 : decode cX5_common 61 = .ok (.istore 5, 2) := by decide +kernel
theorem dX5_common_63 : decode cX5_common 63 = .ok (.aload_n 0, 1) := by decide +kernel
theorem dX5_common_64 : decode cX5_common 64 = .ok (.getfield 22, 3) := by decide +kernel
theorem dX5_common_67 : decode cX5_common 67 = .ok (.iload 5, 2) := by decide +kernel
theorem dX5_common_69 : decode cX5_common 69 = .ok (.iaload, 1) := by decide +kernel
theorem dX5_common_70 : decode cX5_common 70 = .ok (.ifCond .ne 9, 3) := by decide +kernel
theorem dX5_common_73 : decode cX5_common 73 = .ok (.iinc 5 (-1), 3) := by decide +kernel
theorem dX5_common_76 : decode cX5_common 76 = .ok (.goto (-13), 3) := by decide +kernel
theorem dX5_common_79 : decode cX5_common 79 = .ok (.aload_n 0, 1) := by decide +kernel
theorem dX5_common_80 : decode cX5_common 80 = .ok (.getfield 84, 3) := by decide +kernel
theorem dX5_common_83 : decode cX5_common 83 = .ok (.istore 6, 2) := by decide +kernel
theorem dX5_common_85 : decode cX5_common 85 = .ok (.aload_n 0, 1) := by decide +kernel
theorem dX5_common_86 : decode cX5_common 86 = .ok (.getfield 25, 3) := by decide +kernel
theorem dX5_common_89 : decode cX5_common 89 = .ok (.iload 6, 2) := by decide +kernel
theorem dX5_common_91 : decode cX5_common 91 = .ok (.iaload, 1) := by decide +kernel
theorem dX5_common_92 : decode cX5_common 92 = .ok (.ifCond .ne 9, 3) := by decide +kernel
theorem dX5_common_95 : decode cX5_common 95 = .ok (.iinc 6 (-1), 3) := by decide +kernel
theorem dX5_common_98 : decode cX5_common 98 = .ok (.goto (-13), 3) := by decide +kernel
theorem dX5_common_101 : decode cX5_common 101 = .ok (.aload_n 0, 1) := by decide +kernel
theorem dX5_common_102 : decode cX5_common 102 = .ok (.getfield 81, 3) := by decide +kernel
theorem dX5_common_105 : decode cX5_common 105 = .ok (.iload 5, 2) := by decide +kernel
theorem dX5_common_107 : decode cX5_common 107 = .ok (.isub, 1) := by decide +kernel
theorem dX5_common_108 : decode cX5_common 108 = .ok (.aload_n 0, 1) := by decide +kernel
theorem dX5_common_109 : decode cX5_common 109 = .ok (.getfield 84, 3) := by decide +kernel
theorem dX5_common_112 : decode cX5_common 112 = .ok (.iload 6, 2) := by decide +kernel
theorem dX5_common_114 : decode cX5_common 114 = .ok (.isub, 1) := by decide +kernel
theorem dX5_common_115 : decode cX5_common 115 = .ok (.if_icmp .ge 13, 3) := by decide +kernel
theorem dX5_common_118 : decode cX5_common 118 = .ok (.aload_n 0, 1) := by decide +kernel
theorem dX5_common_119 : decode cX5_common 119 = .ok (.getfield 81, 3) := by decide +kernel
theorem dX5_common_122 : decode cX5_common 122 = .ok (.iload 5, 2) := by decide +kernel
theorem dX5_common_124 : decode cX5_common 124 = .ok (.isub, 1) := by decide +kernel
theorem dX5_common_125 : decode cX5_common 125 = .ok (.goto 10, 3) := by decide +kernel
theorem dX5_common_128 : decode cX5_common 128 = .ok (.aload_n 0, 1) := by decide +kernel
theorem dX5_common_129 : decode cX5_common 129 = .ok (.getfield 84, 3) := by decide +kernel
theorem dX5_common_132 : decode cX5_common 132 = .ok (.iload 6, 2) := by decide +kernel
theorem dX5_common_134 : decode cX5_common 134 = .ok (.isub, 1) := by decide +kernel
theorem dX5_common_135 : decode cX5_common 135 = .ok (.istore 7, 2) := by decide +kernel
theorem dX5_common_137 : decode cX5_common 137 = .ok (.iload 5, 2) := by decide +kernel
theorem dX5_common_139 : decode cX5_common 139 = .ok (.ifCond .lt 225, 3) := by decide +kernel
theorem dX5_common_142 : decode cX5_common 142 = .ok (.iload 6, 2) := by decide +kernel
theorem dX5_common_144 : decode cX5_common 144 = .ok (.ifCond .lt 220, 3) := by decide +kernel
theorem dX5_common_147 : decode cX5_common 147 = .ok (.iload 5, 2) := by decide +kernel
theorem dX5_common_149 : decode cX5_common 149 = .ok (.iload 6, 2) := by decide +kernel
theorem dX5_common_151 : decode cX5_common 151 = .ok (.if_icmp .lt 108, 3) := by decide +kernel
theorem dX5_common_154 : decode cX5_common 154 = .ok (.aload_n 0, 1) := by decide +kernel
theorem dX5_common_155 : decode cX5_common 155 = .ok (.getfield 22, 3) := by decide +kernel
theorem dX5_common_158 : decode cX5_common 158 = .ok (.iload 5, 2) := by decide +kernel
theorem dX5_common_160 : decode cX5_common 160 = .ok (.iaload, 1) := by decide +kernel
theorem dX5_common_161 : decode cX5_common 161 = .ok (.aload_n 0, 1) := by decide +kernel
theorem dX5_common_162 : decode cX5_common 162 = .ok (.getfield 25, 3) := by decide +kernel
theorem dX5_common_165 : decode cX5_common 165 = .ok (.iload 6, 2) := by decide +kernel
theorem dX5_common_167 : decode cX5_common 167 = .ok (.iaload, 1) := by decide +kernel
theorem dX5_common_168 : decode cX5_common 168 = .ok (.invokestatic 133, 3) := by decide +kernel
theorem dX5_common_171 : decode cX5_common 171 = .ok (.invokestatic 52, 3) := by decide +kernel
theorem dX5_common_174 : decode cX5_common 174 = .ok (.istore 8, 2) := by decide +kernel
theorem dX5_common_176 : decode cX5_common 176 = .ok (.iconst 0, 1) := by decide +kernel
theorem dX5_common_177 : decode cX5_common 177 = .ok (.istore 9, 2) := by decide +kernel
theorem dX5_common_179 : decode cX5_common 179 = .ok (.iload 9, 2) := by decide +kernel
theorem dX5_common_181 : decode cX5_common 181 = .ok (.iload 6, 2) := by decide +kernel
theorem dX5_common_183 : decode cX5_common 183 = .ok (.if_icmp .gt 52, 3) := by decide +kernel
theorem dX5_common_186 : decode cX5_common 186 = .ok (.aload_n 0, 1) := by decide +kernel
theorem dX5_common_187 : decode cX5_common 187 = .ok (.getfield 22, 3) := by decide +kernel
theorem dX5_common_190 : decode cX5_common 190 = .ok (.iload 5, 2) := by decide +kernel
theorem dX5_common_192 : decode cX5_common 192 = .ok (.iload 6, 2) := by decide +kernel
theorem dX5_common_194 : decode cX5_common 194 = .ok (.isub, 1) := by decide +kernel
theorem dX5_common_195 : decode cX5_common 195 = .ok (.iload 9, 2) := by decide +kernel
theorem dX5_common_197 : decode cX5_common 197 = .ok (.iadd, 1) := by decide +kernel
theorem dX5_common_198 : decode cX5_common 198 = .ok (.aload_n 0, 1) := by decide +kernel
theorem dX5_common_199 : decode cX5_common 199 = .ok (.getfield 22, 3) := by decide +kernel
theorem dX5_common_202 : decode cX5_common 202 = .ok (.iload 5, 2) := by decide +kernel
theorem dX5_common_204 : decode cX5_common 204 = .ok (.iload 6, 2) := by decide +kernel
theorem dX5_common_206 : decode cX5_common 206 = .ok (.isub, 1) := by decide +kernel
theorem dX5_common_207 : decode cX5_common 207 = .ok (.iload 9, 2) := by decide +kernel
theorem dX5_common_209 : decode cX5_common 209 = .ok (.iadd, 1) := by decide +kernel
theorem dX5_common_210 : decode cX5_common 210 = .ok (.iaload, 1) := by decide +kernel
theorem dX5_common_211 : decode cX5_common 211 = .ok (.i2l, 1) := by decide +kernel
theorem dX5_common_212 : decode cX5_common 212 = .ok (.iload 8, 2) := by decide +kernel
theorem dX5_common_214 : decode cX5_common 214 = .ok (.i2l, 1) := by decide +kernel
theorem dX5_common_215 : decode cX5_common 215 = .ok (.aload_n 0, 1) := by decide +kernel
theorem dX5_common_216 : decode cX5_common 216 = .ok (.getfield 25, 3) := by decide +kernel
theorem dX5_common_219 : decode cX5_common 219 = .ok (.iload 9, 2) := by decide +kernel
theorem dX5_common_221 : decode cX5_common 221 = .ok (.iaload, 1) := by decide +kernel
theorem dX5_common_222 : decode cX5_common 222 = .ok (.i2l, 1) := by decide +kernel
theorem dX5_common_223 : decode cX5_common 223 = .ok (.lmul, 1) := by decide +kernel
theorem dX5_common_224 : decode cX5_common 224 = .ok (.lsub, 1) := by decide +kernel
theorem dX5_common_225 : decode cX5_common 225 = .ok (.invokestatic 48, 3) := by decide +kernel
theorem dX5_common_228 : decode cX5_common 228 = .ok (.iastore, 1) := by decide +kernel
theorem dX5_common_229 : decode cX5_common 229 = .ok (.iinc 9 1, 3) := by decide +kernel
theorem dX5_common_232 : decode cX5_common 232 = .ok (.goto (-53), 3) := by decide +kernel
theorem dX5_common_235 : decode cX5_common 235 = .ok (.iload 5, 2) := by decide +kernel
theorem dX5_common_237 : decode cX5_common 237 = .ok (.ifCond .lt 19, 3) := by decide +kernel
theorem dX5_common_240 : decode cX5_common 240 = .ok (.aload_n 0, 1) := by decide +kernel
theorem dX5_common_241 : decode cX5_common 241 = .ok (.getfield 22, 3) := by decide +kernel
theorem dX5_common_244 : decode cX5_common 244 = .ok (.iload 5, 2) := by decide +kernel
theorem dX5_common_246 : decode cX5_common 246 = .ok (.iaload, 1) := by decide +kernel
theorem dX5_common_247 : decode cX5_common 247 = .ok (.ifCond .ne 9, 3) := by decide +kernel
theorem dX5_common_250 : decode cX5_common 250 = .ok (.iinc 5 (-1), 3) := by decide +kernel
theorem dX5_common_253 : decode cX5_common 253 = .ok (.goto (-18), 3) := by decide +kernel
theorem dX5_common_256 : decode cX5_common 256 = .ok (.goto (-119), 3) := by decide +kernel
theorem dX5_common_259 : decode cX5_common 259 = .ok (.aload_n 0, 1) := by decide +kernel
theorem dX5_common_260 : decode cX5_common 260 = .ok (.getfield 25, 3) := by decide +kernel
theorem dX5_common_263 : decode cX5_common 263 = .ok (.iload 6, 2) := by decide +kernel
theorem dX5_common_265 : decode cX5_common 265 = .ok (.iaload, 1) := by decide +kernel
theorem dX5_common_266 : decode cX5_common 266 = .ok (.aload_n 0, 1) := by decide +kernel
theorem dX5_common_267 : decode cX5_common 267 = .ok (.getfield 22, 3) := by decide +kernel
theorem dX5_common_270 : decode cX5_common 270 = .ok (.iload 5, 2) := by decide +kernel
theorem dX5_common_272 : decode cX5_common 272 = .ok (.iaload, 1) := by decide +kernel
theorem dX5_common_273 : decode cX5_common 273 = .ok (.invokestatic 133, 3) := by decide +kernel
theorem dX5_common_276 : decode cX5_common 276 = .ok (.invokestatic 52, 3) := by decide +kernel
theorem dX5_common_279 : decode cX5_common 279 = .ok (.istore 8, 2) := by decide +kernel
theorem dX5_common_281 : decode cX5_common 281 = .ok (.iconst 0, 1) := by decide +kernel
theorem dX5_common_282 : decode cX5_common 282 = .ok (.istore 9, 2) := by decide +kernel
theorem dX5_common_284 : decode cX5_common 284 = .ok (.iload 9, 2) := by decide +kernel
theorem dX5_common_286 : decode cX5_common 286 = .ok (.iload 5, 2) := by decide +kernel
theorem dX5_common_288 : decode cX5_common 288 = .ok (.if_icmp .gt 52, 3) := by decide +kernel
theorem dX5_common_291 : decode cX5_common 291 = .ok (.aload_n 0, 1) := by decide +kernel
theorem dX5_common_292 : decode cX5_common 292 = .ok (.getfield 25, 3) := by decide +kernel
theorem dX5_common_295 : decode cX5_common 295 = .ok (.iload 6, 2) := by decide +kernel
theorem dX5_common_297 : decode cX5_common 297 = .ok (.iload 5, 2) := by decide +kernel
theorem dX5_common_299 : decode cX5_common 299 = .ok (.isub, 1) := by decide +kernel
theorem dX5_common_300 : decode cX5_common 300 = .ok (.iload 9, 2) := by decide +kernel
theorem dX5_common_302 : decode cX5_common 302 = .ok (.iadd, 1) := by decide +kernel
theorem dX5_common_303 : decode cX5_common 303 = .ok (.aload_n 0, 1) := by decide +kernel
theorem dX5_common_304 : decode cX5_common 304 = .ok (.getfield 25, 3) := by decide +kernel
theorem dX5_common_307 : decode cX5_common 307 = .ok (.iload 6, 2) := by decide +kernel
theorem dX5_common_309 : decode cX5_common 309 = .ok (.iload 5, 2) := by decide +kernel
theorem dX5_common_311 : decode cX5_common 311 = .ok (.isub, 1) := by decide +kernel
theorem dX5_common_312 : decode cX5_common 312 = .ok (.iload 9, 2) := by decide +kernel
theorem dX5_common_314 : decode cX5_common 314 = .ok (.iadd, 1) := by decide +kernel
theorem dX5_common_315 : decode cX5_common 315 = .ok (.iaload, 1) := by decide +kernel
theorem dX5_common_316 : decode cX5_common 316 = .ok (.i2l, 1) := by decide +kernel
theorem dX5_common_317 : decode cX5_common 317 = .ok (.iload 8, 2) := by decide +kernel
theorem dX5_common_319 : decode cX5_common 319 = .ok (.i2l, 1) := by decide +kernel
theorem dX5_common_320 : decode cX5_common 320 = .ok (.aload_n 0, 1) := by decide +kernel
theorem dX5_common_321 : decode cX5_common 321 = .ok (.getfield 22, 3) := by decide +kernel
theorem dX5_common_324 : decode cX5_common 324 = .ok (.iload 9, 2) := by decide +kernel
theorem dX5_common_326 : decode cX5_common 326 = .ok (.iaload, 1) := by decide +kernel
theorem dX5_common_327 : decode cX5_common 327 = .ok (.i2l, 1) := by decide +kernel
theorem dX5_common_328 : decode cX5_common 328 = .ok (.lmul, 1) := by decide +kernel
theorem dX5_common_329 : decode cX5_common 329 = .ok (.lsub, 1) := by decide +kernel
theorem dX5_common_330 : decode cX5_common 330 = .ok (.invokestatic 48, 3) := by decide +kernel
theorem dX5_common_333 : decode cX5_common 333 = .ok (.iastore, 1) := by decide +kernel
theorem dX5_common_334 : decode cX5_common 334 = .ok (.iinc 9 1, 3) := by decide +kernel
theorem dX5_common_337 : decode cX5_common 337 = .ok (.goto (-53), 3) := by decide +kernel
theorem dX5_common_340 : decode cX5_common 340 = .ok (.iload 6, 2) := by decide +kernel
theorem dX5_common_342 : decode cX5_common 342 = .ok (.ifCond .lt 19, 3) := by decide +kernel
theorem dX5_common_345 : decode cX5_common 345 = .ok (.aload_n 0, 1) := by decide +kernel
theorem dX5_common_346 : decode cX5_common 346 = .ok (.getfield 25, 3) := by decide +kernel
theorem dX5_common_349 : decode cX5_common 349 = .ok (.iload 6, 2) := by decide +kernel
theorem dX5_common_351 : decode cX5_common 351 = .ok (.iaload, 1) := by decide +kernel
theorem dX5_common_352 : decode cX5_common 352 = .ok (.ifCond .ne 9, 3) := by decide +kernel
theorem dX5_common_355 : decode cX5_common 355 = .ok (.iinc 6 (-1), 3) := by decide +kernel
theorem dX5_common_358 : decode cX5_common 358 = .ok (.goto (-18), 3) := by decide +kernel
theorem dX5_common_361 : decode cX5_common 361 = .ok (.goto (-224), 3) := by decide +kernel
theorem dX5_common_364 : decode cX5_common 364 = .ok (.iload 5, 2) := by decide +kernel
theorem dX5_common_366 : decode cX5_common 366 = .ok (.ifCond .lt 8, 3) := by decide +kernel
theorem dX5_common_369 : decode cX5_common 369 = .ok (.iload 5, 2) := by decide +kernel
theorem dX5_common_371 : decode cX5_common 371 = .ok (.goto 5, 3) := by decide +kernel
theorem dX5_common_374 : decode cX5_common 374 = .ok (.iload 6, 2) := by decide +kernel
theorem dX5_common_376 : decode cX5_common 376 = .ok (.istore 8, 2) := by decide +kernel
theorem dX5_common_378 : decode cX5_common 378 = .ok (.aload_n 0, 1) := by decide +kernel
theorem dX5_common_379 : decode cX5_common 379 = .ok (.iload 8, 2) := by decide +kernel
theorem dX5_common_381 : decode cX5_common 381 = .ok (.iload 7, 2) := by decide +kernel
theorem dX5_common_383 : decode cX5_common 383 = .ok (.iadd, 1) := by decide +kernel
theorem dX5_common_384 : decode cX5_common 384 = .ok (.invokevirtual 113, 3) := by decide +kernel
theorem dX5_common_387 : decode cX5_common 387 = .ok (.iconst 0, 1) := by decide +kernel
theorem dX5_common_388 : decode cX5_common 388 = .ok (.istore 9, 2) := by decide +kernel
theorem dX5_common_390 : decode cX5_common 390 = .ok (.iload 9, 2) := by decide +kernel
theorem dX5_common_392 : decode cX5_common 392 = .ok (.iload 8, 2) := by decide +kernel
theorem dX5_common_394 : decode cX5_common 394 = .ok (.if_icmp .gt 38, 3) := by decide +kernel
theorem dX5_common_397 : decode cX5_common 397 = .ok (.aload_n 0, 1) := by decide +kernel
theorem dX5_common_398 : decode cX5_common 398 = .ok (.getfield 28, 3) := by decide +kernel
theorem dX5_common_401 : decode cX5_common 401 = .ok (.iload 9, 2) := by decide +kernel
theorem dX5_common_403 : decode cX5_common 403 = .ok (.iload 5, 2) := by decide +kernel
theorem dX5_common_405 : decode cX5_common 405 = .ok (.ifCond .lt 13, 3) := by decide +kernel
theorem dX5_common_408 : decode cX5_common 408 = .ok (.aload_n 0, 1) := by decide +kernel
theorem dX5_common_409 : decode cX5_common 409 = .ok (.getfield 22, 3) := by decide +kernel
theorem dX5_common_412 : decode cX5_common 412 = .ok (.iload 9, 2) := by decide +kernel
theorem dX5_common_414 : decode cX5_common 414 = .ok (.iaload, 1) := by decide +kernel
theorem dX5_common_415 : decode cX5_common 415 = .ok (.goto 10, 3) := by decide +kernel
theorem dX5_common_418 : decode cX5_common 418 = .ok (.aload_n 0, 1) := by decide +kernel
theorem dX5_common_419 : decode cX5_common 419 = .ok (.getfield 25, 3) := by decide +kernel
theorem dX5_common_422 : decode cX5_common 422 = .ok (.iload 9, 2) := by decide +kernel
theorem dX5_common_424 : decode cX5_common 424 = .ok (.iaload, 1) := by decide +kernel
theorem dX5_common_425 : decode cX5_common 425 = .ok (.iastore, 1) := by decide +kernel
theorem dX5_common_426 : decode cX5_common 426 = .ok (.iinc 9 1, 3) := by decide +kernel
theorem dX5_common_429 : decode cX5_common 429 = .ok (.goto (-39), 3) := by decide +kernel
theorem dX5_common_432 : decode cX5_common 432 = .ok (.iconst 0, 1) := by decide +kernel
theorem dX5_common_433 : decode cX5_common 433 = .ok (.istore 9, 2) := by decide +kernel
theorem dX5_common_435 : decode cX5_common 435 = .ok (.aload_n 0, 1) := by decide +kernel
theorem dX5_common_436 : decode cX5_common 436 = .ok (.getfield 28, 3) := by decide +kernel
theorem dX5_common_439 : decode cX5_common 439 = .ok (.iload 9, 2) := by decide +kernel
theorem dX5_common_441 : decode cX5_common 441 = .ok (.iaload, 1) := by decide +kernel
theorem dX5_common_442 : decode cX5_common 442 = .ok (.ifCond .ne 9, 3) := by decide +kernel
theorem dX5_common_445 : decode cX5_common 445 = .ok (.iinc 9 1, 3) := by decide +kernel
theorem dX5_common_448 : decode cX5_common 448 = .ok (.goto (-13), 3) := by decide +kernel
theorem dX5_common_451 : decode cX5_common 451 = .ok (.aload_n 0, 1) := by decide +kernel
theorem dX5_common_452 : decode cX5_common 452 = .ok (.getfield 28, 3) := by decide +kernel
theorem dX5_common_455 : decode cX5_common 455 = .ok (.iload 9, 2) := by decide +kernel
theorem dX5_common_457 : decode cX5_common 457 = .ok (.iaload, 1) := by decide +kernel
theorem dX5_common_458 : decode cX5_common 458 = .ok (.invokestatic 133, 3) := by decide +kernel
theorem dX5_common_461 : decode cX5_common 461 = .ok (.istore 10, 2) := by decide +kernel
theorem dX5_common_463 : decode cX5_common 463 = .ok (.iconst 0, 1) := by decide +kernel
theorem dX5_common_464 : decode cX5_common 464 = .ok (.istore 11, 2) := by decide +kernel
theorem dX5_common_466 : decode cX5_common 466 = .ok (.iload 11, 2) := by decide +kernel
theorem dX5_common_468 : decode cX5_common 468 = .ok (.aload_n 0, 1) := by decide +kernel
theorem dX5_common_469 : decode cX5_common 469 = .ok (.getfield 87, 3) := by decide +kernel
theorem dX5_common_472 : decode cX5_common 472 = .ok (.if_icmp .gt 28, 3) := by decide +kernel
theorem dX5_common_475 : decode cX5_common 475 = .ok (.aload_n 0, 1) := by decide +kernel
theorem dX5_common_476 : decode cX5_common 476 = .ok (.getfield 28, 3) := by decide +kernel
theorem dX5_common_479 : decode cX5_common 479 = .ok (.iload 11, 2) := by decide +kernel
theorem dX5_common_481 : decode cX5_common 481 = .ok (.aload_n 0, 1) := by decide +kernel
theorem dX5_common_482 : decode cX5_common 482 = .ok (.getfield 28, 3) := by decide +kernel
theorem dX5_common_485 : decode cX5_common 485 = .ok (.iload 11, 2) := by decide +kernel
theorem dX5_common_487 : decode cX5_common 487 = .ok (.iaload, 1) := by decide +kernel
theorem dX5_common_488 : decode cX5_common 488 = .ok (.iload 10, 2) := by decide +kernel
theorem dX5_common_490 : decode cX5_common 490 = .ok (.invokestatic 52, 3) := by decide +kernel
theorem dX5_common_493 : decode cX5_common 493 = .ok (.iastore, 1) := by decide +kernel
theorem dX5_common_494 : decode cX5_common 494 = .ok (.iinc 11 1, 3) := by decide +kernel
theorem dX5_common_497 : decode cX5_common 497 = .ok (.goto (-31), 3) := by decide +kernel
theorem dX5_common_500 : decode cX5_common 500 = .ok (.aload_n 0, 1) := by decide +kernel
theorem dX5_common_501 : decode cX5_common 501 = .ok (.iload_n 3, 1) := by decide +kernel
theorem dX5_common_502 : decode cX5_common 502 = .ok (.invokevirtual 116, 3) := by decide +kernel
theorem dX5_common_505 : decode cX5_common 505 = .ok (.ireturn, 1) := by decide +kernel
theorem dX5_eliminate_0 : decode cX5_eliminate 0 = .ok (.aload_n 0, 1) := by decide +kernel
theorem dX5_eliminate_1 : decode cX5_eliminate 1 = .ok (.iconst 1, 1) := by decide +kernel
theorem dX5_eliminate_2 : decode cX5_eliminate 2 = .ok (.putfield 149, 3) := by decide +kernel
theorem dX5_eliminate_5 : decode cX5_eliminate 5 = .ok (.iconst 0, 1) := by decide +kernel
theorem dX5_eliminate_6 : decode cX5_eliminate 6 = .ok (.istore_n 3, 1) := by decide +kernel
theorem dX5_eliminate_7 : decode cX5_eliminate 7 = .ok (.iconst 0, 1) := by decide +kernel
theorem dX5_eliminate_8 : decode cX5_eliminate 8 = .ok (.istore 4, 2) := by decide +kernel
theorem dX5_eliminate_10 : decode cX5_eliminate 10 = .ok (.iload 4, 2) := by decide +kernel
theorem dX5_eliminate_12 : decode cX5_eliminate 12 = .ok (.iload_n 2, 1) := by decide +kernel
theorem dX5_eliminate_13 : decode cX5_eliminate 13 = .ok (.if_icmp .ge 291, 3) := by decide +kernel
theorem dX5_eliminate_16 : decode cX5_eliminate 16 = .ok (.iload_n 3, 1) := by decide +kernel
theorem dX5_eliminate_17 : decode cX5_eliminate 17 = .ok (.istore 5, 2) := by decide +kernel
theorem dX5_eliminate_19 : decode cX5_eliminate 19 = .ok (.iload 5, 2) := by decide +kernel
theorem dX5_eliminate_21 : decode cX5_eliminate 21 = .ok (.iload_n 1, 1) := by decide +kernel
theorem dX5_eliminate_22 : decode cX5_eliminate 22 = .ok (.if_icmp .ge 25, 3) := by decide +kernel
theorem dX5_eliminate_25 : decode cX5_eliminate 25 = .ok (.aload_n 0, 1) := by decide +kernel
theorem dX5_eliminate_26 : decode cX5_eliminate 26 = .ok (.getfield 34, 3) := by decide +kernel
theorem dX5_eliminate_29 : decode cX5_eliminate 29 = .ok (.bipush 18, 2) := by decide +kernel
theorem dX5_eliminate_31 : decode cX5_eliminate 31 = .ok (.iload 5, 2) := by decide +kernel
theorem dX5_eliminate_33 : decode cX5_eliminate 33 = .ok (.imul, 1) := by decide +kernel
theorem dX5_eliminate_34 : decode cX5_eliminate 34 = .ok (.iload 4, 2) := by decide +kernel
theorem dX5_eliminate_36 : decode cX5_eliminate 36 = .ok (.iadd, 1) := by decide +kernel
theorem dX5_eliminate_37 : decode cX5_eliminate 37 = .ok (.iaload, 1) := by decide +kernel
theorem dX5_eliminate_38 : decode cX5_eliminate 38 = .ok (.ifCond .ne 9, 3) := by decide +kernel
theorem dX5_eliminate_41 : decode cX5_eliminate 41 = .ok (.iinc 5 1, 3) := by decide +kernel
theorem dX5_eliminate_44 : decode cX5_eliminate 44 = .ok (.goto (-25), 3) := by decide +kernel
theorem dX5_eliminate_47 : decode cX5_eliminate 47 = .ok (.iload 5, 2) := by decide +kernel
theorem dX5_eliminate_49 : decode cX5_eliminate 49 = .ok (.iload_n 1, 1) := by decide +kernel
theorem dX5_eliminate_50 : decode cX5_eliminate 50 = .ok (.if_icmp .ne 11, 3) := by decide +kernel
theorem dX5_eliminate_53 : decode cX5_eliminate 53 = .ok (.aload_n 0, 1) := by decide +kernel
theorem dX5_eliminate_54 : decode cX5_eliminate 54 = .ok (.iconst 0, 1) := by decide +kernel
theorem dX5_eliminate_55 : decode cX5_eliminate 55 = .ok (.putfield 149, 3) := by decide +kernel
theorem dX5_eliminate_58 : decode cX5_eliminate 58 = .ok (.goto 240, 3) := by decide +kernel
theorem dX5_eliminate_61 : decode cX5_eliminate 61 = .ok (.iload 5, 2) := by decide +kernel
theorem dX5_eliminate_63 : decode cX5_eliminate 63 = .ok (.iload_n 3, 1) := by decide +kernel
theorem dX5_eliminate_64 : decode cX5_eliminate 64 = .ok (.if_icmp .eq 85, 3) := by decide +kernel
theorem dX5_eliminate_67 : decode cX5_eliminate 67 = .ok (.aload_n 0, 1) := by decide +kernel
theorem dX5_eliminate_68 : decode cX5_eliminate 68 = .ok (.aload_n 0, 1) := by decide +kernel
theorem dX5_eliminate_69 : decode cX5_eliminate 69 = .ok (.getfield 149, 3) := by decide +kernel
theorem dX5_eliminate_72 : decode cX5_eliminate 72 = .ok (.ineg, 1) := by decide +kernel
theorem dX5_eliminate_73 : decode cX5_eliminate 73 = .ok (.i2l, 1) := by decide +kernel
theorem dX5_eliminate_74 : decode cX5_eliminate 74 = .ok (.invokestatic 48, 3) := by decide +kernel
theorem dX5_eliminate_77 : decode cX5_eliminate 77 = .ok (.putfield 149, 3) := by decide +kernel
theorem dX5_eliminate_80 : decode cX5_eliminate 80 = .ok (.iconst 0, 1) := by decide +kernel
theorem dX5_eliminate_81 : decode cX5_eliminate 81 = .ok (.istore 6, 2) := by decide +kernel
theorem dX5_eliminate_83 : decode cX5_eliminate 83 = .ok (.iload 6, 2) := by decide +kernel
theorem dX5_eliminate_85 : decode cX5_eliminate 85 = .ok (.iload_n 2, 1) := by decide +kernel
theorem dX5_eliminate_86 : decode cX5_eliminate 86 = .ok (.if_icmp .ge 63, 3) := by decide +kernel
theorem dX5_eliminate_89 : decode cX5_eliminate 89 = .ok (.aload_n 0, 1) := by decide +kernel
theorem dX5_eliminate_90 : decode cX5_eliminate 90 = .ok (.getfield 34, 3) := by decide +kernel
theorem dX5_eliminate_93 : decode cX5_eliminate 93 = .ok (.bipush 18, 2) := by decide +kernel
theorem dX5_eliminate_95 : decode cX5_eliminate 95 = .ok (.iload 5, 2) := by decide +kernel
theorem dX5_eliminate_97 : decode cX5_eliminate 97 = .ok (.imul, 1) := by decide +kernel
theorem dX5_eliminate_98 : decode cX5_eliminate 98 = .ok (.iload 6, 2) := by decide +kernel
theorem dX5_eliminate_100 : decode cX5_eliminate 100 = .ok (.iadd, 1) := by decide +kernel
theorem dX5_eliminate_101 : decode cX5_eliminate 101 = .ok (.iaload, 1) := by decide +kernel
theorem dX5_eliminate_102 : decode cX5_eliminate 102 = .ok (.istore 7, 2) := by decide +kernel
theorem dX5_eliminate_104 : decode cX5_eliminate 104 = .ok (.aload_n 0, 1) := by decide +kernel
theorem dX5_eliminate_105 : decode cX5_eliminate 105 = .ok (.getfield 34, 3) := by decide +kernel
theorem dX5_eliminate_108 : decode cX5_eliminate 108 = .ok (.bipush 18, 2) := by decide +kernel
theorem dX5_eliminate_110 : decode cX5_eliminate 110 = .ok (.iload 5, 2) := by decide +kernel
theorem dX5_eliminate_112 : decode cX5_eliminate 112 = .ok (.imul, 1) := by decide +kernel
theorem dX5_eliminate_113 : decode cX5_eliminate 113 = .ok (.iload 6, 2) := by decide +kernel
theorem dX5_eliminate_115 : decode cX5_eliminate 115 = .ok (.iadd, 1) := by decide +kernel
theorem dX5_eliminate_116 : decode cX5_eliminate 116 = .ok (.aload_n 0, 1) := by decide +kernel
theorem dX5_eliminate_117 : decode cX5_eliminate 117 = .ok (.getfield 34, 3) := by decide +kernel
theorem dX5_eliminate_120 : decode cX5_eliminate 120 = .ok (.bipush 18, 2) := by decide +kernel
theorem dX5_eliminate_122 : decode cX5_eliminate 122 = .ok (.iload_n 3, 1) := by decide +kernel
theorem dX5_eliminate_123 : decode cX5_eliminate 123 = .ok (.imul, 1) := by decide +kernel
theorem dX5_eliminate_124 : decode cX5_eliminate 124 = .ok (.iload 6, 2) := by decide +kernel
theorem dX5_eliminate_126 : decode cX5_eliminate 126 = .ok (.iadd, 1) := by decide +kernel
theorem dX5_eliminate_127 : decode cX5_eliminate 127 = .ok (.iaload, 1) := by decide +kernel
theorem dX5_eliminate_128 : decode cX5_eliminate 128 = .ok (.iastore, 1) := by decide +kernel
theorem dX5_eliminate_129 : decode cX5_eliminate 129 = .ok (.aload_n 0, 1) := by decide +kernel
theorem dX5_eliminate_130 : decode cX5_eliminate 130 = .ok (.getfield 34, 3) := by decide +kernel
theorem dX5_eliminate_133 : decode cX5_eliminate 133 = .ok (.bipush 18, 2) := by decide +kernel
theorem dX5_eliminate_135 : decode cX5_eliminate 135 = .ok (.iload_n 3, 1) := by decide +kernel
theorem dX5_eliminate_136 : decode cX5_eliminate 136 = .ok (.imul, 1) := by decide +kernel
theorem dX5_eliminate_137 : decode cX5_eliminate 137 = .ok (.iload 6, 2) := by decide +kernel
theorem dX5_eliminate_139 : decode cX5_eliminate 139 = .ok (.iadd, 1) := by decide +kernel
theorem dX5_eliminate_140 : decode cX5_eliminate 140 = .ok (.iload 7, 2) := by decide +kernel
theorem dX5_eliminate_142 : decode cX5_eliminate 142 = .ok (.iastore, 1) := by decide +kernel
theorem dX5_eliminate_143 : decode cX5_eliminate 143 = .ok (.iinc 6 1, 3) := by decide +kernel
theorem dX5_eliminate_146 : decode cX5_eliminate 146 = .ok (.goto (-63), 3) := by decide +kernel
theorem dX5_eliminate_149 : decode cX5_eliminate 149 = .ok (.aload_n 0, 1) := by decide +kernel
theorem dX5_eliminate_150 : decode cX5_eliminate 150 = .ok (.aload_n 0, 1) := by decide +kernel
theorem dX5_eliminate_151 : decode cX5_eliminate 151 = .ok (.getfield 149, 3) := by decide +kernel
theorem dX5_eliminate_154 : decode cX5_eliminate 154 = .ok (.aload_n 0, 1) := by decide +kernel
theorem dX5_eliminate_155 : decode cX5_eliminate 155 = .ok (.getfield 34, 3) := by decide +kernel
theorem dX5_eliminate_158 : decode cX5_eliminate 158 = .ok (.bipush 18, 2) := by decide +kernel
theorem dX5_eliminate_160 : decode cX5_eliminate 160 = .ok (.iload_n 3, 1) := by decide +kernel
theorem dX5_eliminate_161 : decode cX5_eliminate 161 = .ok (.imul, 1) := by decide +kernel
theorem dX5_eliminate_162 : decode cX5_eliminate 162 = .ok (.iload 4, 2) := by decide +kernel
theorem dX5_eliminate_164 : decode cX5_eliminate 164 = .ok (.iadd, 1) := by decide +kernel
theorem dX5_eliminate_165 : decode cX5_eliminate 165 = .ok (.iaload, 1) := by decide +kernel
theorem dX5_eliminate_166 : decode cX5_eliminate 166 = .ok (.invokestatic 52, 3) := by decide +kernel
theorem dX5_eliminate_169 : decode cX5_eliminate 169 = .ok (.putfield 149, 3) := by decide +kernel
theorem dX5_eliminate_172 : decode cX5_eliminate 172 = .ok (.aload_n 0, 1) := by decide +kernel
theorem dX5_eliminate_173 : decode cX5_eliminate 173 = .ok (.getfield 34, 3) := by decide +kernel
theorem dX5_eliminate_176 : decode cX5_eliminate 176 = .ok (.bipush 18, 2) := by decide +kernel
theorem dX5_eliminate_178 : decode cX5_eliminate 178 = .ok (.iload_n 3, 1) := by decide +kernel
theorem dX5_eliminate_179 : decode cX5_eliminate 179 = .ok (.imul, 1) := by decide +kernel
theorem dX5_eliminate_180 : decode cX5_eliminate 180 = .ok (.iload 4, 2) := by decide +kernel
theorem dX5_eliminate_182 : decode cX5_eliminate 182 = .ok (.iadd, 1) := by decide +kernel
theorem dX5_eliminate_183 : decode cX5_eliminate 183 = .ok (.iaload, 1) := by decide +kernel
theorem dX5_eliminate_184 : decode cX5_eliminate 184 = .ok (.invokestatic 133, 3) := by decide +kernel
theorem dX5_eliminate_187 : decode cX5_eliminate 187 = .ok (.istore 6, 2) := by decide +kernel
theorem dX5_eliminate_189 : decode cX5_eliminate 189 = .ok (.iload_n 3, 1) := by decide +kernel
theorem dX5_eliminate_190 : decode cX5_eliminate 190 = .ok (.iconst 1, 1) := by decide +kernel
theorem dX5_eliminate_191 : decode cX5_eliminate 191 = .ok (.iadd, 1) := by decide +kernel
theorem dX5_eliminate_192 : decode cX5_eliminate 192 = .ok (.istore 7, 2) := by decide +kernel
theorem dX5_eliminate_194 : decode cX5_eliminate 194 = .ok (.iload 7, 2) := by decide +kernel
theorem dX5_eliminate_196 : decode cX5_eliminate 196 = .ok (.iload_n 1, 1) := by decide +kernel
theorem dX5_eliminate_197 : decode cX5_eliminate 197 = .ok (.if_icmp .ge 98, 3) := by decide +kernel
theorem dX5_eliminate_200 : decode cX5_eliminate 200 = .ok (.aload_n 0, 1) := by decide +kernel
theorem dX5_eliminate_201 : decode cX5_eliminate 201 = .ok (.getfield 34, 3) := by decide +kernel
theorem dX5_eliminate_204 : decode cX5_eliminate 204 = .ok (.bipush 18, 2) := by decide +kernel
theorem dX5_eliminate_206 : decode cX5_eliminate 206 = .ok (.iload 7, 2) := by decide +kernel
theorem dX5_eliminate_208 : decode cX5_eliminate 208 = .ok (.imul, 1) := by decide +kernel
theorem dX5_eliminate_209 : decode cX5_eliminate 209 = .ok (.iload 4, 2) := by decide +kernel
theorem dX5_eliminate_211 : decode cX5_eliminate 211 = .ok (.iadd, 1) := by decide +kernel
theorem dX5_eliminate_212 : decode cX5_eliminate 212 = .ok (.iaload, 1) := by decide +kernel
theorem dX5_eliminate_213 : decode cX5_eliminate 213 = .ok (.iload 6, 2) := by decide +kernel
theorem dX5_eliminate_215 : decode cX5_eliminate 215 = .ok (.invokestatic 52, 3) := by decide +kernel
theorem dX5_eliminate_218 : decode cX5_eliminate 218 = .ok (.istore 8, 2) := by decide +kernel
theorem dX5_eliminate_220 : decode cX5_eliminate 220 = .ok (.iload 4, 2) := by decide +kernel
theorem dX5_eliminate_222 : decode cX5_eliminate 222 = .ok (.istore 9, 2) := by decide +kernel
theorem dX5_eliminate_224 : decode cX5_eliminate 224 = .ok (.iload 9, 2) := by decide +kernel
theorem dX5_eliminate_226 : decode cX5_eliminate 226 = .ok (.iload_n 2, 1) := by decide +kernel
theorem dX5_eliminate_227 : decode cX5_eliminate 227 = .ok (.if_icmp .ge 62, 3) := by decide +kernel
theorem dX5_eliminate_230 : decode cX5_eliminate 230 = .ok (.iload 8, 2) := by decide +kernel
theorem dX5_eliminate_232 : decode cX5_eliminate 232 = .ok (.ifCond .eq 57, 3) := by decide +kernel
theorem dX5_eliminate_235 : decode cX5_eliminate 235 = .ok (.aload_n 0, 1) := by decide +kernel
theorem dX5_eliminate_236 : decode cX5_eliminate 236 = .ok (.getfield 34, 3) := by decide +kernel
theorem dX5_eliminate_239 : decode cX5_eliminate 239 = .ok (.bipush 18, 2) := by decide +kernel
theorem dX5_eliminate_241 : decode cX5_eliminate 241 = .ok (.iload 7, 2) := by decide +kernel
theorem dX5_eliminate_243 : decode cX5_eliminate 243 = .ok (.imul, 1) := by decide +kernel
theorem dX5_eliminate_244 : decode cX5_eliminate 244 = .ok (.iload 9, 2) := by decide +kernel
theorem dX5_eliminate_246 : decode cX5_eliminate 246 = .ok (.iadd, 1) := by decide +kernel
theorem dX5_eliminate_247 : decode cX5_eliminate 247 = .ok (.aload_n 0, 1) := by decide +kernel
theorem dX5_eliminate_248 : decode cX5_eliminate 248 = .ok (.getfield 34, 3) := by decide +kernel
theorem dX5_eliminate_251 : decode cX5_eliminate 251 = .ok (.bipush 18, 2) := by decide +kernel
theorem dX5_eliminate_253 : decode cX5_eliminate 253 = .ok (.iload 7, 2) := by decide +kernel
theorem dX5_eliminate_255 : decode cX5_eliminate 255 = .ok (.imul, 1) := by decide +kernel
theorem dX5_eliminate_256 : decode cX5_eliminate 256 = .ok (.iload 9, 2) := by decide +kernel
theorem dX5_eliminate_258 : decode cX5_eliminate 258 = .ok (.iadd, 1) := by decide +kernel
theorem dX5_eliminate_259 : decode cX5_eliminate 259 = .ok (.iaload, 1) := by decide +kernel
theorem dX5_eliminate_260 : decode cX5_eliminate 260 = .ok (.i2l, 1) := by decide +kernel
theorem dX5_eliminate_261 : decode cX5_eliminate 261 = .ok (.iload 8, 2) := by decide +kernel
theorem dX5_eliminate_263 : decode cX5_eliminate 263 = .ok (.i2l, 1) := by decide +kernel
theorem dX5_eliminate_264 : decode cX5_eliminate 264 = .ok (.aload_n 0, 1) := by decide +kernel
theorem dX5_eliminate_265 : decode cX5_eliminate 265 = .ok (.getfield 34, 3) := by decide +kernel
theorem dX5_eliminate_268 : decode cX5_eliminate 268 = .ok (.bipush 18, 2) := by decide +kernel
theorem dX5_eliminate_270 : decode cX5_eliminate 270 = .ok (.iload_n 3, 1) := by decide +kernel
theorem dX5_eliminate_271 : decode cX5_eliminate 271 = .ok (.imul, 1) := by decide +kernel
theorem dX5_eliminate_272 : decode cX5_eliminate 272 = .ok (.iload 9, 2) := by decide +kernel
theorem dX5_eliminate_274 : decode cX5_eliminate 274 = .ok (.iadd, 1) := by decide +kernel
theorem dX5_eliminate_275 : decode cX5_eliminate 275 = .ok (.iaload, 1) := by decide +kernel
theorem dX5_eliminate_276 : decode cX5_eliminate 276 = .ok (.i2l, 1) := by decide +kernel
theorem dX5_eliminate_277 : decode cX5_eliminate 277 = .ok (.lmul, 1) := by decide +kernel
theorem dX5_eliminate_278 : decode cX5_eliminate 278 = .ok (.lsub, 1) := by decide +kernel
theorem dX5_eliminate_279 : decode cX5_eliminate 279 = .ok (.invokestatic 48, 3) := by decide +kernel
theorem dX5_eliminate_282 : decode cX5_eliminate 282 = .ok (.iastore, 1) := by decide +kernel
theorem dX5_eliminate_283 : decode cX5_eliminate 283 = .ok (.iinc 9 1, 3) := by decide +kernel
theorem dX5_eliminate_286 : decode cX5_eliminate 286 = .ok (.goto (-62), 3) := by decide +kernel
theorem dX5_eliminate_289 : decode cX5_eliminate 289 = .ok (.iinc 7 1, 3) := by decide +kernel
theorem dX5_eliminate_292 : decode cX5_eliminate 292 = .ok (.goto (-98), 3) := by decide +kernel
theorem dX5_eliminate_295 : decode cX5_eliminate 295 = .ok (.iinc 3 1, 3) := by decide +kernel
theorem dX5_eliminate_298 : decode cX5_eliminate 298 = .ok (.iinc 4 1, 3) := by decide +kernel
theorem dX5_eliminate_301 : decode cX5_eliminate 301 = .ok (.goto (-291), 3) := by decide +kernel
theorem dX5_eliminate_304 : decode cX5_eliminate 304 = .ok (.iload_n 3, 1) := by decide +kernel
theorem dX5_eliminate_305 : decode cX5_eliminate 305 = .ok (.ireturn, 1) := by decide +kernel
theorem dX5_result_0 : decode cX5_result 0 = .ok (.iload_n 1, 1) := by decide +kernel
theorem dX5_result_1 : decode cX5_result 1 = .ok (.invokestatic 66, 3) := by decide +kernel
theorem dX5_result_4 : decode cX5_result 4 = .ok (.ifCond .eq 10, 3) := by decide +kernel
theorem dX5_result_7 : decode cX5_result 7 = .ok (.iload_n 2, 1) := by decide +kernel
theorem dX5_result_8 : decode cX5_result 8 = .ok (.invokestatic 66, 3) := by decide +kernel
theorem dX5_result_11 : decode cX5_result 11 = .ok (.ifCond .ne 6, 3) := by decide +kernel
theorem dX5_result_14 : decode cX5_result 14 = .ok (.bipush (-2), 2) := by decide +kernel
theorem dX5_result_16 : decode cX5_result 16 = .ok (.ireturn, 1) := by decide +kernel
theorem dX5_result_17 : decode cX5_result 17 = .ok (.aload_n 0, 1) := by decide +kernel
theorem dX5_result_18 : decode cX5_result 18 = .ok (.iload_n 1, 1) := by decide +kernel
theorem dX5_result_19 : decode cX5_result 19 = .ok (.iload_n 2, 1) := by decide +kernel
theorem dX5_result_20 : decode cX5_result 20 = .ok (.invokevirtual 110, 3) := by decide +kernel
theorem dX5_result_23 : decode cX5_result 23 = .ok (.istore_n 3, 1) := by decide +kernel
theorem dX5_result_24 : decode cX5_result 24 = .ok (.iload_n 3, 1) := by decide +kernel
theorem dX5_result_25 : decode cX5_result 25 = .ok (.ifCond .eq 5, 3) := by decide +kernel
theorem dX5_result_28 : decode cX5_result 28 = .ok (.iload_n 3, 1) := by decide +kernel
theorem dX5_result_29 : decode cX5_result 29 = .ok (.ireturn, 1) := by decide +kernel
theorem dX5_result_30 : decode cX5_result 30 = .ok (.aload_n 0, 1) := by decide +kernel
theorem dX5_result_31 : decode cX5_result 31 = .ok (.getfield 81, 3) := by decide +kernel
theorem dX5_result_34 : decode cX5_result 34 = .ok (.ifCond .eq 10, 3) := by decide +kernel
theorem dX5_result_37 : decode cX5_result 37 = .ok (.aload_n 0, 1) := by decide +kernel
theorem dX5_result_38 : decode cX5_result 38 = .ok (.getfield 84, 3) := by decide +kernel
theorem dX5_result_41 : decode cX5_result 41 = .ok (.ifCond .ne 6, 3) := by decide +kernel
theorem dX5_result_44 : decode cX5_result 44 = .ok (.bipush (-3), 2) := by decide +kernel
theorem dX5_result_46 : decode cX5_result 46 = .ok (.ireturn, 1) := by decide +kernel
theorem dX5_result_47 : decode cX5_result 47 = .ok (.aload_n 0, 1) := by decide +kernel
theorem dX5_result_48 : decode cX5_result 48 = .ok (.getfield 81, 3) := by decide +kernel
theorem dX5_result_51 : decode cX5_result 51 = .ok (.aload_n 0, 1) := by decide +kernel
theorem dX5_result_52 : decode cX5_result 52 = .ok (.getfield 84, 3) := by decide +kernel
theorem dX5_result_55 : decode cX5_result 55 = .ok (.iadd, 1) := by decide +kernel
theorem dX5_result_56 : decode cX5_result 56 = .ok (.istore 4, 2) := by decide +kernel
theorem dX5_result_58 : decode cX5_result 58 = .ok (.iconst 0, 1) := by decide +kernel
theorem dX5_result_59 : decode cX5_result 59 = .ok (.istore 5, 2) := by decide +kernel
theorem dX5_result_61 : decode cX5_result 61 = .ok (.iload 5, 2) := by decide +kernel
theorem dX5_result_63 : decode cX5_result 63 = .ok (.iload 4, 2) := by decide +kernel
theorem dX5_result_65 : decode cX5_result 65 = .ok (.if_icmp .ge 128, 3) := by decide +kernel
theorem dX5_result_68 : decode cX5_result 68 = .ok (.iconst 0, 1) := by decide +kernel
theorem dX5_result_69 : decode cX5_result 69 = .ok (.istore 6, 2) := by decide +kernel
theorem dX5_result_71 : decode cX5_result 71 = .ok (.iload 6, 2) := by decide +kernel
theorem dX5_result_73 : decode cX5_result 73 = .ok (.iload 4, 2) := by decide +kernel
theorem dX5_result_75 : decode cX5_result 75 = .ok (.if_icmp .ge 112, 3) := by decide +kernel
theorem dX5_result_78 : decode cX5_result 78 = .ok (.iload 5, 2) := by decide +kernel
theorem dX5_result_80 : decode cX5_result 80 = .ok (.aload_n 0, 1) := by decide +kernel
theorem dX5_result_81 : decode cX5_result 81 = .ok (.getfield 84, 3) := by decide +kernel
theorem dX5_result_84 : decode cX5_result 84 = .ok (.if_icmp .ge 11, 3) := by decide +kernel
theorem dX5_result_87 : decode cX5_result 87 = .ok (.iload 6, 2) := by decide +kernel
theorem dX5_result_89 : decode cX5_result 89 = .ok (.iload 5, 2) := by decide +kernel
theorem dX5_result_91 : decode cX5_result 91 = .ok (.isub, 1) := by decide +kernel
theorem dX5_result_92 : decode cX5_result 92 = .ok (.goto 13, 3) := by decide +kernel
theorem dX5_result_95 : decode cX5_result 95 = .ok (.iload 6, 2) := by decide +kernel
theorem dX5_result_97 : decode cX5_result 97 = .ok (.iload 5, 2) := by decide +kernel
theorem dX5_result_99 : decode cX5_result 99 = .ok (.aload_n 0, 1) := by decide +kernel
theorem dX5_result_100 : decode cX5_result 100 = .ok (.getfield 84, 3) := by decide +kernel
theorem dX5_result_103 : decode cX5_result 103 = .ok (.isub, 1) := by decide +kernel
theorem dX5_result_104 : decode cX5_result 104 = .ok (.isub, 1) := by decide +kernel
theorem dX5_result_105 : decode cX5_result 105 = .ok (.istore 7, 2) := by decide +kernel
theorem dX5_result_107 : decode cX5_result 107 = .ok (.aload_n 0, 1) := by decide +kernel
theorem dX5_result_108 : decode cX5_result 108 = .ok (.getfield 34, 3) := by decide +kernel
theorem dX5_result_111 : decode cX5_result 111 = .ok (.bipush 18, 2) := by decide +kernel
theorem dX5_result_113 : decode cX5_result 113 = .ok (.iload 5, 2) := by decide +kernel
theorem dX5_result_115 : decode cX5_result 115 = .ok (.imul, 1) := by decide +kernel
theorem dX5_result_116 : decode cX5_result 116 = .ok (.iload 6, 2) := by decide +kernel
theorem dX5_result_118 : decode cX5_result 118 = .ok (.iadd, 1) := by decide +kernel
theorem dX5_result_119 : decode cX5_result 119 = .ok (.iload 7, 2) := by decide +kernel
theorem dX5_result_121 : decode cX5_result 121 = .ok (.ifCond .ge 7, 3) := by decide +kernel
theorem dX5_result_124 : decode cX5_result 124 = .ok (.iconst 0, 1) := by decide +kernel
theorem dX5_result_125 : decode cX5_result 125 = .ok (.goto 55, 3) := by decide +kernel
theorem dX5_result_128 : decode cX5_result 128 = .ok (.iload 5, 2) := by decide +kernel
theorem dX5_result_130 : decode cX5_result 130 = .ok (.aload_n 0, 1) := by decide +kernel
theorem dX5_result_131 : decode cX5_result 131 = .ok (.getfield 84, 3) := by decide +kernel
theorem dX5_result_134 : decode cX5_result 134 = .ok (.if_icmp .ge 26, 3) := by decide +kernel
theorem dX5_result_137 : decode cX5_result 137 = .ok (.iload 7, 2) := by decide +kernel
theorem dX5_result_139 : decode cX5_result 139 = .ok (.aload_n 0, 1) := by decide +kernel
theorem dX5_result_140 : decode cX5_result 140 = .ok (.getfield 81, 3) := by decide +kernel
theorem dX5_result_143 : decode cX5_result 143 = .ok (.if_icmp .gt 13, 3) := by decide +kernel
theorem dX5_result_146 : decode cX5_result 146 = .ok (.aload_n 0, 1) := by decide +kernel
theorem dX5_result_147 : decode cX5_result 147 = .ok (.getfield 22, 3) := by decide +kernel
theorem dX5_result_150 : decode cX5_result 150 = .ok (.iload 7, 2) := by decide +kernel
theorem dX5_result_152 : decode cX5_result 152 = .ok (.iaload, 1) := by decide +kernel
theorem dX5_result_153 : decode cX5_result 153 = .ok (.goto 27, 3) := by decide +kernel
theorem dX5_result_156 : decode cX5_result 156 = .ok (.iconst 0, 1) := by decide +kernel
theorem dX5_result_157 : decode cX5_result 157 = .ok (.goto 23, 3) := by decide +kernel
theorem dX5_result_160 : decode cX5_result 160 = .ok (.iload 7, 2) := by decide +kernel
theorem dX5_result_162 : decode cX5_result 162 = .ok (.aload_n 0, 1) := by decide +kernel
theorem dX5_result_163 : decode cX5_result 163 = .ok (.getfield 84, 3) := by decide +kernel
theorem dX5_result_166 : decode cX5_result 166 = .ok (.if_icmp .gt 13, 3) := by decide +kernel
theorem dX5_result_169 : decode cX5_result 169 = .ok (.aload_n 0, 1) := by decide +kernel
theorem dX5_result_170 : decode cX5_result 170 = .ok (.getfield 25, 3) := by decide +kernel
theorem dX5_result_173 : decode cX5_result 173 = .ok (.iload 7, 2) := by decide +kernel
theorem dX5_result_175 : decode cX5_result 175 = .ok (.iaload, 1) := by decide +kernel
theorem dX5_result_176 : decode cX5_result 176 = .ok (.goto 4, 3) := by decide +kernel
theorem dX5_result_179 : decode cX5_result 179 = .ok (.iconst 0, 1) := by decide +kernel
theorem dX5_result_180 : decode cX5_result 180 = .ok (.iastore, 1) := by decide +kernel
theorem dX5_result_181 : decode cX5_result 181 = .ok (.iinc 6 1, 3) := by decide +kernel
theorem dX5_result_184 : decode cX5_result 184 = .ok (.goto (-113), 3) := by decide +kernel
theorem dX5_result_187 : decode cX5_result 187 = .ok (.iinc 5 1, 3) := by decide +kernel
theorem dX5_result_190 : decode cX5_result 190 = .ok (.goto (-129), 3) := by decide +kernel
theorem dX5_result_193 : decode cX5_result 193 = .ok (.aload_n 0, 1) := by decide +kernel
theorem dX5_result_194 : decode cX5_result 194 = .ok (.iload 4, 2) := by decide +kernel
theorem dX5_result_196 : decode cX5_result 196 = .ok (.iload 4, 2) := by decide +kernel
theorem dX5_result_198 : decode cX5_result 198 = .ok (.invokevirtual 152, 3) := by decide +kernel
theorem dX5_result_201 : decode cX5_result 201 = .ok (.istore 5, 2) := by decide +kernel
theorem dX5_result_203 : decode cX5_result 203 = .ok (.aload_n 0, 1) := by decide +kernel
theorem dX5_result_204 : decode cX5_result 204 = .ok (.getfield 149, 3) := by decide +kernel
theorem dX5_result_207 : decode cX5_result 207 = .ok (.ireturn, 1) := by decide +kernel
theorem dX5_raised_0 : decode cX5_raised 0 = .ok (.iconst 1, 1) := by decide +kernel
theorem dX5_raised_1 : decode cX5_raised 1 = .ok (.istore_n 2, 1) := by decide +kernel
theorem dX5_raised_2 : decode cX5_raised 2 = .ok (.iconst 0, 1) := by decide +kernel
theorem dX5_raised_3 : decode cX5_raised 3 = .ok (.istore_n 3, 1) := by decide +kernel
theorem dX5_raised_4 : decode cX5_raised 4 = .ok (.iload_n 3, 1) := by decide +kernel
theorem dX5_raised_5 : decode cX5_raised 5 = .ok (.iload_n 1, 1) := by decide +kernel
theorem dX5_raised_6 : decode cX5_raised 6 = .ok (.if_icmp .ge 15, 3) := by decide +kernel
theorem dX5_raised_9 : decode cX5_raised 9 = .ok (.iload_n 2, 1) := by decide +kernel
theorem dX5_raised_10 : decode cX5_raised 10 = .ok (.iload_n 0, 1) := by decide +kernel
theorem dX5_raised_11 : decode cX5_raised 11 = .ok (.invokestatic 52, 3) := by decide +kernel
theorem dX5_raised_14 : decode cX5_raised 14 = .ok (.istore_n 2, 1) := by decide +kernel
theorem dX5_raised_15 : decode cX5_raised 15 = .ok (.iinc 3 1, 3) := by decide +kernel
theorem dX5_raised_18 : decode cX5_raised 18 = .ok (.goto (-14), 3) := by decide +kernel
theorem dX5_raised_21 : decode cX5_raised 21 = .ok (.iload_n 2, 1) := by decide +kernel
theorem dX5_raised_22 : decode cX5_raised 22 = .ok (.ireturn, 1) := by decide +kernel
theorem dX5_powers_0 : decode cX5_powers 0 = .ok (.iload_n 1, 1) := by decide +kernel
theorem dX5_powers_1 : decode cX5_powers 1 = .ok (.invokestatic 66, 3) := by decide +kernel
theorem dX5_powers_4 : decode cX5_powers 4 = .ok (.ifCond .eq 30, 3) := by decide +kernel
theorem dX5_powers_7 : decode cX5_powers 7 = .ok (.iload_n 2, 1) := by decide +kernel
theorem dX5_powers_8 : decode cX5_powers 8 = .ok (.invokestatic 66, 3) := by decide +kernel
theorem dX5_powers_11 : decode cX5_powers 11 = .ok (.ifCond .eq 23, 3) := by decide +kernel
theorem dX5_powers_14 : decode cX5_powers 14 = .ok (.iload_n 3, 1) := by decide +kernel
theorem dX5_powers_15 : decode cX5_powers 15 = .ok (.i2l, 1) := by decide +kernel
theorem dX5_powers_16 : decode cX5_powers 16 = .ok (.lconst 1, 1) := by decide +kernel
theorem dX5_powers_17 : decode cX5_powers 17 = .ok (.ldc2_w 60, 3) := by decide +kernel
theorem dX5_powers_20 : decode cX5_powers 20 = .ok (.invokestatic 62, 3) := by decide +kernel
theorem dX5_powers_23 : decode cX5_powers 23 = .ok (.ifCond .eq 11, 3) := by decide +kernel
theorem dX5_powers_26 : decode cX5_powers 26 = .ok (.iload 4, 2) := by decide +kernel
theorem dX5_powers_28 : decode cX5_powers 28 = .ok (.invokestatic 66, 3) := by decide +kernel
theorem dX5_powers_31 : decode cX5_powers 31 = .ok (.ifCond .ne 6, 3) := by decide +kernel
theorem dX5_powers_34 : decode cX5_powers 34 = .ok (.bipush (-2), 2) := by decide +kernel
theorem dX5_powers_36 : decode cX5_powers 36 = .ok (.ireturn, 1) := by decide +kernel
theorem dX5_powers_37 : decode cX5_powers 37 = .ok (.aload_n 0, 1) := by decide +kernel
theorem dX5_powers_38 : decode cX5_powers 38 = .ok (.getfield 7, 3) := by decide +kernel
theorem dX5_powers_41 : decode cX5_powers 41 = .ok (.iload_n 1, 1) := by decide +kernel
theorem dX5_powers_42 : decode cX5_powers 42 = .ok (.iaload, 1) := by decide +kernel
theorem dX5_powers_43 : decode cX5_powers 43 = .ok (.ifCond .lt 12, 3) := by decide +kernel
theorem dX5_powers_46 : decode cX5_powers 46 = .ok (.aload_n 0, 1) := by decide +kernel
theorem dX5_powers_47 : decode cX5_powers 47 = .ok (.getfield 7, 3) := by decide +kernel
theorem dX5_powers_50 : decode cX5_powers 50 = .ok (.iload_n 2, 1) := by decide +kernel
theorem dX5_powers_51 : decode cX5_powers 51 = .ok (.iaload, 1) := by decide +kernel
theorem dX5_powers_52 : decode cX5_powers 52 = .ok (.ifCond .ge 9, 3) := by decide +kernel
theorem dX5_powers_55 : decode cX5_powers 55 = .ok (.aload_n 0, 1) := by decide +kernel
theorem dX5_powers_56 : decode cX5_powers 56 = .ok (.iconst 1, 1) := by decide +kernel
theorem dX5_powers_57 : decode cX5_powers 57 = .ok (.invokevirtual 72, 3) := by decide +kernel
theorem dX5_powers_60 : decode cX5_powers 60 = .ok (.ireturn, 1) := by decide +kernel
theorem dX5_powers_61 : decode cX5_powers 61 = .ok (.aload_n 0, 1) := by decide +kernel
theorem dX5_powers_62 : decode cX5_powers 62 = .ok (.iload_n 1, 1) := by decide +kernel
theorem dX5_powers_63 : decode cX5_powers 63 = .ok (.invokevirtual 90, 3) := by decide +kernel
theorem dX5_powers_66 : decode cX5_powers 66 = .ok (.ifCond .eq 13, 3) := by decide +kernel
theorem dX5_powers_69 : decode cX5_powers 69 = .ok (.iload_n 3, 1) := by decide +kernel
theorem dX5_powers_70 : decode cX5_powers 70 = .ok (.aload_n 0, 1) := by decide +kernel
theorem dX5_powers_71 : decode cX5_powers 71 = .ok (.getfield 13, 3) := by decide +kernel
theorem dX5_powers_74 : decode cX5_powers 74 = .ok (.iload_n 1, 1) := by decide +kernel
theorem dX5_powers_75 : decode cX5_powers 75 = .ok (.iaload, 1) := by decide +kernel
theorem dX5_powers_76 : decode cX5_powers 76 = .ok (.if_icmp .le 6, 3) := by decide +kernel
theorem dX5_powers_79 : decode cX5_powers 79 = .ok (.bipush (-3), 2) := by decide +kernel
theorem dX5_powers_81 : decode cX5_powers 81 = .ok (.ireturn, 1) := by decide +kernel
theorem dX5_powers_82 : decode cX5_powers 82 = .ok (.aload_n 0, 1) := by decide +kernel
theorem dX5_powers_83 : decode cX5_powers 83 = .ok (.getfield 13, 3) := by decide +kernel
theorem dX5_powers_86 : decode cX5_powers 86 = .ok (.iload_n 2, 1) := by decide +kernel
theorem dX5_powers_87 : decode cX5_powers 87 = .ok (.iaload, 1) := by decide +kernel
theorem dX5_powers_88 : decode cX5_powers 88 = .ok (.iload_n 3, 1) := by decide +kernel
theorem dX5_powers_89 : decode cX5_powers 89 = .ok (.if_icmp .ge 9, 3) := by decide +kernel
theorem dX5_powers_92 : decode cX5_powers 92 = .ok (.aload_n 0, 1) := by decide +kernel
theorem dX5_powers_93 : decode cX5_powers 93 = .ok (.iconst 2, 1) := by decide +kernel
theorem dX5_powers_94 : decode cX5_powers 94 = .ok (.invokevirtual 72, 3) := by decide +kernel
theorem dX5_powers_97 : decode cX5_powers 97 = .ok (.ireturn, 1) := by decide +kernel
theorem dX5_powers_98 : decode cX5_powers 98 = .ok (.aload_n 0, 1) := by decide +kernel
theorem dX5_powers_99 : decode cX5_powers 99 = .ok (.iload_n 1, 1) := by decide +kernel
theorem dX5_powers_100 : decode cX5_powers 100 = .ok (.invokevirtual 93, 3) := by decide +kernel
theorem dX5_powers_103 : decode cX5_powers 103 = .ok (.iconst 0, 1) := by decide +kernel
theorem dX5_powers_104 : decode cX5_powers 104 = .ok (.istore 5, 2) := by decide +kernel
theorem dX5_powers_106 : decode cX5_powers 106 = .ok (.iload 5, 2) := by decide +kernel
theorem dX5_powers_108 : decode cX5_powers 108 = .ok (.iload_n 3, 1) := by decide +kernel
theorem dX5_powers_109 : decode cX5_powers 109 = .ok (.if_icmp .ge 68, 3) := by decide +kernel
theorem dX5_powers_112 : decode cX5_powers 112 = .ok (.aload_n 0, 1) := by decide +kernel
theorem dX5_powers_113 : decode cX5_powers 113 = .ok (.getfield 37, 3) := by decide +kernel
theorem dX5_powers_116 : decode cX5_powers 116 = .ok (.iload 5, 2) := by decide +kernel
theorem dX5_powers_118 : decode cX5_powers 118 = .ok (.aload_n 0, 1) := by decide +kernel
theorem dX5_powers_119 : decode cX5_powers 119 = .ok (.getfield 16, 3) := by decide +kernel
theorem dX5_powers_122 : decode cX5_powers 122 = .ok (.bipush 12, 2) := by decide +kernel
theorem dX5_powers_124 : decode cX5_powers 124 = .ok (.iload_n 2, 1) := by decide +kernel
theorem dX5_powers_125 : decode cX5_powers 125 = .ok (.imul, 1) := by decide +kernel
theorem dX5_powers_126 : decode cX5_powers 126 = .ok (.iload 5, 2) := by decide +kernel
theorem dX5_powers_128 : decode cX5_powers 128 = .ok (.iadd, 1) := by decide +kernel
theorem dX5_powers_129 : decode cX5_powers 129 = .ok (.iaload, 1) := by decide +kernel
theorem dX5_powers_130 : decode cX5_powers 130 = .ok (.i2l, 1) := by decide +kernel
theorem dX5_powers_131 : decode cX5_powers 131 = .ok (.invokestatic 48, 3) := by decide +kernel
theorem dX5_powers_134 : decode cX5_powers 134 = .ok (.iastore, 1) := by decide +kernel
theorem dX5_powers_135 : decode cX5_powers 135 = .ok (.iconst 0, 1) := by decide +kernel
theorem dX5_powers_136 : decode cX5_powers 136 = .ok (.istore 6, 2) := by decide +kernel
theorem dX5_powers_138 : decode cX5_powers 138 = .ok (.iload 6, 2) := by decide +kernel
theorem dX5_powers_140 : decode cX5_powers 140 = .ok (.iload 5, 2) := by decide +kernel
theorem dX5_powers_142 : decode cX5_powers 142 = .ok (.if_icmp .ge 29, 3) := by decide +kernel
theorem dX5_powers_145 : decode cX5_powers 145 = .ok (.aload_n 0, 1) := by decide +kernel
theorem dX5_powers_146 : decode cX5_powers 146 = .ok (.getfield 37, 3) := by decide +kernel
theorem dX5_powers_149 : decode cX5_powers 149 = .ok (.iload 6, 2) := by decide +kernel
theorem dX5_powers_151 : decode cX5_powers 151 = .ok (.iaload, 1) := by decide +kernel
theorem dX5_powers_152 : decode cX5_powers 152 = .ok (.aload_n 0, 1) := by decide +kernel
theorem dX5_powers_153 : decode cX5_powers 153 = .ok (.getfield 37, 3) := by decide +kernel
theorem dX5_powers_156 : decode cX5_powers 156 = .ok (.iload 5, 2) := by decide +kernel
theorem dX5_powers_158 : decode cX5_powers 158 = .ok (.iaload, 1) := by decide +kernel
theorem dX5_powers_159 : decode cX5_powers 159 = .ok (.if_icmp .ne 6, 3) := by decide +kernel
theorem dX5_powers_162 : decode cX5_powers 162 = .ok (.bipush (-3), 2) := by decide +kernel
theorem dX5_powers_164 : decode cX5_powers 164 = .ok (.ireturn, 1) := by decide +kernel
theorem dX5_powers_165 : decode cX5_powers 165 = .ok (.iinc 6 1, 3) := by decide +kernel
theorem dX5_powers_168 : decode cX5_powers 168 = .ok (.goto (-30), 3) := by decide +kernel
theorem dX5_powers_171 : decode cX5_powers 171 = .ok (.iinc 5 1, 3) := by decide +kernel
theorem dX5_powers_174 : decode cX5_powers 174 = .ok (.goto (-68), 3) := by decide +kernel
theorem dX5_powers_177 : decode cX5_powers 177 = .ok (.iconst 0, 1) := by decide +kernel
theorem dX5_powers_178 : decode cX5_powers 178 = .ok (.istore 5, 2) := by decide +kernel
theorem dX5_powers_180 : decode cX5_powers 180 = .ok (.iload 5, 2) := by decide +kernel
theorem dX5_powers_182 : decode cX5_powers 182 = .ok (.iload_n 3, 1) := by decide +kernel
theorem dX5_powers_183 : decode cX5_powers 183 = .ok (.if_icmp .ge 80, 3) := by decide +kernel
theorem dX5_powers_186 : decode cX5_powers 186 = .ok (.iconst 0, 1) := by decide +kernel
theorem dX5_powers_187 : decode cX5_powers 187 = .ok (.istore 6, 2) := by decide +kernel
theorem dX5_powers_189 : decode cX5_powers 189 = .ok (.iload 6, 2) := by decide +kernel
theorem dX5_powers_191 : decode cX5_powers 191 = .ok (.iload_n 3, 1) := by decide +kernel
theorem dX5_powers_192 : decode cX5_powers 192 = .ok (.if_icmp .ge 46, 3) := by decide +kernel
theorem dX5_powers_195 : decode cX5_powers 195 = .ok (.aload_n 0, 1) := by decide +kernel
theorem dX5_powers_196 : decode cX5_powers 196 = .ok (.getfield 34, 3) := by decide +kernel
theorem dX5_powers_199 : decode cX5_powers 199 = .ok (.bipush 18, 2) := by decide +kernel
theorem dX5_powers_201 : decode cX5_powers 201 = .ok (.iload 5, 2) := by decide +kernel
theorem dX5_powers_203 : decode cX5_powers 203 = .ok (.imul, 1) := by decide +kernel
theorem dX5_powers_204 : decode cX5_powers 204 = .ok (.iload 6, 2) := by decide +kernel
theorem dX5_powers_206 : decode cX5_powers 206 = .ok (.iadd, 1) := by decide +kernel
theorem dX5_powers_207 : decode cX5_powers 207 = .ok (.aload_n 0, 1) := by decide +kernel
theorem dX5_powers_208 : decode cX5_powers 208 = .ok (.getfield 81, 3) := by decide +kernel
theorem dX5_powers_211 : decode cX5_powers 211 = .ok (.iload 5, 2) := by decide +kernel
theorem dX5_powers_213 : decode cX5_powers 213 = .ok (.invokestatic 123, 3) := by decide +kernel
theorem dX5_powers_216 : decode cX5_powers 216 = .ok (.aload_n 0, 1) := by decide +kernel
theorem dX5_powers_217 : decode cX5_powers 217 = .ok (.getfield 37, 3) := by decide +kernel
theorem dX5_powers_220 : decode cX5_powers 220 = .ok (.iload 6, 2) := by decide +kernel
theorem dX5_powers_222 : decode cX5_powers 222 = .ok (.iaload, 1) := by decide +kernel
theorem dX5_powers_223 : decode cX5_powers 223 = .ok (.iload 5, 2) := by decide +kernel
theorem dX5_powers_225 : decode cX5_powers 225 = .ok (.invokestatic 155, 3) := by decide +kernel
theorem dX5_powers_228 : decode cX5_powers 228 = .ok (.invokestatic 52, 3) := by decide +kernel
theorem dX5_powers_231 : decode cX5_powers 231 = .ok (.iastore, 1) := by decide +kernel
theorem dX5_powers_232 : decode cX5_powers 232 = .ok (.iinc 6 1, 3) := by decide +kernel
theorem dX5_powers_235 : decode cX5_powers 235 = .ok (.goto (-46), 3) := by decide +kernel
theorem dX5_powers_238 : decode cX5_powers 238 = .ok (.aload_n 0, 1) := by decide +kernel
theorem dX5_powers_239 : decode cX5_powers 239 = .ok (.getfield 34, 3) := by decide +kernel
theorem dX5_powers_242 : decode cX5_powers 242 = .ok (.bipush 18, 2) := by decide +kernel
theorem dX5_powers_244 : decode cX5_powers 244 = .ok (.iload 5, 2) := by decide +kernel
theorem dX5_powers_246 : decode cX5_powers 246 = .ok (.imul, 1) := by decide +kernel
theorem dX5_powers_247 : decode cX5_powers 247 = .ok (.iload_n 3, 1) := by decide +kernel
theorem dX5_powers_248 : decode cX5_powers 248 = .ok (.iadd, 1) := by decide +kernel
theorem dX5_powers_249 : decode cX5_powers 249 = .ok (.aload_n 0, 1) := by decide +kernel
theorem dX5_powers_250 : decode cX5_powers 250 = .ok (.getfield 22, 3) := by decide +kernel
theorem dX5_powers_253 : decode cX5_powers 253 = .ok (.iload 5, 2) := by decide +kernel
theorem dX5_powers_255 : decode cX5_powers 255 = .ok (.iaload, 1) := by decide +kernel
theorem dX5_powers_256 : decode cX5_powers 256 = .ok (.iastore, 1) := by decide +kernel
theorem dX5_powers_257 : decode cX5_powers 257 = .ok (.iinc 5 1, 3) := by decide +kernel
theorem dX5_powers_260 : decode cX5_powers 260 = .ok (.goto (-80), 3) := by decide +kernel
theorem dX5_powers_263 : decode cX5_powers 263 = .ok (.aload_n 0, 1) := by decide +kernel
theorem dX5_powers_264 : decode cX5_powers 264 = .ok (.iload_n 3, 1) := by decide +kernel
theorem dX5_powers_265 : decode cX5_powers 265 = .ok (.iload_n 3, 1) := by decide +kernel
theorem dX5_powers_266 : decode cX5_powers 266 = .ok (.iconst 1, 1) := by decide +kernel
theorem dX5_powers_267 : decode cX5_powers 267 = .ok (.iadd, 1) := by decide +kernel
theorem dX5_powers_268 : decode cX5_powers 268 = .ok (.invokevirtual 152, 3) := by decide +kernel
theorem dX5_powers_271 : decode cX5_powers 271 = .ok (.istore 5, 2) := by decide +kernel
theorem dX5_powers_273 : decode cX5_powers 273 = .ok (.iload_n 3, 1) := by decide +kernel
theorem dX5_powers_274 : decode cX5_powers 274 = .ok (.iconst 1, 1) := by decide +kernel
theorem dX5_powers_275 : decode cX5_powers 275 = .ok (.isub, 1) := by decide +kernel
theorem dX5_powers_276 : decode cX5_powers 276 = .ok (.istore 6, 2) := by decide +kernel
theorem dX5_powers_278 : decode cX5_powers 278 = .ok (.iload 6, 2) := by decide +kernel
theorem dX5_powers_280 : decode cX5_powers 280 = .ok (.ifCond .lt 101, 3) := by decide +kernel
theorem dX5_powers_283 : decode cX5_powers 283 = .ok (.aload_n 0, 1) := by decide +kernel
theorem dX5_powers_284 : decode cX5_powers 284 = .ok (.getfield 34, 3) := by decide +kernel
theorem dX5_powers_287 : decode cX5_powers 287 = .ok (.bipush 18, 2) := by decide +kernel
theorem dX5_powers_289 : decode cX5_powers 289 = .ok (.iload 6, 2) := by decide +kernel
theorem dX5_powers_291 : decode cX5_powers 291 = .ok (.imul, 1) := by decide +kernel
theorem dX5_powers_292 : decode cX5_powers 292 = .ok (.iload_n 3, 1) := by decide +kernel
theorem dX5_powers_293 : decode cX5_powers 293 = .ok (.iadd, 1) := by decide +kernel
theorem dX5_powers_294 : decode cX5_powers 294 = .ok (.iaload, 1) := by decide +kernel
theorem dX5_powers_295 : decode cX5_powers 295 = .ok (.i2l, 1) := by decide +kernel
theorem dX5_powers_296 : decode cX5_powers 296 = .ok (.lstore 7, 2) := by decide +kernel
theorem dX5_powers_298 : decode cX5_powers 298 = .ok (.iload 6, 2) := by decide +kernel
theorem dX5_powers_300 : decode cX5_powers 300 = .ok (.iconst 1, 1) := by decide +kernel
theorem dX5_powers_301 : decode cX5_powers 301 = .ok (.iadd, 1) := by decide +kernel
theorem dX5_powers_302 : decode cX5_powers 302 = .ok (.istore 9, 2) := by decide +kernel
theorem dX5_powers_304 : decode cX5_powers 304 = .ok (.iload 9, 2) := by decide +kernel
theorem dX5_powers_306 : decode cX5_powers 306 = .ok (.iload_n 3, 1) := by decide +kernel
theorem dX5_powers_307 : decode cX5_powers 307 = .ok (.if_icmp .ge 37, 3) := by decide +kernel
theorem dX5_powers_310 : decode cX5_powers 310 = .ok (.lload 7, 2) := by decide +kernel
theorem dX5_powers_312 : decode cX5_powers 312 = .ok (.aload_n 0, 1) := by decide +kernel
theorem dX5_powers_313 : decode cX5_powers 313 = .ok (.getfield 34, 3) := by decide +kernel
theorem dX5_powers_316 : decode cX5_powers 316 = .ok (.bipush 18, 2) := by decide +kernel
theorem dX5_powers_318 : decode cX5_powers 318 = .ok (.iload 6, 2) := by decide +kernel
theorem dX5_powers_320 : decode cX5_powers 320 = .ok (.imul, 1) := by decide +kernel
theorem dX5_powers_321 : decode cX5_powers 321 = .ok (.iload 9, 2) := by decide +kernel
theorem dX5_powers_323 : decode cX5_powers 323 = .ok (.iadd, 1) := by decide +kernel
theorem dX5_powers_324 : decode cX5_powers 324 = .ok (.iaload, 1) := by decide +kernel
theorem dX5_powers_325 : decode cX5_powers 325 = .ok (.i2l, 1) := by decide +kernel
theorem dX5_powers_326 : decode cX5_powers 326 = .ok (.aload_n 0, 1) := by decide +kernel
theorem dX5_powers_327 : decode cX5_powers 327 = .ok (.getfield 40, 3) := by decide +kernel
theorem dX5_powers_330 : decode cX5_powers 330 = .ok (.iload 9, 2) := by decide +kernel
theorem dX5_powers_332 : decode cX5_powers 332 = .ok (.iaload, 1) := by decide +kernel
theorem dX5_powers_333 : decode cX5_powers 333 = .ok (.i2l, 1) := by decide +kernel
theorem dX5_powers_334 : decode cX5_powers 334 = .ok (.lmul, 1) := by decide +kernel
theorem dX5_powers_335 : decode cX5_powers 335 = .ok (.lsub, 1) := by decide +kernel
theorem dX5_powers_336 : decode cX5_powers 336 = .ok (.lstore 7, 2) := by decide +kernel
theorem dX5_powers_338 : decode cX5_powers 338 = .ok (.iinc 9 1, 3) := by decide +kernel
theorem dX5_powers_341 : decode cX5_powers 341 = .ok (.goto (-37), 3) := by decide +kernel
theorem dX5_powers_344 : decode cX5_powers 344 = .ok (.aload_n 0, 1) := by decide +kernel
theorem dX5_powers_345 : decode cX5_powers 345 = .ok (.getfield 40, 3) := by decide +kernel
theorem dX5_powers_348 : decode cX5_powers 348 = .ok (.iload 6, 2) := by decide +kernel
theorem dX5_powers_350 : decode cX5_powers 350 = .ok (.lload 7, 2) := by decide +kernel
theorem dX5_powers_352 : decode cX5_powers 352 = .ok (.invokestatic 48, 3) := by decide +kernel
theorem dX5_powers_355 : decode cX5_powers 355 = .ok (.aload_n 0, 1) := by decide +kernel
