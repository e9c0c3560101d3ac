theorem dL_law_0 : decode cL_law 0 = .ok (.new 27, 3) := by decide +kernel
theorem dL_law_3 : decode cL_law 3 = .ok (.dup, 1) := by decide +kernel
theorem dL_law_4 : decode cL_law 4 = .ok (.invokespecial 71, 3) := by decide +kernel
theorem dL_law_7 : decode cL_law 7 = .ok (.astore_n 1, 1) := by decide +kernel
theorem dL_law_8 : decode cL_law 8 = .ok (.iconst 4, 1) := by decide +kernel
theorem dL_law_9 : decode cL_law 9 = .ok (.anewarray 72, 3) := by decide +kernel
theorem dL_law_12 : decode cL_law 12 = .ok (.astore_n 2, 1) := by decide +kernel
theorem dL_law_13 : decode cL_law 13 = .ok (.iconst 0, 1) := by decide +kernel
theorem dL_law_14 : decode cL_law 14 = .ok (.istore_n 3, 1) := by decide +kernel
theorem dL_law_15 : decode cL_law 15 = .ok (.iload_n 3, 1) := by decide +kernel
theorem dL_law_16 : decode cL_law 16 = .ok (.iconst 4, 1) := by decide +kernel
theorem dL_law_17 : decode cL_law 17 = .ok (.if_icmp .ge 36, 3) := by decide +kernel
theorem dL_law_20 : decode cL_law 20 = .ok (.aload_n 2, 1) := by decide +kernel
theorem dL_law_21 : decode cL_law 21 = .ok (.iload_n 3, 1) := by decide +kernel
theorem dL_law_22 : decode cL_law 22 = .ok (.aload_n 0, 1) := by decide +kernel
theorem dL_law_23 : decode cL_law 23 = .ok (.iconst 2, 1) := by decide +kernel
theorem dL_law_24 : decode cL_law 24 = .ok (.iload_n 3, 1) := by decide +kernel
theorem dL_law_25 : decode cL_law 25 = .ok (.imul, 1) := by decide +kernel
theorem dL_law_26 : decode cL_law 26 = .ok (.bipush 70, 2) := by decide +kernel
theorem dL_law_28 : decode cL_law 28 = .ok (.invokestatic 74, 3) := by decide +kernel
theorem dL_law_31 : decode cL_law 31 = .ok (.aastore, 1) := by decide +kernel
theorem dL_law_32 : decode cL_law 32 = .ok (.aload_n 1, 1) := by decide +kernel
theorem dL_law_33 : decode cL_law 33 = .ok (.aload_n 2, 1) := by decide +kernel
theorem dL_law_34 : decode cL_law 34 = .ok (.iload_n 3, 1) := by decide +kernel
theorem dL_law_35 : decode cL_law 35 = .ok (.aaload, 1) := by decide +kernel
theorem dL_law_36 : decode cL_law 36 = .ok (.bipush 7, 2) := by decide +kernel
theorem dL_law_38 : decode cL_law 38 = .ok (.invokestatic 78, 3) := by decide +kernel
theorem dL_law_41 : decode cL_law 41 = .ok (.iload_n 3, 1) := by decide +kernel
theorem dL_law_42 : decode cL_law 42 = .ok (.if_icmp .eq 5, 3) := by decide +kernel
theorem dL_law_45 : decode cL_law 45 = .ok (.iconst 0, 1) := by decide +kernel
theorem dL_law_46 : decode cL_law 46 = .ok (.ireturn, 1) := by decide +kernel
theorem dL_law_47 : decode cL_law 47 = .ok (.iinc 3 1, 3) := by decide +kernel
theorem dL_law_50 : decode cL_law 50 = .ok (.goto (-35), 3) := by decide +kernel
theorem dL_law_53 : decode cL_law 53 = .ok (.iconst 0, 1) := by decide +kernel
theorem dL_law_54 : decode cL_law 54 = .ok (.istore_n 3, 1) := by decide +kernel
theorem dL_law_55 : decode cL_law 55 = .ok (.iload_n 3, 1) := by decide +kernel
theorem dL_law_56 : decode cL_law 56 = .ok (.iconst 4, 1) := by decide +kernel
theorem dL_law_57 : decode cL_law 57 = .ok (.if_icmp .ge 566, 3) := by decide +kernel
theorem dL_law_60 : decode cL_law 60 = .ok (.aload_n 0, 1) := by decide +kernel
theorem dL_law_61 : decode cL_law 61 = .ok (.bipush 8, 2) := by decide +kernel
theorem dL_law_63 : decode cL_law 63 = .ok (.iload_n 3, 1) := by decide +kernel
theorem dL_law_64 : decode cL_law 64 = .ok (.iadd, 1) := by decide +kernel
theorem dL_law_65 : decode cL_law 65 = .ok (.invokestatic 9, 3) := by decide +kernel
theorem dL_law_68 : decode cL_law 68 = .ok (.istore 4, 2) := by decide +kernel
theorem dL_law_70 : decode cL_law 70 = .ok (.iload 4, 2) := by decide +kernel
theorem dL_law_72 : decode cL_law 72 = .ok (.iconst 4, 1) := by decide +kernel
theorem dL_law_73 : decode cL_law 73 = .ok (.invokestatic 15, 3) := by decide +kernel
theorem dL_law_76 : decode cL_law 76 = .ok (.istore 5, 2) := by decide +kernel
theorem dL_law_78 : decode cL_law 78 = .ok (.iload 4, 2) := by decide +kernel
theorem dL_law_80 : decode cL_law 80 = .ok (.iconst 2, 1) := by decide +kernel
theorem dL_law_81 : decode cL_law 81 = .ok (.ishr, 1) := by decide +kernel
theorem dL_law_82 : decode cL_law 82 = .ok (.iconst 4, 1) := by decide +kernel
theorem dL_law_83 : decode cL_law 83 = .ok (.invokestatic 15, 3) := by decide +kernel
theorem dL_law_86 : decode cL_law 86 = .ok (.istore 6, 2) := by decide +kernel
theorem dL_law_88 : decode cL_law 88 = .ok (.iload 4, 2) := by decide +kernel
theorem dL_law_90 : decode cL_law 90 = .ok (.iconst 4, 1) := by decide +kernel
theorem dL_law_91 : decode cL_law 91 = .ok (.ishr, 1) := by decide +kernel
theorem dL_law_92 : decode cL_law 92 = .ok (.iconst 4, 1) := by decide +kernel
theorem dL_law_93 : decode cL_law 93 = .ok (.invokestatic 15, 3) := by decide +kernel
theorem dL_law_96 : decode cL_law 96 = .ok (.istore 7, 2) := by decide +kernel
theorem dL_law_98 : decode cL_law 98 = .ok (.iconst 2, 1) := by decide +kernel
theorem dL_law_99 : decode cL_law 99 = .ok (.iload 4, 2) := by decide +kernel
theorem dL_law_101 : decode cL_law 101 = .ok (.bipush 6, 2) := by decide +kernel
theorem dL_law_103 : decode cL_law 103 = .ok (.ishr, 1) := by decide +kernel
theorem dL_law_104 : decode cL_law 104 = .ok (.bipush 8, 2) := by decide +kernel
theorem dL_law_106 : decode cL_law 106 = .ok (.invokestatic 15, 3) := by decide +kernel
theorem dL_law_109 : decode cL_law 109 = .ok (.iadd, 1) := by decide +kernel
theorem dL_law_110 : decode cL_law 110 = .ok (.istore 8, 2) := by decide +kernel
theorem dL_law_112 : decode cL_law 112 = .ok (.aload_n 1, 1) := by decide +kernel
theorem dL_law_113 : decode cL_law 113 = .ok (.iload 5, 2) := by decide +kernel
theorem dL_law_115 : decode cL_law 115 = .ok (.iload 6, 2) := by decide +kernel
theorem dL_law_117 : decode cL_law 117 = .ok (.iload 8, 2) := by decide +kernel
theorem dL_law_119 : decode cL_law 119 = .ok (.invokevirtual 81, 3) := by decide +kernel
theorem dL_law_122 : decode cL_law 122 = .ok (.istore 9, 2) := by decide +kernel
theorem dL_law_124 : decode cL_law 124 = .ok (.aload_n 1, 1) := by decide +kernel
theorem dL_law_125 : decode cL_law 125 = .ok (.iload 6, 2) := by decide +kernel
theorem dL_law_127 : decode cL_law 127 = .ok (.iload 7, 2) := by decide +kernel
theorem dL_law_129 : decode cL_law 129 = .ok (.iconst 2, 1) := by decide +kernel
theorem dL_law_130 : decode cL_law 130 = .ok (.iload 4, 2) := by decide +kernel
theorem dL_law_132 : decode cL_law 132 = .ok (.bipush 9, 2) := by decide +kernel
theorem dL_law_134 : decode cL_law 134 = .ok (.ishr, 1) := by decide +kernel
theorem dL_law_135 : decode cL_law 135 = .ok (.bipush 8, 2) := by decide +kernel
theorem dL_law_137 : decode cL_law 137 = .ok (.invokestatic 15, 3) := by decide +kernel
theorem dL_law_140 : decode cL_law 140 = .ok (.iadd, 1) := by decide +kernel
theorem dL_law_141 : decode cL_law 141 = .ok (.invokevirtual 81, 3) := by decide +kernel
theorem dL_law_144 : decode cL_law 144 = .ok (.istore 10, 2) := by decide +kernel
theorem dL_law_146 : decode cL_law 146 = .ok (.aload_n 1, 1) := by decide +kernel
theorem dL_law_147 : decode cL_law 147 = .ok (.iload 9, 2) := by decide +kernel
theorem dL_law_149 : decode cL_law 149 = .ok (.iload 10, 2) := by decide +kernel
theorem dL_law_151 : decode cL_law 151 = .ok (.invokevirtual 84, 3) := by decide +kernel
theorem dL_law_154 : decode cL_law 154 = .ok (.istore 11, 2) := by decide +kernel
theorem dL_law_156 : decode cL_law 156 = .ok (.iload 9, 2) := by decide +kernel
theorem dL_law_158 : decode cL_law 158 = .ok (.iconst 3, 1) := by decide +kernel
theorem dL_law_159 : decode cL_law 159 = .ok (.iload_n 3, 1) := by decide +kernel
theorem dL_law_160 : decode cL_law 160 = .ok (.imul, 1) := by decide +kernel
theorem dL_law_161 : decode cL_law 161 = .ok (.if_icmp .ne 21, 3) := by decide +kernel
theorem dL_law_164 : decode cL_law 164 = .ok (.iload 10, 2) := by decide +kernel
theorem dL_law_166 : decode cL_law 166 = .ok (.iload 9, 2) := by decide +kernel
theorem dL_law_168 : decode cL_law 168 = .ok (.iconst 1, 1) := by decide +kernel
theorem dL_law_169 : decode cL_law 169 = .ok (.iadd, 1) := by decide +kernel
theorem dL_law_170 : decode cL_law 170 = .ok (.if_icmp .ne 12, 3) := by decide +kernel
theorem dL_law_173 : decode cL_law 173 = .ok (.iload 11, 2) := by decide +kernel
theorem dL_law_175 : decode cL_law 175 = .ok (.iload 10, 2) := by decide +kernel
theorem dL_law_177 : decode cL_law 177 = .ok (.iconst 1, 1) := by decide +kernel
theorem dL_law_178 : decode cL_law 178 = .ok (.iadd, 1) := by decide +kernel
theorem dL_law_179 : decode cL_law 179 = .ok (.if_icmp .eq 5, 3) := by decide +kernel
theorem dL_law_182 : decode cL_law 182 = .ok (.iconst 0, 1) := by decide +kernel
theorem dL_law_183 : decode cL_law 183 = .ok (.ireturn, 1) := by decide +kernel
theorem dL_law_184 : decode cL_law 184 = .ok (.iload 9, 2) := by decide +kernel
theorem dL_law_186 : decode cL_law 186 = .ok (.istore 12, 2) := by decide +kernel
theorem dL_law_188 : decode cL_law 188 = .ok (.iload 12, 2) := by decide +kernel
theorem dL_law_190 : decode cL_law 190 = .ok (.iload 11, 2) := by decide +kernel
theorem dL_law_192 : decode cL_law 192 = .ok (.if_icmp .gt 317, 3) := by decide +kernel
theorem dL_law_195 : decode cL_law 195 = .ok (.aload_n 2, 1) := by decide +kernel
theorem dL_law_196 : decode cL_law 196 = .ok (.iload 12, 2) := by decide +kernel
theorem dL_law_198 : decode cL_law 198 = .ok (.iload 10, 2) := by decide +kernel
theorem dL_law_200 : decode cL_law 200 = .ok (.if_icmp .ne 8, 3) := by decide +kernel
theorem dL_law_203 : decode cL_law 203 = .ok (.iload 6, 2) := by decide +kernel
theorem dL_law_205 : decode cL_law 205 = .ok (.goto 5, 3) := by decide +kernel
theorem dL_law_208 : decode cL_law 208 = .ok (.iload 5, 2) := by decide +kernel
theorem dL_law_210 : decode cL_law 210 = .ok (.aaload, 1) := by decide +kernel
theorem dL_law_211 : decode cL_law 211 = .ok (.astore 13, 2) := by decide +kernel
theorem dL_law_213 : decode cL_law 213 = .ok (.aload_n 2, 1) := by decide +kernel
theorem dL_law_214 : decode cL_law 214 = .ok (.iload 12, 2) := by decide +kernel
theorem dL_law_216 : decode cL_law 216 = .ok (.iload 9, 2) := by decide +kernel
theorem dL_law_218 : decode cL_law 218 = .ok (.if_icmp .ne 8, 3) := by decide +kernel
theorem dL_law_221 : decode cL_law 221 = .ok (.iload 6, 2) := by decide +kernel
theorem dL_law_223 : decode cL_law 223 = .ok (.goto 5, 3) := by decide +kernel
theorem dL_law_226 : decode cL_law 226 = .ok (.iload 7, 2) := by decide +kernel
theorem dL_law_228 : decode cL_law 228 = .ok (.aaload, 1) := by decide +kernel
theorem dL_law_229 : decode cL_law 229 = .ok (.astore 14, 2) := by decide +kernel
theorem dL_law_231 : decode cL_law 231 = .ok (.iconst 0, 1) := by decide +kernel
theorem dL_law_232 : decode cL_law 232 = .ok (.istore 15, 2) := by decide +kernel
theorem dL_law_234 : decode cL_law 234 = .ok (.iconst 0, 1) := by decide +kernel
theorem dL_law_235 : decode cL_law 235 = .ok (.istore 16, 2) := by decide +kernel
theorem dL_law_237 : decode cL_law 237 = .ok (.iconst (-1), 1) := by decide +kernel
theorem dL_law_238 : decode cL_law 238 = .ok (.istore 17, 2) := by decide +kernel
theorem dL_law_240 : decode cL_law 240 = .ok (.iconst 0, 1) := by decide +kernel
theorem dL_law_241 : decode cL_law 241 = .ok (.istore 18, 2) := by decide +kernel
theorem dL_law_243 : decode cL_law 243 = .ok (.iload 18, 2) := by decide +kernel
theorem dL_law_245 : decode cL_law 245 = .ok (.aload_n 1, 1) := by decide +kernel
theorem dL_law_246 : decode cL_law 246 = .ok (.iload 12, 2) := by decide +kernel
theorem dL_law_248 : decode cL_law 248 = .ok (.invokevirtual 53, 3) := by decide +kernel
theorem dL_law_251 : decode cL_law 251 = .ok (.if_icmp .ge 155, 3) := by decide +kernel
theorem dL_law_254 : decode cL_law 254 = .ok (.aload_n 1, 1) := by decide +kernel
theorem dL_law_255 : decode cL_law 255 = .ok (.iload 12, 2) := by decide +kernel
theorem dL_law_257 : decode cL_law 257 = .ok (.iload 18, 2) := by decide +kernel
theorem dL_law_259 : decode cL_law 259 = .ok (.iconst 0, 1) := by decide +kernel
theorem dL_law_260 : decode cL_law 260 = .ok (.invokevirtual 56, 3) := by decide +kernel
theorem dL_law_263 : decode cL_law 263 = .ok (.istore 19, 2) := by decide +kernel
theorem dL_law_265 : decode cL_law 265 = .ok (.aload_n 1, 1) := by decide +kernel
theorem dL_law_266 : decode cL_law 266 = .ok (.iload 12, 2) := by decide +kernel
theorem dL_law_268 : decode cL_law 268 = .ok (.iload 18, 2) := by decide +kernel
theorem dL_law_270 : decode cL_law 270 = .ok (.iconst 1, 1) := by decide +kernel
theorem dL_law_271 : decode cL_law 271 = .ok (.invokevirtual 56, 3) := by decide +kernel
theorem dL_law_274 : decode cL_law 274 = .ok (.istore 20, 2) := by decide +kernel
theorem dL_law_276 : decode cL_law 276 = .ok (.aload_n 1, 1) := by decide +kernel
theorem dL_law_277 : decode cL_law 277 = .ok (.iload 12, 2) := by decide +kernel
theorem dL_law_279 : decode cL_law 279 = .ok (.iload 18, 2) := by decide +kernel
theorem dL_law_281 : decode cL_law 281 = .ok (.iconst 2, 1) := by decide +kernel
theorem dL_law_282 : decode cL_law 282 = .ok (.invokevirtual 56, 3) := by decide +kernel
theorem dL_law_285 : decode cL_law 285 = .ok (.istore 21, 2) := by decide +kernel
theorem dL_law_287 : decode cL_law 287 = .ok (.iload 21, 2) := by decide +kernel
theorem dL_law_289 : decode cL_law 289 = .ok (.iconst 1, 1) := by decide +kernel
theorem dL_law_290 : decode cL_law 290 = .ok (.if_icmp .lt 52, 3) := by decide +kernel
theorem dL_law_293 : decode cL_law 293 = .ok (.iload 19, 2) := by decide +kernel
theorem dL_law_295 : decode cL_law 295 = .ok (.iconst 1, 1) := by decide +kernel
theorem dL_law_296 : decode cL_law 296 = .ok (.if_icmp .ne 9, 3) := by decide +kernel
theorem dL_law_299 : decode cL_law 299 = .ok (.iload 17, 2) := by decide +kernel
theorem dL_law_301 : decode cL_law 301 = .ok (.iconst 1, 1) := by decide +kernel
theorem dL_law_302 : decode cL_law 302 = .ok (.if_icmp .eq 40, 3) := by decide +kernel
theorem dL_law_305 : decode cL_law 305 = .ok (.iload 19, 2) := by decide +kernel
theorem dL_law_307 : decode cL_law 307 = .ok (.ifCond .ne 37, 3) := by decide +kernel
theorem dL_law_310 : decode cL_law 310 = .ok (.iload 20, 2) := by decide +kernel
theorem dL_law_312 : decode cL_law 312 = .ok (.ifCond .lt 30, 3) := by decide +kernel
theorem dL_law_315 : decode cL_law 315 = .ok (.iload 20, 2) := by decide +kernel
theorem dL_law_317 : decode cL_law 317 = .ok (.iload 21, 2) := by decide +kernel
theorem dL_law_319 : decode cL_law 319 = .ok (.iadd, 1) := by decide +kernel
