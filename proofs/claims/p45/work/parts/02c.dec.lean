theorem dL_at_0 : decode cL_at 0 = .ok (.iload_n 1, 1) := by decide +kernel
theorem dL_at_1 : decode cL_at 1 = .ok (.aload_n 0, 1) := by decide +kernel
theorem dL_at_2 : decode cL_at 2 = .ok (.arraylength, 1) := by decide +kernel
theorem dL_at_3 : decode cL_at 3 = .ok (.if_icmp .ge 9, 3) := by decide +kernel
theorem dL_at_6 : decode cL_at 6 = .ok (.aload_n 0, 1) := by decide +kernel
theorem dL_at_7 : decode cL_at 7 = .ok (.iload_n 1, 1) := by decide +kernel
theorem dL_at_8 : decode cL_at 8 = .ok (.iaload, 1) := by decide +kernel
theorem dL_at_9 : decode cL_at 9 = .ok (.goto 4, 3) := by decide +kernel
theorem dL_at_12 : decode cL_at 12 = .ok (.iconst 0, 1) := by decide +kernel
theorem dL_at_13 : decode cL_at 13 = .ok (.ireturn, 1) := by decide +kernel
theorem dL_text_0 : decode cL_text 0 = .ok (.iconst 0, 1) := by decide +kernel
theorem dL_text_1 : decode cL_text 1 = .ok (.istore_n 2, 1) := by decide +kernel
theorem dL_text_2 : decode cL_text 2 = .ok (.iload_n 2, 1) := by decide +kernel
theorem dL_text_3 : decode cL_text 3 = .ok (.aload_n 1, 1) := by decide +kernel
theorem dL_text_4 : decode cL_text 4 = .ok (.invokevirtual 7, 3) := by decide +kernel
theorem dL_text_7 : decode cL_text 7 = .ok (.if_icmp .ge 24, 3) := by decide +kernel
theorem dL_text_10 : decode cL_text 10 = .ok (.aload_n 0, 1) := by decide +kernel
theorem dL_text_11 : decode cL_text 11 = .ok (.iconst 1, 1) := by decide +kernel
theorem dL_text_12 : decode cL_text 12 = .ok (.aload_n 1, 1) := by decide +kernel
theorem dL_text_13 : decode cL_text 13 = .ok (.iload_n 2, 1) := by decide +kernel
theorem dL_text_14 : decode cL_text 14 = .ok (.invokevirtual 13, 3) := by decide +kernel
theorem dL_text_17 : decode cL_text 17 = .ok (.iconst 0, 1) := by decide +kernel
theorem dL_text_18 : decode cL_text 18 = .ok (.iconst 0, 1) := by decide +kernel
theorem dL_text_19 : decode cL_text 19 = .ok (.iconst 0, 1) := by decide +kernel
theorem dL_text_20 : decode cL_text 20 = .ok (.iconst 0, 1) := by decide +kernel
theorem dL_text_21 : decode cL_text 21 = .ok (.invokevirtual 17, 3) := by decide +kernel
theorem dL_text_24 : decode cL_text 24 = .ok (.pop, 1) := by decide +kernel
theorem dL_text_25 : decode cL_text 25 = .ok (.iinc 2 1, 3) := by decide +kernel
theorem dL_text_28 : decode cL_text 28 = .ok (.goto (-26), 3) := by decide +kernel
theorem dL_text_31 : decode cL_text 31 = .ok (.return_, 1) := by decide +kernel
theorem dL_build_0 : decode cL_build 0 = .ok (.new 18, 3) := by decide +kernel
theorem dL_build_3 : decode cL_build 3 = .ok (.dup, 1) := by decide +kernel
theorem dL_build_4 : decode cL_build 4 = .ok (.invokespecial 23, 3) := by decide +kernel
theorem dL_build_7 : decode cL_build 7 = .ok (.astore_n 1, 1) := by decide +kernel
theorem dL_build_8 : decode cL_build 8 = .ok (.aload_n 1, 1) := by decide +kernel
theorem dL_build_9 : decode cL_build 9 = .ok (.bipush 6, 2) := by decide +kernel
theorem dL_build_11 : decode cL_build 11 = .ok (.aload_n 0, 1) := by decide +kernel
theorem dL_build_12 : decode cL_build 12 = .ok (.invokestatic 24, 3) := by decide +kernel
theorem dL_build_15 : decode cL_build 15 = .ok (.invokevirtual 30, 3) := by decide +kernel
theorem dL_build_18 : decode cL_build 18 = .ok (.pop, 1) := by decide +kernel
theorem dL_build_19 : decode cL_build 19 = .ok (.iconst 0, 1) := by decide +kernel
theorem dL_build_20 : decode cL_build 20 = .ok (.istore_n 2, 1) := by decide +kernel
theorem dL_build_21 : decode cL_build 21 = .ok (.iload_n 2, 1) := by decide +kernel
theorem dL_build_22 : decode cL_build 22 = .ok (.bipush 6, 2) := by decide +kernel
theorem dL_build_24 : decode cL_build 24 = .ok (.if_icmp .ge 20, 3) := by decide +kernel
theorem dL_build_27 : decode cL_build 27 = .ok (.aload_n 1, 1) := by decide +kernel
theorem dL_build_28 : decode cL_build 28 = .ok (.iload_n 2, 1) := by decide +kernel
theorem dL_build_29 : decode cL_build 29 = .ok (.aload_n 0, 1) := by decide +kernel
theorem dL_build_30 : decode cL_build 30 = .ok (.iload_n 2, 1) := by decide +kernel
theorem dL_build_31 : decode cL_build 31 = .ok (.invokestatic 34, 3) := by decide +kernel
theorem dL_build_34 : decode cL_build 34 = .ok (.invokevirtual 30, 3) := by decide +kernel
theorem dL_build_37 : decode cL_build 37 = .ok (.pop, 1) := by decide +kernel
theorem dL_build_38 : decode cL_build 38 = .ok (.iinc 2 1, 3) := by decide +kernel
theorem dL_build_41 : decode cL_build 41 = .ok (.goto (-20), 3) := by decide +kernel
theorem dL_build_44 : decode cL_build 44 = .ok (.iconst 0, 1) := by decide +kernel
theorem dL_build_45 : decode cL_build 45 = .ok (.istore_n 2, 1) := by decide +kernel
theorem dL_build_46 : decode cL_build 46 = .ok (.iload_n 2, 1) := by decide +kernel
theorem dL_build_47 : decode cL_build 47 = .ok (.bipush 12, 2) := by decide +kernel
theorem dL_build_49 : decode cL_build 49 = .ok (.if_icmp .ge 35, 3) := by decide +kernel
theorem dL_build_52 : decode cL_build 52 = .ok (.iconst 0, 1) := by decide +kernel
theorem dL_build_53 : decode cL_build 53 = .ok (.istore_n 3, 1) := by decide +kernel
theorem dL_build_54 : decode cL_build 54 = .ok (.iload_n 3, 1) := by decide +kernel
theorem dL_build_55 : decode cL_build 55 = .ok (.iconst 4, 1) := by decide +kernel
theorem dL_build_56 : decode cL_build 56 = .ok (.if_icmp .ge 22, 3) := by decide +kernel
theorem dL_build_59 : decode cL_build 59 = .ok (.aload_n 1, 1) := by decide +kernel
theorem dL_build_60 : decode cL_build 60 = .ok (.iload_n 2, 1) := by decide +kernel
theorem dL_build_61 : decode cL_build 61 = .ok (.iload_n 3, 1) := by decide +kernel
theorem dL_build_62 : decode cL_build 62 = .ok (.aload_n 0, 1) := by decide +kernel
theorem dL_build_63 : decode cL_build 63 = .ok (.iload_n 2, 1) := by decide +kernel
theorem dL_build_64 : decode cL_build 64 = .ok (.iload_n 3, 1) := by decide +kernel
theorem dL_build_65 : decode cL_build 65 = .ok (.invokestatic 37, 3) := by decide +kernel
theorem dL_build_68 : decode cL_build 68 = .ok (.invokevirtual 41, 3) := by decide +kernel
theorem dL_build_71 : decode cL_build 71 = .ok (.pop, 1) := by decide +kernel
theorem dL_build_72 : decode cL_build 72 = .ok (.iinc 3 1, 3) := by decide +kernel
theorem dL_build_75 : decode cL_build 75 = .ok (.goto (-21), 3) := by decide +kernel
theorem dL_build_78 : decode cL_build 78 = .ok (.iinc 2 1, 3) := by decide +kernel
theorem dL_build_81 : decode cL_build 81 = .ok (.goto (-35), 3) := by decide +kernel
theorem dL_build_84 : decode cL_build 84 = .ok (.iconst 0, 1) := by decide +kernel
theorem dL_build_85 : decode cL_build 85 = .ok (.istore_n 2, 1) := by decide +kernel
theorem dL_build_86 : decode cL_build 86 = .ok (.iload_n 2, 1) := by decide +kernel
theorem dL_build_87 : decode cL_build 87 = .ok (.aload_n 0, 1) := by decide +kernel
theorem dL_build_88 : decode cL_build 88 = .ok (.invokestatic 44, 3) := by decide +kernel
theorem dL_build_91 : decode cL_build 91 = .ok (.if_icmp .ge 33, 3) := by decide +kernel
theorem dL_build_94 : decode cL_build 94 = .ok (.aload_n 1, 1) := by decide +kernel
theorem dL_build_95 : decode cL_build 95 = .ok (.bipush 10, 2) := by decide +kernel
theorem dL_build_97 : decode cL_build 97 = .ok (.aload_n 0, 1) := by decide +kernel
theorem dL_build_98 : decode cL_build 98 = .ok (.iload_n 2, 1) := by decide +kernel
theorem dL_build_99 : decode cL_build 99 = .ok (.invokestatic 47, 3) := by decide +kernel
theorem dL_build_102 : decode cL_build 102 = .ok (.imul, 1) := by decide +kernel
theorem dL_build_103 : decode cL_build 103 = .ok (.aload_n 0, 1) := by decide +kernel
theorem dL_build_104 : decode cL_build 104 = .ok (.iload_n 2, 1) := by decide +kernel
theorem dL_build_105 : decode cL_build 105 = .ok (.invokestatic 50, 3) := by decide +kernel
theorem dL_build_108 : decode cL_build 108 = .ok (.iadd, 1) := by decide +kernel
theorem dL_build_109 : decode cL_build 109 = .ok (.aload_n 0, 1) := by decide +kernel
theorem dL_build_110 : decode cL_build 110 = .ok (.iload_n 2, 1) := by decide +kernel
theorem dL_build_111 : decode cL_build 111 = .ok (.invokestatic 53, 3) := by decide +kernel
theorem dL_build_114 : decode cL_build 114 = .ok (.invokevirtual 56, 3) := by decide +kernel
theorem dL_build_117 : decode cL_build 117 = .ok (.pop, 1) := by decide +kernel
theorem dL_build_118 : decode cL_build 118 = .ok (.iinc 2 1, 3) := by decide +kernel
theorem dL_build_121 : decode cL_build 121 = .ok (.goto (-35), 3) := by decide +kernel
theorem dL_build_124 : decode cL_build 124 = .ok (.aload_n 0, 1) := by decide +kernel
theorem dL_build_125 : decode cL_build 125 = .ok (.invokestatic 59, 3) := by decide +kernel
theorem dL_build_128 : decode cL_build 128 = .ok (.ifCond .ne 161, 3) := by decide +kernel
theorem dL_build_131 : decode cL_build 131 = .ok (.aload_n 1, 1) := by decide +kernel
theorem dL_build_132 : decode cL_build 132 = .ok (.new 63, 3) := by decide +kernel
theorem dL_build_135 : decode cL_build 135 = .ok (.dup, 1) := by decide +kernel
theorem dL_build_136 : decode cL_build 136 = .ok (.invokespecial 65, 3) := by decide +kernel
theorem dL_build_139 : decode cL_build 139 = .ok (.ldc 66, 2) := by decide +kernel
theorem dL_build_141 : decode cL_build 141 = .ok (.invokevirtual 68, 3) := by decide +kernel
theorem dL_build_144 : decode cL_build 144 = .ok (.aload_n 0, 1) := by decide +kernel
theorem dL_build_145 : decode cL_build 145 = .ok (.iconst 0, 1) := by decide +kernel
theorem dL_build_146 : decode cL_build 146 = .ok (.invokestatic 72, 3) := by decide +kernel
theorem dL_build_149 : decode cL_build 149 = .ok (.iconst 3, 1) := by decide +kernel
theorem dL_build_150 : decode cL_build 150 = .ok (.ishr, 1) := by decide +kernel
theorem dL_build_151 : decode cL_build 151 = .ok (.bipush 31, 2) := by decide +kernel
theorem dL_build_153 : decode cL_build 153 = .ok (.iand, 1) := by decide +kernel
theorem dL_build_154 : decode cL_build 154 = .ok (.invokevirtual 75, 3) := by decide +kernel
theorem dL_build_157 : decode cL_build 157 = .ok (.ldc 78, 2) := by decide +kernel
theorem dL_build_159 : decode cL_build 159 = .ok (.invokevirtual 68, 3) := by decide +kernel
theorem dL_build_162 : decode cL_build 162 = .ok (.aload_n 0, 1) := by decide +kernel
theorem dL_build_163 : decode cL_build 163 = .ok (.iconst 0, 1) := by decide +kernel
theorem dL_build_164 : decode cL_build 164 = .ok (.invokestatic 72, 3) := by decide +kernel
theorem dL_build_167 : decode cL_build 167 = .ok (.bipush 8, 2) := by decide +kernel
theorem dL_build_169 : decode cL_build 169 = .ok (.ishr, 1) := by decide +kernel
theorem dL_build_170 : decode cL_build 170 = .ok (.bipush 7, 2) := by decide +kernel
theorem dL_build_172 : decode cL_build 172 = .ok (.iand, 1) := by decide +kernel
theorem dL_build_173 : decode cL_build 173 = .ok (.invokevirtual 75, 3) := by decide +kernel
theorem dL_build_176 : decode cL_build 176 = .ok (.ldc 80, 2) := by decide +kernel
theorem dL_build_178 : decode cL_build 178 = .ok (.invokevirtual 68, 3) := by decide +kernel
theorem dL_build_181 : decode cL_build 181 = .ok (.aload_n 0, 1) := by decide +kernel
theorem dL_build_182 : decode cL_build 182 = .ok (.iconst 0, 1) := by decide +kernel
theorem dL_build_183 : decode cL_build 183 = .ok (.invokestatic 72, 3) := by decide +kernel
theorem dL_build_186 : decode cL_build 186 = .ok (.bipush 11, 2) := by decide +kernel
theorem dL_build_188 : decode cL_build 188 = .ok (.ishr, 1) := by decide +kernel
theorem dL_build_189 : decode cL_build 189 = .ok (.bipush 15, 2) := by decide +kernel
theorem dL_build_191 : decode cL_build 191 = .ok (.iand, 1) := by decide +kernel
theorem dL_build_192 : decode cL_build 192 = .ok (.invokevirtual 75, 3) := by decide +kernel
theorem dL_build_195 : decode cL_build 195 = .ok (.ldc 82, 2) := by decide +kernel
theorem dL_build_197 : decode cL_build 197 = .ok (.invokevirtual 68, 3) := by decide +kernel
theorem dL_build_200 : decode cL_build 200 = .ok (.aload_n 0, 1) := by decide +kernel
theorem dL_build_201 : decode cL_build 201 = .ok (.iconst 0, 1) := by decide +kernel
theorem dL_build_202 : decode cL_build 202 = .ok (.invokestatic 72, 3) := by decide +kernel
theorem dL_build_205 : decode cL_build 205 = .ok (.bipush 15, 2) := by decide +kernel
theorem dL_build_207 : decode cL_build 207 = .ok (.ishr, 1) := by decide +kernel
theorem dL_build_208 : decode cL_build 208 = .ok (.bipush 7, 2) := by decide +kernel
theorem dL_build_210 : decode cL_build 210 = .ok (.iand, 1) := by decide +kernel
theorem dL_build_211 : decode cL_build 211 = .ok (.invokevirtual 75, 3) := by decide +kernel
theorem dL_build_214 : decode cL_build 214 = .ok (.ldc 84, 2) := by decide +kernel
theorem dL_build_216 : decode cL_build 216 = .ok (.invokevirtual 68, 3) := by decide +kernel
theorem dL_build_219 : decode cL_build 219 = .ok (.aload_n 0, 1) := by decide +kernel
theorem dL_build_220 : decode cL_build 220 = .ok (.iconst 0, 1) := by decide +kernel
theorem dL_build_221 : decode cL_build 221 = .ok (.invokestatic 72, 3) := by decide +kernel
theorem dL_build_224 : decode cL_build 224 = .ok (.bipush 18, 2) := by decide +kernel
theorem dL_build_226 : decode cL_build 226 = .ok (.ishr, 1) := by decide +kernel
theorem dL_build_227 : decode cL_build 227 = .ok (.bipush 63, 2) := by decide +kernel
theorem dL_build_229 : decode cL_build 229 = .ok (.iand, 1) := by decide +kernel
theorem dL_build_230 : decode cL_build 230 = .ok (.invokevirtual 75, 3) := by decide +kernel
theorem dL_build_233 : decode cL_build 233 = .ok (.ldc 86, 2) := by decide +kernel
theorem dL_build_235 : decode cL_build 235 = .ok (.invokevirtual 68, 3) := by decide +kernel
theorem dL_build_238 : decode cL_build 238 = .ok (.aload_n 0, 1) := by decide +kernel
theorem dL_build_239 : decode cL_build 239 = .ok (.iconst 0, 1) := by decide +kernel
theorem dL_build_240 : decode cL_build 240 = .ok (.invokestatic 72, 3) := by decide +kernel
theorem dL_build_243 : decode cL_build 243 = .ok (.bipush 24, 2) := by decide +kernel
theorem dL_build_245 : decode cL_build 245 = .ok (.ishr, 1) := by decide +kernel
theorem dL_build_246 : decode cL_build 246 = .ok (.iconst 3, 1) := by decide +kernel
theorem dL_build_247 : decode cL_build 247 = .ok (.iand, 1) := by decide +kernel
theorem dL_build_248 : decode cL_build 248 = .ok (.invokevirtual 75, 3) := by decide +kernel
theorem dL_build_251 : decode cL_build 251 = .ok (.ldc 88, 2) := by decide +kernel
theorem dL_build_253 : decode cL_build 253 = .ok (.invokevirtual 68, 3) := by decide +kernel
theorem dL_build_256 : decode cL_build 256 = .ok (.aload_n 0, 1) := by decide +kernel
theorem dL_build_257 : decode cL_build 257 = .ok (.iconst 0, 1) := by decide +kernel
theorem dL_build_258 : decode cL_build 258 = .ok (.invokestatic 72, 3) := by decide +kernel
theorem dL_build_261 : decode cL_build 261 = .ok (.bipush 26, 2) := by decide +kernel
theorem dL_build_263 : decode cL_build 263 = .ok (.ishr, 1) := by decide +kernel
theorem dL_build_264 : decode cL_build 264 = .ok (.iconst 1, 1) := by decide +kernel
theorem dL_build_265 : decode cL_build 265 = .ok (.iand, 1) := by decide +kernel
theorem dL_build_266 : decode cL_build 266 = .ok (.invokevirtual 75, 3) := by decide +kernel
theorem dL_build_269 : decode cL_build 269 = .ok (.ldc 90, 2) := by decide +kernel
theorem dL_build_271 : decode cL_build 271 = .ok (.invokevirtual 68, 3) := by decide +kernel
theorem dL_build_274 : decode cL_build 274 = .ok (.invokevirtual 92, 3) := by decide +kernel
theorem dL_build_277 : decode cL_build 277 = .ok (.invokestatic 96, 3) := by decide +kernel
theorem dL_build_280 : decode cL_build 280 = .ok (.aload_n 1, 1) := by decide +kernel
theorem dL_build_281 : decode cL_build 281 = .ok (.aload_n 1, 1) := by decide +kernel
theorem dL_build_282 : decode cL_build 282 = .ok (.invokevirtual 100, 3) := by decide +kernel
theorem dL_build_285 : decode cL_build 285 = .ok (.invokevirtual 102, 3) := by decide +kernel
theorem dL_build_288 : decode cL_build 288 = .ok (.pop, 1) := by decide +kernel
theorem dL_build_289 : decode cL_build 289 = .ok (.aload_n 1, 1) := by decide +kernel
theorem dL_build_290 : decode cL_build 290 = .ok (.areturn, 1) := by decide +kernel
theorem dL_plain_0 : decode cL_plain 0 = .ok (.aload_n 0, 1) := by decide +kernel
theorem dL_plain_1 : decode cL_plain 1 = .ok (.iconst 0, 1) := by decide +kernel
theorem dL_plain_2 : decode cL_plain 2 = .ok (.invokestatic 72, 3) := by decide +kernel
theorem dL_plain_5 : decode cL_plain 5 = .ok (.iconst 2, 1) := by decide +kernel
theorem dL_plain_6 : decode cL_plain 6 = .ok (.ishr, 1) := by decide +kernel
theorem dL_plain_7 : decode cL_plain 7 = .ok (.iconst 1, 1) := by decide +kernel
theorem dL_plain_8 : decode cL_plain 8 = .ok (.iand, 1) := by decide +kernel
theorem dL_plain_9 : decode cL_plain 9 = .ok (.ifCond .ne 7, 3) := by decide +kernel
theorem dL_plain_12 : decode cL_plain 12 = .ok (.iconst 1, 1) := by decide +kernel
theorem dL_plain_13 : decode cL_plain 13 = .ok (.goto 4, 3) := by decide +kernel
theorem dL_plain_16 : decode cL_plain 16 = .ok (.iconst 0, 1) := by decide +kernel
theorem dL_plain_17 : decode cL_plain 17 = .ok (.ireturn, 1) := by decide +kernel
theorem dL_many_0 : decode cL_many 0 = .ok (.iconst 1, 1) := by decide +kernel
theorem dL_many_1 : decode cL_many 1 = .ok (.aload_n 0, 1) := by decide +kernel
theorem dL_many_2 : decode cL_many 2 = .ok (.iconst 0, 1) := by decide +kernel
theorem dL_many_3 : decode cL_many 3 = .ok (.invokestatic 72, 3) := by decide +kernel
theorem dL_many_6 : decode cL_many 6 = .ok (.iconst 3, 1) := by decide +kernel
theorem dL_many_7 : decode cL_many 7 = .ok (.iand, 1) := by decide +kernel
theorem dL_many_8 : decode cL_many 8 = .ok (.iadd, 1) := by decide +kernel
theorem dL_many_9 : decode cL_many 9 = .ok (.ireturn, 1) := by decide +kernel
theorem dL_hour_0 : decode cL_hour 0 = .ok (.aload_n 0, 1) := by decide +kernel
theorem dL_hour_1 : decode cL_hour 1 = .ok (.iconst 0, 1) := by decide +kernel
theorem dL_hour_2 : decode cL_hour 2 = .ok (.invokestatic 72, 3) := by decide +kernel
theorem dL_hour_5 : decode cL_hour 5 = .ok (.bipush 27, 2) := by decide +kernel
theorem dL_hour_7 : decode cL_hour 7 = .ok (.ishr, 1) := by decide +kernel
theorem dL_hour_8 : decode cL_hour 8 = .ok (.bipush 15, 2) := by decide +kernel
theorem dL_hour_10 : decode cL_hour 10 = .ok (.iand, 1) := by decide +kernel
theorem dL_hour_11 : decode cL_hour 11 = .ok (.ireturn, 1) := by decide +kernel
theorem dL_sky_0 : decode cL_sky 0 = .ok (.iconst 3, 1) := by decide +kernel
theorem dL_sky_1 : decode cL_sky 1 = .ok (.aload_n 0, 1) := by decide +kernel
theorem dL_sky_2 : decode cL_sky 2 = .ok (.iconst 5, 1) := by decide +kernel
theorem dL_sky_3 : decode cL_sky 3 = .ok (.invokestatic 72, 3) := by decide +kernel
theorem dL_sky_6 : decode cL_sky 6 = .ok (.iconst 5, 1) := by decide +kernel
theorem dL_sky_7 : decode cL_sky 7 = .ok (.iload_n 1, 1) := by decide +kernel
theorem dL_sky_8 : decode cL_sky 8 = .ok (.imul, 1) := by decide +kernel
theorem dL_sky_9 : decode cL_sky 9 = .ok (.ishr, 1) := by decide +kernel
theorem dL_sky_10 : decode cL_sky 10 = .ok (.bipush 31, 2) := by decide +kernel
theorem dL_sky_12 : decode cL_sky 12 = .ok (.iand, 1) := by decide +kernel
theorem dL_sky_13 : decode cL_sky 13 = .ok (.imul, 1) := by decide +kernel
theorem dL_sky_14 : decode cL_sky 14 = .ok (.ireturn, 1) := by decide +kernel
theorem dL_cask_0 : decode cL_cask 0 = .ok (.aload_n 0, 1) := by decide +kernel
theorem dL_cask_1 : decode cL_cask 1 = .ok (.bipush 6, 2) := by decide +kernel
theorem dL_cask_3 : decode cL_cask 3 = .ok (.iload_n 1, 1) := by decide +kernel
theorem dL_cask_4 : decode cL_cask 4 = .ok (.iconst 2, 1) := by decide +kernel
theorem dL_cask_5 : decode cL_cask 5 = .ok (.idiv, 1) := by decide +kernel
theorem dL_cask_6 : decode cL_cask 6 = .ok (.iadd, 1) := by decide +kernel
theorem dL_cask_7 : decode cL_cask 7 = .ok (.invokestatic 72, 3) := by decide +kernel
theorem dL_cask_10 : decode cL_cask 10 = .ok (.bipush 15, 2) := by decide +kernel
theorem dL_cask_12 : decode cL_cask 12 = .ok (.iload_n 1, 1) := by decide +kernel
theorem dL_cask_13 : decode cL_cask 13 = .ok (.iconst 2, 1) := by decide +kernel
theorem dL_cask_14 : decode cL_cask 14 = .ok (.irem, 1) := by decide +kernel
theorem dL_cask_15 : decode cL_cask 15 = .ok (.imul, 1) := by decide +kernel
theorem dL_cask_16 : decode cL_cask 16 = .ok (.ishr, 1) := by decide +kernel
theorem dL_cask_17 : decode cL_cask 17 = .ok (.istore_n 3, 1) := by decide +kernel
theorem dL_cask_18 : decode cL_cask 18 = .ok (.iload_n 2, 1) := by decide +kernel
theorem dL_cask_19 : decode cL_cask 19 = .ok (.ifCond .ne 13, 3) := by decide +kernel
theorem dL_cask_22 : decode cL_cask 22 = .ok (.iload_n 3, 1) := by decide +kernel
theorem dL_cask_23 : decode cL_cask 23 = .ok (.bipush 7, 2) := by decide +kernel
theorem dL_cask_25 : decode cL_cask 25 = .ok (.iand, 1) := by decide +kernel
theorem dL_cask_26 : decode cL_cask 26 = .ok (.bipush 6, 2) := by decide +kernel
theorem dL_cask_28 : decode cL_cask 28 = .ok (.irem, 1) := by decide +kernel
theorem dL_cask_29 : decode cL_cask 29 = .ok (.goto 42, 3) := by decide +kernel
theorem dL_cask_32 : decode cL_cask 32 = .ok (.iload_n 2, 1) := by decide +kernel
theorem dL_cask_33 : decode cL_cask 33 = .ok (.iconst 1, 1) := by decide +kernel
theorem dL_cask_34 : decode cL_cask 34 = .ok (.if_icmp .ne 14, 3) := by decide +kernel
theorem dL_cask_37 : decode cL_cask 37 = .ok (.iconst 3, 1) := by decide +kernel
theorem dL_cask_38 : decode cL_cask 38 = .ok (.iload_n 3, 1) := by decide +kernel
theorem dL_cask_39 : decode cL_cask 39 = .ok (.iconst 3, 1) := by decide +kernel
theorem dL_cask_40 : decode cL_cask 40 = .ok (.ishr, 1) := by decide +kernel
theorem dL_cask_41 : decode cL_cask 41 = .ok (.bipush 31, 2) := by decide +kernel
theorem dL_cask_43 : decode cL_cask 43 = .ok (.iand, 1) := by decide +kernel
theorem dL_cask_44 : decode cL_cask 44 = .ok (.imul, 1) := by decide +kernel
theorem dL_cask_45 : decode cL_cask 45 = .ok (.goto 26, 3) := by decide +kernel
theorem dL_cask_48 : decode cL_cask 48 = .ok (.iload_n 2, 1) := by decide +kernel
theorem dL_cask_49 : decode cL_cask 49 = .ok (.iconst 2, 1) := by decide +kernel
theorem dL_cask_50 : decode cL_cask 50 = .ok (.if_icmp .ne 13, 3) := by decide +kernel
theorem dL_cask_53 : decode cL_cask 53 = .ok (.iload_n 3, 1) := by decide +kernel
theorem dL_cask_54 : decode cL_cask 54 = .ok (.bipush 8, 2) := by decide +kernel
theorem dL_cask_56 : decode cL_cask 56 = .ok (.ishr, 1) := by decide +kernel
theorem dL_cask_57 : decode cL_cask 57 = .ok (.bipush 31, 2) := by decide +kernel
theorem dL_cask_59 : decode cL_cask 59 = .ok (.iand, 1) := by decide +kernel
theorem dL_cask_60 : decode cL_cask 60 = .ok (.goto 11, 3) := by decide +kernel
theorem dL_cask_63 : decode cL_cask 63 = .ok (.iload_n 3, 1) := by decide +kernel
theorem dL_cask_64 : decode cL_cask 64 = .ok (.bipush 13, 2) := by decide +kernel
theorem dL_cask_66 : decode cL_cask 66 = .ok (.ishr, 1) := by decide +kernel
theorem dL_cask_67 : decode cL_cask 67 = .ok (.iconst 3, 1) := by decide +kernel
theorem dL_cask_68 : decode cL_cask 68 = .ok (.iand, 1) := by decide +kernel
theorem dL_cask_69 : decode cL_cask 69 = .ok (.iconst 3, 1) := by decide +kernel
theorem dL_cask_70 : decode cL_cask 70 = .ok (.irem, 1) := by decide +kernel
theorem dL_cask_71 : decode cL_cask 71 = .ok (.ireturn, 1) := by decide +kernel
theorem dL_kind_0 : decode cL_kind 0 = .ok (.aload_n 0, 1) := by decide +kernel
theorem dL_kind_1 : decode cL_kind 1 = .ok (.iconst 1, 1) := by decide +kernel
theorem dL_kind_2 : decode cL_kind 2 = .ok (.iload_n 1, 1) := by decide +kernel
theorem dL_kind_3 : decode cL_kind 3 = .ok (.iadd, 1) := by decide +kernel
theorem dL_kind_4 : decode cL_kind 4 = .ok (.invokestatic 72, 3) := by decide +kernel
theorem dL_kind_7 : decode cL_kind 7 = .ok (.bipush 7, 2) := by decide +kernel
theorem dL_kind_9 : decode cL_kind 9 = .ok (.iand, 1) := by decide +kernel
theorem dL_kind_10 : decode cL_kind 10 = .ok (.bipush 6, 2) := by decide +kernel
theorem dL_kind_12 : decode cL_kind 12 = .ok (.irem, 1) := by decide +kernel
theorem dL_kind_13 : decode cL_kind 13 = .ok (.ireturn, 1) := by decide +kernel
theorem dL_more_0 : decode cL_more 0 = .ok (.aload_n 0, 1) := by decide +kernel
theorem dL_more_1 : decode cL_more 1 = .ok (.iconst 1, 1) := by decide +kernel
theorem dL_more_2 : decode cL_more 2 = .ok (.iload_n 1, 1) := by decide +kernel
theorem dL_more_3 : decode cL_more 3 = .ok (.iadd, 1) := by decide +kernel
theorem dL_more_4 : decode cL_more 4 = .ok (.invokestatic 72, 3) := by decide +kernel
theorem dL_more_7 : decode cL_more 7 = .ok (.iconst 3, 1) := by decide +kernel
theorem dL_more_8 : decode cL_more 8 = .ok (.ishr, 1) := by decide +kernel
theorem dL_more_9 : decode cL_more 9 = .ok (.bipush 15, 2) := by decide +kernel
theorem dL_more_11 : decode cL_more 11 = .ok (.iand, 1) := by decide +kernel
theorem dL_more_12 : decode cL_more 12 = .ok (.bipush 10, 2) := by decide +kernel
theorem dL_more_14 : decode cL_more 14 = .ok (.irem, 1) := by decide +kernel
theorem dL_more_15 : decode cL_more 15 = .ok (.ireturn, 1) := by decide +kernel
theorem dL_breath_0 : decode cL_breath 0 = .ok (.aload_n 0, 1) := by decide +kernel
theorem dL_breath_1 : decode cL_breath 1 = .ok (.iconst 1, 1) := by decide +kernel
theorem dL_breath_2 : decode cL_breath 2 = .ok (.iload_n 1, 1) := by decide +kernel
theorem dL_breath_3 : decode cL_breath 3 = .ok (.iadd, 1) := by decide +kernel
theorem dL_breath_4 : decode cL_breath 4 = .ok (.invokestatic 72, 3) := by decide +kernel
theorem dL_breath_7 : decode cL_breath 7 = .ok (.bipush 7, 2) := by decide +kernel
theorem dL_breath_9 : decode cL_breath 9 = .ok (.ishr, 1) := by decide +kernel
theorem dL_breath_10 : decode cL_breath 10 = .ok (.bipush 127, 2) := by decide +kernel
theorem dL_breath_12 : decode cL_breath 12 = .ok (.iand, 1) := by decide +kernel
theorem dL_breath_13 : decode cL_breath 13 = .ok (.bipush 100, 2) := by decide +kernel
theorem dL_breath_15 : decode cL_breath 15 = .ok (.irem, 1) := by decide +kernel
theorem dL_breath_16 : decode cL_breath 16 = .ok (.ireturn, 1) := by decide +kernel
theorem dL_held_0 : decode cL_held 0 = .ok (.iload_n 2, 1) := by decide +kernel
theorem dL_held_1 : decode cL_held 1 = .ok (.i2l, 1) := by decide +kernel
theorem dL_held_2 : decode cL_held 2 = .ok (.iload_n 3, 1) := by decide +kernel
theorem dL_held_3 : decode cL_held 3 = .ok (.i2l, 1) := by decide +kernel
theorem dL_held_4 : decode cL_held 4 = .ok (.lload_n 0, 1) := by decide +kernel
theorem dL_held_5 : decode cL_held 5 = .ok (.invokestatic 106, 3) := by decide +kernel
theorem dL_held_8 : decode cL_held 8 = .ok (.invokestatic 112, 3) := by decide +kernel
theorem dL_held_11 : decode cL_held 11 = .ok (.l2i, 1) := by decide +kernel
theorem dL_held_12 : decode cL_held 12 = .ok (.ireturn, 1) := by decide +kernel
theorem dL_start_0 : decode cL_start 0 = .ok (.iconst 0, 1) := by decide +kernel
theorem dL_start_1 : decode cL_start 1 = .ok (.istore_n 2, 1) := by decide +kernel
theorem dL_start_2 : decode cL_start 2 = .ok (.iload_n 2, 1) := by decide +kernel
theorem dL_start_3 : decode cL_start 3 = .ok (.aload_n 0, 1) := by decide +kernel
theorem dL_start_4 : decode cL_start 4 = .ok (.invokestatic 44, 3) := by decide +kernel
theorem dL_start_7 : decode cL_start 7 = .ok (.if_icmp .ge 52, 3) := by decide +kernel
theorem dL_start_10 : decode cL_start 10 = .ok (.aload_n 1, 1) := by decide +kernel
theorem dL_start_11 : decode cL_start 11 = .ok (.iconst 2, 1) := by decide +kernel
theorem dL_start_12 : decode cL_start 12 = .ok (.iload_n 2, 1) := by decide +kernel
theorem dL_start_13 : decode cL_start 13 = .ok (.imul, 1) := by decide +kernel
theorem dL_start_14 : decode cL_start 14 = .ok (.aload_n 0, 1) := by decide +kernel
theorem dL_start_15 : decode cL_start 15 = .ok (.iload_n 2, 1) := by decide +kernel
theorem dL_start_16 : decode cL_start 16 = .ok (.invokestatic 53, 3) := by decide +kernel
theorem dL_start_19 : decode cL_start 19 = .ok (.i2l, 1) := by decide +kernel
theorem dL_start_20 : decode cL_start 20 = .ok (.lastore, 1) := by decide +kernel
theorem dL_start_21 : decode cL_start 21 = .ok (.aload_n 1, 1) := by decide +kernel
theorem dL_start_22 : decode cL_start 22 = .ok (.iconst 2, 1) := by decide +kernel
theorem dL_start_23 : decode cL_start 23 = .ok (.iload_n 2, 1) := by decide +kernel
theorem dL_start_24 : decode cL_start 24 = .ok (.imul, 1) := by decide +kernel
theorem dL_start_25 : decode cL_start 25 = .ok (.iconst 1, 1) := by decide +kernel
theorem dL_start_26 : decode cL_start 26 = .ok (.iadd, 1) := by decide +kernel
theorem dL_start_27 : decode cL_start 27 = .ok (.lconst 0, 1) := by decide +kernel
theorem dL_start_28 : decode cL_start 28 = .ok (.lastore, 1) := by decide +kernel
theorem dL_start_29 : decode cL_start 29 = .ok (.aload_n 1, 1) := by decide +kernel
theorem dL_start_30 : decode cL_start 30 = .ok (.bipush 8, 2) := by decide +kernel
theorem dL_start_32 : decode cL_start 32 = .ok (.iload_n 2, 1) := by decide +kernel
theorem dL_start_33 : decode cL_start 33 = .ok (.iadd, 1) := by decide +kernel
theorem dL_start_34 : decode cL_start 34 = .ok (.aload_n 0, 1) := by decide +kernel
theorem dL_start_35 : decode cL_start 35 = .ok (.iload_n 2, 1) := by decide +kernel
theorem dL_start_36 : decode cL_start 36 = .ok (.invokestatic 47, 3) := by decide +kernel
theorem dL_start_39 : decode cL_start 39 = .ok (.i2l, 1) := by decide +kernel
theorem dL_start_40 : decode cL_start 40 = .ok (.lastore, 1) := by decide +kernel
theorem dL_start_41 : decode cL_start 41 = .ok (.aload_n 1, 1) := by decide +kernel
theorem dL_start_42 : decode cL_start 42 = .ok (.bipush 12, 2) := by decide +kernel
theorem dL_start_44 : decode cL_start 44 = .ok (.iload_n 2, 1) := by decide +kernel
theorem dL_start_45 : decode cL_start 45 = .ok (.iadd, 1) := by decide +kernel
theorem dL_start_46 : decode cL_start 46 = .ok (.aload_n 0, 1) := by decide +kernel
theorem dL_start_47 : decode cL_start 47 = .ok (.iload_n 2, 1) := by decide +kernel
theorem dL_start_48 : decode cL_start 48 = .ok (.invokestatic 50, 3) := by decide +kernel
theorem dL_start_51 : decode cL_start 51 = .ok (.i2l, 1) := by decide +kernel
theorem dL_start_52 : decode cL_start 52 = .ok (.lastore, 1) := by decide +kernel
theorem dL_start_53 : decode cL_start 53 = .ok (.iinc 2 1, 3) := by decide +kernel
theorem dL_start_56 : decode cL_start 56 = .ok (.goto (-54), 3) := by decide +kernel
theorem dL_start_59 : decode cL_start 59 = .ok (.iconst 0, 1) := by decide +kernel
theorem dL_start_60 : decode cL_start 60 = .ok (.istore_n 2, 1) := by decide +kernel
theorem dL_start_61 : decode cL_start 61 = .ok (.iload_n 2, 1) := by decide +kernel
theorem dL_start_62 : decode cL_start 62 = .ok (.bipush 48, 2) := by decide +kernel
theorem dL_start_64 : decode cL_start 64 = .ok (.if_icmp .ge 26, 3) := by decide +kernel
theorem dL_start_67 : decode cL_start 67 = .ok (.aload_n 1, 1) := by decide +kernel
theorem dL_start_68 : decode cL_start 68 = .ok (.bipush 16, 2) := by decide +kernel
theorem dL_start_70 : decode cL_start 70 = .ok (.iload_n 2, 1) := by decide +kernel
theorem dL_start_71 : decode cL_start 71 = .ok (.iadd, 1) := by decide +kernel
theorem dL_start_72 : decode cL_start 72 = .ok (.aload_n 0, 1) := by decide +kernel
theorem dL_start_73 : decode cL_start 73 = .ok (.iload_n 2, 1) := by decide +kernel
theorem dL_start_74 : decode cL_start 74 = .ok (.iconst 4, 1) := by decide +kernel
theorem dL_start_75 : decode cL_start 75 = .ok (.idiv, 1) := by decide +kernel
theorem dL_start_76 : decode cL_start 76 = .ok (.iload_n 2, 1) := by decide +kernel
theorem dL_start_77 : decode cL_start 77 = .ok (.iconst 4, 1) := by decide +kernel
theorem dL_start_78 : decode cL_start 78 = .ok (.irem, 1) := by decide +kernel
theorem dL_start_79 : decode cL_start 79 = .ok (.invokestatic 37, 3) := by decide +kernel
theorem dL_start_82 : decode cL_start 82 = .ok (.i2l, 1) := by decide +kernel
theorem dL_start_83 : decode cL_start 83 = .ok (.lastore, 1) := by decide +kernel
theorem dL_start_84 : decode cL_start 84 = .ok (.iinc 2 1, 3) := by decide +kernel
theorem dL_start_87 : decode cL_start 87 = .ok (.goto (-26), 3) := by decide +kernel
theorem dL_start_90 : decode cL_start 90 = .ok (.iconst 0, 1) := by decide +kernel
theorem dL_start_91 : decode cL_start 91 = .ok (.istore_n 2, 1) := by decide +kernel
theorem dL_start_92 : decode cL_start 92 = .ok (.iload_n 2, 1) := by decide +kernel
theorem dL_start_93 : decode cL_start 93 = .ok (.bipush 6, 2) := by decide +kernel
theorem dL_start_95 : decode cL_start 95 = .ok (.if_icmp .ge 21, 3) := by decide +kernel
theorem dL_start_98 : decode cL_start 98 = .ok (.aload_n 1, 1) := by decide +kernel
theorem dL_start_99 : decode cL_start 99 = .ok (.bipush 64, 2) := by decide +kernel
theorem dL_start_101 : decode cL_start 101 = .ok (.iload_n 2, 1) := by decide +kernel
theorem dL_start_102 : decode cL_start 102 = .ok (.iadd, 1) := by decide +kernel
theorem dL_start_103 : decode cL_start 103 = .ok (.aload_n 0, 1) := by decide +kernel
theorem dL_start_104 : decode cL_start 104 = .ok (.iload_n 2, 1) := by decide +kernel
theorem dL_start_105 : decode cL_start 105 = .ok (.invokestatic 34, 3) := by decide +kernel
theorem dL_start_108 : decode cL_start 108 = .ok (.i2l, 1) := by decide +kernel
theorem dL_start_109 : decode cL_start 109 = .ok (.lastore, 1) := by decide +kernel
theorem dL_start_110 : decode cL_start 110 = .ok (.iinc 2 1, 3) := by decide +kernel
theorem dL_start_113 : decode cL_start 113 = .ok (.goto (-21), 3) := by decide +kernel
theorem dL_start_116 : decode cL_start 116 = .ok (.aload_n 1, 1) := by decide +kernel
theorem dL_start_117 : decode cL_start 117 = .ok (.bipush 70, 2) := by decide +kernel
theorem dL_start_119 : decode cL_start 119 = .ok (.aload_n 0, 1) := by decide +kernel
theorem dL_start_120 : decode cL_start 120 = .ok (.invokestatic 24, 3) := by decide +kernel
theorem dL_start_123 : decode cL_start 123 = .ok (.i2l, 1) := by decide +kernel
theorem dL_start_124 : decode cL_start 124 = .ok (.lastore, 1) := by decide +kernel
theorem dL_start_125 : decode cL_start 125 = .ok (.return_, 1) := by decide +kernel
theorem dL_reaches_0 : decode cL_reaches 0 = .ok (.aload_n 1, 1) := by decide +kernel
theorem dL_reaches_1 : decode cL_reaches 1 = .ok (.bipush 8, 2) := by decide +kernel
theorem dL_reaches_3 : decode cL_reaches 3 = .ok (.iload_n 2, 1) := by decide +kernel
theorem dL_reaches_4 : decode cL_reaches 4 = .ok (.iadd, 1) := by decide +kernel
theorem dL_reaches_5 : decode cL_reaches 5 = .ok (.laload, 1) := by decide +kernel
theorem dL_reaches_6 : decode cL_reaches 6 = .ok (.lstore 4, 2) := by decide +kernel
theorem dL_reaches_8 : decode cL_reaches 8 = .ok (.aload_n 0, 1) := by decide +kernel
theorem dL_reaches_9 : decode cL_reaches 9 = .ok (.invokestatic 59, 3) := by decide +kernel
theorem dL_reaches_12 : decode cL_reaches 12 = .ok (.ifCond .eq 11, 3) := by decide +kernel
theorem dL_reaches_15 : decode cL_reaches 15 = .ok (.aload_n 1, 1) := by decide +kernel
theorem dL_reaches_16 : decode cL_reaches 16 = .ok (.iconst 2, 1) := by decide +kernel
theorem dL_reaches_17 : decode cL_reaches 17 = .ok (.iload_n 2, 1) := by decide +kernel
theorem dL_reaches_18 : decode cL_reaches 18 = .ok (.imul, 1) := by decide +kernel
theorem dL_reaches_19 : decode cL_reaches 19 = .ok (.laload, 1) := by decide +kernel
theorem dL_reaches_20 : decode cL_reaches 20 = .ok (.goto 68, 3) := by decide +kernel
theorem dL_reaches_23 : decode cL_reaches 23 = .ok (.aload_n 1, 1) := by decide +kernel
theorem dL_reaches_24 : decode cL_reaches 24 = .ok (.iconst 2, 1) := by decide +kernel
theorem dL_reaches_25 : decode cL_reaches 25 = .ok (.iload_n 2, 1) := by decide +kernel
theorem dL_reaches_26 : decode cL_reaches 26 = .ok (.imul, 1) := by decide +kernel
theorem dL_reaches_27 : decode cL_reaches 27 = .ok (.laload, 1) := by decide +kernel
theorem dL_reaches_28 : decode cL_reaches 28 = .ok (.aload_n 0, 1) := by decide +kernel
theorem dL_reaches_29 : decode cL_reaches 29 = .ok (.iconst 0, 1) := by decide +kernel
theorem dL_reaches_30 : decode cL_reaches 30 = .ok (.invokestatic 72, 3) := by decide +kernel
theorem dL_reaches_33 : decode cL_reaches 33 = .ok (.iconst 3, 1) := by decide +kernel
theorem dL_reaches_34 : decode cL_reaches 34 = .ok (.ishr, 1) := by decide +kernel
theorem dL_reaches_35 : decode cL_reaches 35 = .ok (.bipush 31, 2) := by decide +kernel
theorem dL_reaches_37 : decode cL_reaches 37 = .ok (.iand, 1) := by decide +kernel
theorem dL_reaches_38 : decode cL_reaches 38 = .ok (.i2l, 1) := by decide +kernel
theorem dL_reaches_39 : decode cL_reaches 39 = .ok (.lsub, 1) := by decide +kernel
theorem dL_reaches_40 : decode cL_reaches 40 = .ok (.aload_n 1, 1) := by decide +kernel
theorem dL_reaches_41 : decode cL_reaches 41 = .ok (.bipush 16, 2) := by decide +kernel
theorem dL_reaches_43 : decode cL_reaches 43 = .ok (.iconst 4, 1) := by decide +kernel
theorem dL_reaches_44 : decode cL_reaches 44 = .ok (.iload_n 3, 1) := by decide +kernel
theorem dL_reaches_45 : decode cL_reaches 45 = .ok (.imul, 1) := by decide +kernel
theorem dL_reaches_46 : decode cL_reaches 46 = .ok (.iadd, 1) := by decide +kernel
theorem dL_reaches_47 : decode cL_reaches 47 = .ok (.laload, 1) := by decide +kernel
theorem dL_reaches_48 : decode cL_reaches 48 = .ok (.aload_n 0, 1) := by decide +kernel
theorem dL_reaches_49 : decode cL_reaches 49 = .ok (.iconst 0, 1) := by decide +kernel
theorem dL_reaches_50 : decode cL_reaches 50 = .ok (.invokestatic 72, 3) := by decide +kernel
theorem dL_reaches_53 : decode cL_reaches 53 = .ok (.bipush 8, 2) := by decide +kernel
theorem dL_reaches_55 : decode cL_reaches 55 = .ok (.ishr, 1) := by decide +kernel
theorem dL_reaches_56 : decode cL_reaches 56 = .ok (.bipush 7, 2) := by decide +kernel
theorem dL_reaches_58 : decode cL_reaches 58 = .ok (.iand, 1) := by decide +kernel
theorem dL_reaches_59 : decode cL_reaches 59 = .ok (.i2l, 1) := by decide +kernel
theorem dL_reaches_60 : decode cL_reaches 60 = .ok (.lcmp, 1) := by decide +kernel
theorem dL_reaches_61 : decode cL_reaches 61 = .ok (.ifCond .ge 17, 3) := by decide +kernel
theorem dL_reaches_64 : decode cL_reaches 64 = .ok (.aload_n 0, 1) := by decide +kernel
theorem dL_reaches_65 : decode cL_reaches 65 = .ok (.iconst 0, 1) := by decide +kernel
theorem dL_reaches_66 : decode cL_reaches 66 = .ok (.invokestatic 72, 3) := by decide +kernel
theorem dL_reaches_69 : decode cL_reaches 69 = .ok (.bipush 11, 2) := by decide +kernel
theorem dL_reaches_71 : decode cL_reaches 71 = .ok (.ishr, 1) := by decide +kernel
theorem dL_reaches_72 : decode cL_reaches 72 = .ok (.bipush 15, 2) := by decide +kernel
theorem dL_reaches_74 : decode cL_reaches 74 = .ok (.iand, 1) := by decide +kernel
theorem dL_reaches_75 : decode cL_reaches 75 = .ok (.goto 4, 3) := by decide +kernel
theorem dL_reaches_78 : decode cL_reaches 78 = .ok (.iconst 0, 1) := by decide +kernel
theorem dL_reaches_79 : decode cL_reaches 79 = .ok (.i2l, 1) := by decide +kernel
theorem dL_reaches_80 : decode cL_reaches 80 = .ok (.ladd, 1) := by decide +kernel
theorem dL_reaches_81 : decode cL_reaches 81 = .ok (.iconst 0, 1) := by decide +kernel
theorem dL_reaches_82 : decode cL_reaches 82 = .ok (.bipush 99, 2) := by decide +kernel
theorem dL_reaches_84 : decode cL_reaches 84 = .ok (.invokestatic 115, 3) := by decide +kernel
theorem dL_reaches_87 : decode cL_reaches 87 = .ok (.i2l, 1) := by decide +kernel
theorem dL_reaches_88 : decode cL_reaches 88 = .ok (.lstore 6, 2) := by decide +kernel
theorem dL_reaches_90 : decode cL_reaches 90 = .ok (.lload 4, 2) := by decide +kernel
theorem dL_reaches_92 : decode cL_reaches 92 = .ok (.lconst 1, 1) := by decide +kernel
theorem dL_reaches_93 : decode cL_reaches 93 = .ok (.lcmp, 1) := by decide +kernel
theorem dL_reaches_94 : decode cL_reaches 94 = .ok (.ifCond .ne 19, 3) := by decide +kernel
theorem dL_reaches_97 : decode cL_reaches 97 = .ok (.lload 6, 2) := by decide +kernel
theorem dL_reaches_99 : decode cL_reaches 99 = .ok (.ldc2_w 119, 3) := by decide +kernel
theorem dL_reaches_102 : decode cL_reaches 102 = .ok (.ldiv, 1) := by decide +kernel
theorem dL_reaches_103 : decode cL_reaches 103 = .ok (.aload_n 1, 1) := by decide +kernel
theorem dL_reaches_104 : decode cL_reaches 104 = .ok (.bipush 12, 2) := by decide +kernel
theorem dL_reaches_106 : decode cL_reaches 106 = .ok (.iload_n 2, 1) := by decide +kernel
theorem dL_reaches_107 : decode cL_reaches 107 = .ok (.iadd, 1) := by decide +kernel
theorem dL_reaches_108 : decode cL_reaches 108 = .ok (.laload, 1) := by decide +kernel
theorem dL_reaches_109 : decode cL_reaches 109 = .ok (.ladd, 1) := by decide +kernel
theorem dL_reaches_110 : decode cL_reaches 110 = .ok (.goto 85, 3) := by decide +kernel
theorem dL_reaches_113 : decode cL_reaches 113 = .ok (.lload 4, 2) := by decide +kernel
theorem dL_reaches_115 : decode cL_reaches 115 = .ok (.ldc2_w 121, 3) := by decide +kernel
theorem dL_reaches_118 : decode cL_reaches 118 = .ok (.lcmp, 1) := by decide +kernel
theorem dL_reaches_119 : decode cL_reaches 119 = .ok (.ifCond .ne 23, 3) := by decide +kernel
theorem dL_reaches_122 : decode cL_reaches 122 = .ok (.lload 6, 2) := by decide +kernel
theorem dL_reaches_124 : decode cL_reaches 124 = .ok (.ldc2_w 119, 3) := by decide +kernel
theorem dL_reaches_127 : decode cL_reaches 127 = .ok (.ldiv, 1) := by decide +kernel
theorem dL_reaches_128 : decode cL_reaches 128 = .ok (.ldc2_w 119, 3) := by decide +kernel
theorem dL_reaches_131 : decode cL_reaches 131 = .ok (.aload_n 1, 1) := by decide +kernel
theorem dL_reaches_132 : decode cL_reaches 132 = .ok (.bipush 12, 2) := by decide +kernel
theorem dL_reaches_134 : decode cL_reaches 134 = .ok (.iload_n 2, 1) := by decide +kernel
theorem dL_reaches_135 : decode cL_reaches 135 = .ok (.iadd, 1) := by decide +kernel
theorem dL_reaches_136 : decode cL_reaches 136 = .ok (.laload, 1) := by decide +kernel
theorem dL_reaches_137 : decode cL_reaches 137 = .ok (.lmul, 1) := by decide +kernel
theorem dL_reaches_138 : decode cL_reaches 138 = .ok (.ladd, 1) := by decide +kernel
theorem dL_reaches_139 : decode cL_reaches 139 = .ok (.goto 56, 3) := by decide +kernel
theorem dL_reaches_142 : decode cL_reaches 142 = .ok (.lload 4, 2) := by decide +kernel
theorem dL_reaches_144 : decode cL_reaches 144 = .ok (.ldc2_w 119, 3) := by decide +kernel
theorem dL_reaches_147 : decode cL_reaches 147 = .ok (.lcmp, 1) := by decide +kernel
theorem dL_reaches_148 : decode cL_reaches 148 = .ok (.ifCond .ne 12, 3) := by decide +kernel
theorem dL_reaches_151 : decode cL_reaches 151 = .ok (.lload 6, 2) := by decide +kernel
theorem dL_reaches_153 : decode cL_reaches 153 = .ok (.ldc2_w 123, 3) := by decide +kernel
theorem dL_reaches_156 : decode cL_reaches 156 = .ok (.ladd, 1) := by decide +kernel
theorem dL_reaches_157 : decode cL_reaches 157 = .ok (.goto 38, 3) := by decide +kernel
theorem dL_reaches_160 : decode cL_reaches 160 = .ok (.lload 4, 2) := by decide +kernel
theorem dL_reaches_162 : decode cL_reaches 162 = .ok (.ldc2_w 125, 3) := by decide +kernel
theorem dL_reaches_165 : decode cL_reaches 165 = .ok (.lcmp, 1) := by decide +kernel
theorem dL_reaches_166 : decode cL_reaches 166 = .ok (.ifCond .ne 12, 3) := by decide +kernel
theorem dL_reaches_169 : decode cL_reaches 169 = .ok (.aload_n 1, 1) := by decide +kernel
theorem dL_reaches_170 : decode cL_reaches 170 = .ok (.bipush 12, 2) := by decide +kernel
theorem dL_reaches_172 : decode cL_reaches 172 = .ok (.iload_n 2, 1) := by decide +kernel
theorem dL_reaches_173 : decode cL_reaches 173 = .ok (.iadd, 1) := by decide +kernel
theorem dL_reaches_174 : decode cL_reaches 174 = .ok (.laload, 1) := by decide +kernel
theorem dL_reaches_175 : decode cL_reaches 175 = .ok (.goto 20, 3) := by decide +kernel
theorem dL_reaches_178 : decode cL_reaches 178 = .ok (.lload 4, 2) := by decide +kernel
theorem dL_reaches_180 : decode cL_reaches 180 = .ok (.ldc2_w 127, 3) := by decide +kernel
theorem dL_reaches_183 : decode cL_reaches 183 = .ok (.lcmp, 1) := by decide +kernel
theorem dL_reaches_184 : decode cL_reaches 184 = .ok (.ifCond .ne 9, 3) := by decide +kernel
theorem dL_reaches_187 : decode cL_reaches 187 = .ok (.ldc2_w 129, 3) := by decide +kernel
theorem dL_reaches_190 : decode cL_reaches 190 = .ok (.goto 5, 3) := by decide +kernel
theorem dL_reaches_193 : decode cL_reaches 193 = .ok (.lload 6, 2) := by decide +kernel
theorem dL_reaches_195 : decode cL_reaches 195 = .ok (.lreturn, 1) := by decide +kernel
theorem dL_costs_0 : decode cL_costs 0 = .ok (.aload_n 1, 1) := by decide +kernel
theorem dL_costs_1 : decode cL_costs 1 = .ok (.bipush 8, 2) := by decide +kernel
theorem dL_costs_3 : decode cL_costs 3 = .ok (.iload_n 2, 1) := by decide +kernel
theorem dL_costs_4 : decode cL_costs 4 = .ok (.iadd, 1) := by decide +kernel
theorem dL_costs_5 : decode cL_costs 5 = .ok (.laload, 1) := by decide +kernel
theorem dL_costs_6 : decode cL_costs 6 = .ok (.lstore 4, 2) := by decide +kernel
theorem dL_costs_8 : decode cL_costs 8 = .ok (.aload_n 0, 1) := by decide +kernel
theorem dL_costs_9 : decode cL_costs 9 = .ok (.invokestatic 59, 3) := by decide +kernel
theorem dL_costs_12 : decode cL_costs 12 = .ok (.ifCond .eq 18, 3) := by decide +kernel
theorem dL_costs_15 : decode cL_costs 15 = .ok (.ldc2_w 119, 3) := by decide +kernel
theorem dL_costs_18 : decode cL_costs 18 = .ok (.aload_n 1, 1) := by decide +kernel
theorem dL_costs_19 : decode cL_costs 19 = .ok (.bipush 18, 2) := by decide +kernel
theorem dL_costs_21 : decode cL_costs 21 = .ok (.iconst 4, 1) := by decide +kernel
theorem dL_costs_22 : decode cL_costs 22 = .ok (.iload_n 3, 1) := by decide +kernel
theorem dL_costs_23 : decode cL_costs 23 = .ok (.imul, 1) := by decide +kernel
theorem dL_costs_24 : decode cL_costs 24 = .ok (.iadd, 1) := by decide +kernel
theorem dL_costs_25 : decode cL_costs 25 = .ok (.laload, 1) := by decide +kernel
theorem dL_costs_26 : decode cL_costs 26 = .ok (.lmul, 1) := by decide +kernel
theorem dL_costs_27 : decode cL_costs 27 = .ok (.goto 56, 3) := by decide +kernel
theorem dL_costs_30 : decode cL_costs 30 = .ok (.aload_n 1, 1) := by decide +kernel
theorem dL_costs_31 : decode cL_costs 31 = .ok (.bipush 18, 2) := by decide +kernel
theorem dL_costs_33 : decode cL_costs 33 = .ok (.iconst 4, 1) := by decide +kernel
theorem dL_costs_34 : decode cL_costs 34 = .ok (.iload_n 3, 1) := by decide +kernel
theorem dL_costs_35 : decode cL_costs 35 = .ok (.imul, 1) := by decide +kernel
theorem dL_costs_36 : decode cL_costs 36 = .ok (.iadd, 1) := by decide +kernel
theorem dL_costs_37 : decode cL_costs 37 = .ok (.laload, 1) := by decide +kernel
theorem dL_costs_38 : decode cL_costs 38 = .ok (.aload_n 0, 1) := by decide +kernel
theorem dL_costs_39 : decode cL_costs 39 = .ok (.iconst 0, 1) := by decide +kernel
theorem dL_costs_40 : decode cL_costs 40 = .ok (.invokestatic 72, 3) := by decide +kernel
theorem dL_costs_43 : decode cL_costs 43 = .ok (.bipush 15, 2) := by decide +kernel
theorem dL_costs_45 : decode cL_costs 45 = .ok (.ishr, 1) := by decide +kernel
theorem dL_costs_46 : decode cL_costs 46 = .ok (.bipush 7, 2) := by decide +kernel
theorem dL_costs_48 : decode cL_costs 48 = .ok (.iand, 1) := by decide +kernel
theorem dL_costs_49 : decode cL_costs 49 = .ok (.i2l, 1) := by decide +kernel
theorem dL_costs_50 : decode cL_costs 50 = .ok (.ladd, 1) := by decide +kernel
theorem dL_costs_51 : decode cL_costs 51 = .ok (.aload_n 1, 1) := by decide +kernel
theorem dL_costs_52 : decode cL_costs 52 = .ok (.bipush 17, 2) := by decide +kernel
theorem dL_costs_54 : decode cL_costs 54 = .ok (.iconst 4, 1) := by decide +kernel
theorem dL_costs_55 : decode cL_costs 55 = .ok (.iload_n 3, 1) := by decide +kernel
theorem dL_costs_56 : decode cL_costs 56 = .ok (.imul, 1) := by decide +kernel
theorem dL_costs_57 : decode cL_costs 57 = .ok (.iadd, 1) := by decide +kernel
theorem dL_costs_58 : decode cL_costs 58 = .ok (.laload, 1) := by decide +kernel
theorem dL_costs_59 : decode cL_costs 59 = .ok (.aload_n 0, 1) := by decide +kernel
theorem dL_costs_60 : decode cL_costs 60 = .ok (.iconst 0, 1) := by decide +kernel
theorem dL_costs_61 : decode cL_costs 61 = .ok (.invokestatic 72, 3) := by decide +kernel
theorem dL_costs_64 : decode cL_costs 64 = .ok (.bipush 18, 2) := by decide +kernel
theorem dL_costs_66 : decode cL_costs 66 = .ok (.ishr, 1) := by decide +kernel
theorem dL_costs_67 : decode cL_costs 67 = .ok (.bipush 63, 2) := by decide +kernel
theorem dL_costs_69 : decode cL_costs 69 = .ok (.iand, 1) := by decide +kernel
theorem dL_costs_70 : decode cL_costs 70 = .ok (.i2l, 1) := by decide +kernel
theorem dL_costs_71 : decode cL_costs 71 = .ok (.lcmp, 1) := by decide +kernel
theorem dL_costs_72 : decode cL_costs 72 = .ok (.ifCond .ge 9, 3) := by decide +kernel
theorem dL_costs_75 : decode cL_costs 75 = .ok (.ldc2_w 125, 3) := by decide +kernel
theorem dL_costs_78 : decode cL_costs 78 = .ok (.goto 4, 3) := by decide +kernel
theorem dL_costs_81 : decode cL_costs 81 = .ok (.lconst 0, 1) := by decide +kernel
theorem dL_costs_82 : decode cL_costs 82 = .ok (.lsub, 1) := by decide +kernel
theorem dL_costs_83 : decode cL_costs 83 = .ok (.iconst 0, 1) := by decide +kernel
theorem dL_costs_84 : decode cL_costs 84 = .ok (.bipush 99, 2) := by decide +kernel
theorem dL_costs_86 : decode cL_costs 86 = .ok (.invokestatic 115, 3) := by decide +kernel
theorem dL_costs_89 : decode cL_costs 89 = .ok (.i2l, 1) := by decide +kernel
theorem dL_costs_90 : decode cL_costs 90 = .ok (.lstore 6, 2) := by decide +kernel
theorem dL_costs_92 : decode cL_costs 92 = .ok (.lload 4, 2) := by decide +kernel
theorem dL_costs_94 : decode cL_costs 94 = .ok (.ldc2_w 119, 3) := by decide +kernel
theorem dL_costs_97 : decode cL_costs 97 = .ok (.lcmp, 1) := by decide +kernel
theorem dL_costs_98 : decode cL_costs 98 = .ok (.ifCond .eq 12, 3) := by decide +kernel
theorem dL_costs_101 : decode cL_costs 101 = .ok (.lload 4, 2) := by decide +kernel
theorem dL_costs_103 : decode cL_costs 103 = .ok (.ldc2_w 125, 3) := by decide +kernel
theorem dL_costs_106 : decode cL_costs 106 = .ok (.lcmp, 1) := by decide +kernel
theorem dL_costs_107 : decode cL_costs 107 = .ok (.ifCond .ne 37, 3) := by decide +kernel
theorem dL_costs_110 : decode cL_costs 110 = .ok (.aload_n 1, 1) := by decide +kernel
theorem dL_costs_111 : decode cL_costs 111 = .ok (.bipush 16, 2) := by decide +kernel
theorem dL_costs_113 : decode cL_costs 113 = .ok (.iconst 4, 1) := by decide +kernel
theorem dL_costs_114 : decode cL_costs 114 = .ok (.iload_n 3, 1) := by decide +kernel
theorem dL_costs_115 : decode cL_costs 115 = .ok (.imul, 1) := by decide +kernel
theorem dL_costs_116 : decode cL_costs 116 = .ok (.iadd, 1) := by decide +kernel
theorem dL_costs_117 : decode cL_costs 117 = .ok (.laload, 1) := by decide +kernel
theorem dL_costs_118 : decode cL_costs 118 = .ok (.lconst 0, 1) := by decide +kernel
theorem dL_costs_119 : decode cL_costs 119 = .ok (.lcmp, 1) := by decide +kernel
theorem dL_costs_120 : decode cL_costs 120 = .ok (.ifCond .ne 12, 3) := by decide +kernel
theorem dL_costs_123 : decode cL_costs 123 = .ok (.lload 6, 2) := by decide +kernel
theorem dL_costs_125 : decode cL_costs 125 = .ok (.ldc2_w 119, 3) := by decide +kernel
theorem dL_costs_128 : decode cL_costs 128 = .ok (.ldiv, 1) := by decide +kernel
theorem dL_costs_129 : decode cL_costs 129 = .ok (.goto 43, 3) := by decide +kernel
theorem dL_costs_132 : decode cL_costs 132 = .ok (.lload 6, 2) := by decide +kernel
theorem dL_costs_134 : decode cL_costs 134 = .ok (.aload_n 1, 1) := by decide +kernel
theorem dL_costs_135 : decode cL_costs 135 = .ok (.bipush 12, 2) := by decide +kernel
theorem dL_costs_137 : decode cL_costs 137 = .ok (.iload_n 2, 1) := by decide +kernel
theorem dL_costs_138 : decode cL_costs 138 = .ok (.iadd, 1) := by decide +kernel
theorem dL_costs_139 : decode cL_costs 139 = .ok (.laload, 1) := by decide +kernel
theorem dL_costs_140 : decode cL_costs 140 = .ok (.ladd, 1) := by decide +kernel
theorem dL_costs_141 : decode cL_costs 141 = .ok (.goto 31, 3) := by decide +kernel
theorem dL_costs_144 : decode cL_costs 144 = .ok (.lload 4, 2) := by decide +kernel
theorem dL_costs_146 : decode cL_costs 146 = .ok (.ldc2_w 121, 3) := by decide +kernel
theorem dL_costs_149 : decode cL_costs 149 = .ok (.lcmp, 1) := by decide +kernel
theorem dL_costs_150 : decode cL_costs 150 = .ok (.ifCond .ne 20, 3) := by decide +kernel
theorem dL_costs_153 : decode cL_costs 153 = .ok (.aload_n 1, 1) := by decide +kernel
theorem dL_costs_154 : decode cL_costs 154 = .ok (.bipush 70, 2) := by decide +kernel
theorem dL_costs_156 : decode cL_costs 156 = .ok (.laload, 1) := by decide +kernel
theorem dL_costs_157 : decode cL_costs 157 = .ok (.ldc2_w 125, 3) := by decide +kernel
theorem dL_costs_160 : decode cL_costs 160 = .ok (.lrem, 1) := by decide +kernel
theorem dL_costs_161 : decode cL_costs 161 = .ok (.lconst 0, 1) := by decide +kernel
theorem dL_costs_162 : decode cL_costs 162 = .ok (.lcmp, 1) := by decide +kernel
theorem dL_costs_163 : decode cL_costs 163 = .ok (.ifCond .ne 7, 3) := by decide +kernel
theorem dL_costs_166 : decode cL_costs 166 = .ok (.lconst 0, 1) := by decide +kernel
theorem dL_costs_167 : decode cL_costs 167 = .ok (.goto 5, 3) := by decide +kernel
theorem dL_costs_170 : decode cL_costs 170 = .ok (.lload 6, 2) := by decide +kernel
theorem dL_costs_172 : decode cL_costs 172 = .ok (.lreturn, 1) := by decide +kernel
theorem dL_breathes_0 : decode cL_breathes 0 = .ok (.aload_n 0, 1) := by decide +kernel
theorem dL_breathes_1 : decode cL_breathes 1 = .ok (.bipush 8, 2) := by decide +kernel
theorem dL_breathes_3 : decode cL_breathes 3 = .ok (.iload_n 1, 1) := by decide +kernel
theorem dL_breathes_4 : decode cL_breathes 4 = .ok (.iadd, 1) := by decide +kernel
theorem dL_breathes_5 : decode cL_breathes 5 = .ok (.laload, 1) := by decide +kernel
theorem dL_breathes_6 : decode cL_breathes 6 = .ok (.lstore_n 2, 1) := by decide +kernel
theorem dL_breathes_7 : decode cL_breathes 7 = .ok (.lload_n 2, 1) := by decide +kernel
theorem dL_breathes_8 : decode cL_breathes 8 = .ok (.lconst 1, 1) := by decide +kernel
theorem dL_breathes_9 : decode cL_breathes 9 = .ok (.lcmp, 1) := by decide +kernel
theorem dL_breathes_10 : decode cL_breathes 10 = .ok (.ifCond .eq 11, 3) := by decide +kernel
theorem dL_breathes_13 : decode cL_breathes 13 = .ok (.lload_n 2, 1) := by decide +kernel
theorem dL_breathes_14 : decode cL_breathes 14 = .ok (.ldc2_w 121, 3) := by decide +kernel
theorem dL_breathes_17 : decode cL_breathes 17 = .ok (.lcmp, 1) := by decide +kernel
theorem dL_breathes_18 : decode cL_breathes 18 = .ok (.ifCond .ne 9, 3) := by decide +kernel
theorem dL_breathes_21 : decode cL_breathes 21 = .ok (.ldc2_w 123, 3) := by decide +kernel
theorem dL_breathes_24 : decode cL_breathes 24 = .ok (.goto 39, 3) := by decide +kernel
theorem dL_breathes_27 : decode cL_breathes 27 = .ok (.lload_n 2, 1) := by decide +kernel
theorem dL_breathes_28 : decode cL_breathes 28 = .ok (.ldc2_w 125, 3) := by decide +kernel
theorem dL_breathes_31 : decode cL_breathes 31 = .ok (.lcmp, 1) := by decide +kernel
theorem dL_breathes_32 : decode cL_breathes 32 = .ok (.ifCond .ne 16, 3) := by decide +kernel
theorem dL_breathes_35 : decode cL_breathes 35 = .ok (.ldc2_w 127, 3) := by decide +kernel
theorem dL_breathes_38 : decode cL_breathes 38 = .ok (.aload_n 0, 1) := by decide +kernel
theorem dL_breathes_39 : decode cL_breathes 39 = .ok (.bipush 12, 2) := by decide +kernel
theorem dL_breathes_41 : decode cL_breathes 41 = .ok (.iload_n 1, 1) := by decide +kernel
theorem dL_breathes_42 : decode cL_breathes 42 = .ok (.iadd, 1) := by decide +kernel
theorem dL_breathes_43 : decode cL_breathes 43 = .ok (.laload, 1) := by decide +kernel
theorem dL_breathes_44 : decode cL_breathes 44 = .ok (.ladd, 1) := by decide +kernel
theorem dL_breathes_45 : decode cL_breathes 45 = .ok (.goto 18, 3) := by decide +kernel
theorem dL_breathes_48 : decode cL_breathes 48 = .ok (.lload_n 2, 1) := by decide +kernel
theorem dL_breathes_49 : decode cL_breathes 49 = .ok (.ldc2_w 127, 3) := by decide +kernel
theorem dL_breathes_52 : decode cL_breathes 52 = .ok (.lcmp, 1) := by decide +kernel
theorem dL_breathes_53 : decode cL_breathes 53 = .ok (.ifCond .ne 7, 3) := by decide +kernel
theorem dL_breathes_56 : decode cL_breathes 56 = .ok (.lconst 0, 1) := by decide +kernel
theorem dL_breathes_57 : decode cL_breathes 57 = .ok (.goto 6, 3) := by decide +kernel
theorem dL_breathes_60 : decode cL_breathes 60 = .ok (.ldc2_w 127, 3) := by decide +kernel
theorem dL_breathes_63 : decode cL_breathes 63 = .ok (.lreturn, 1) := by decide +kernel
theorem dL_can_0 : decode cL_can 0 = .ok (.aload_n 1, 1) := by decide +kernel
theorem dL_can_1 : decode cL_can 1 = .ok (.bipush 19, 2) := by decide +kernel
theorem dL_can_3 : decode cL_can 3 = .ok (.iconst 4, 1) := by decide +kernel
theorem dL_can_4 : decode cL_can 4 = .ok (.iload_n 3, 1) := by decide +kernel
theorem dL_can_5 : decode cL_can 5 = .ok (.imul, 1) := by decide +kernel
theorem dL_can_6 : decode cL_can 6 = .ok (.iadd, 1) := by decide +kernel
theorem dL_can_7 : decode cL_can 7 = .ok (.laload, 1) := by decide +kernel
theorem dL_can_8 : decode cL_can 8 = .ok (.lconst 0, 1) := by decide +kernel
theorem dL_can_9 : decode cL_can 9 = .ok (.lcmp, 1) := by decide +kernel
theorem dL_can_10 : decode cL_can 10 = .ok (.ifCond .ne 42, 3) := by decide +kernel
theorem dL_can_13 : decode cL_can 13 = .ok (.aload_n 0, 1) := by decide +kernel
theorem dL_can_14 : decode cL_can 14 = .ok (.aload_n 1, 1) := by decide +kernel
theorem dL_can_15 : decode cL_can 15 = .ok (.iload_n 2, 1) := by decide +kernel
theorem dL_can_16 : decode cL_can 16 = .ok (.iload_n 3, 1) := by decide +kernel
theorem dL_can_17 : decode cL_can 17 = .ok (.invokestatic 131, 3) := by decide +kernel
theorem dL_can_20 : decode cL_can 20 = .ok (.aload_n 1, 1) := by decide +kernel
theorem dL_can_21 : decode cL_can 21 = .ok (.bipush 18, 2) := by decide +kernel
theorem dL_can_23 : decode cL_can 23 = .ok (.iconst 4, 1) := by decide +kernel
theorem dL_can_24 : decode cL_can 24 = .ok (.iload_n 3, 1) := by decide +kernel
theorem dL_can_25 : decode cL_can 25 = .ok (.imul, 1) := by decide +kernel
theorem dL_can_26 : decode cL_can 26 = .ok (.iadd, 1) := by decide +kernel
theorem dL_can_27 : decode cL_can 27 = .ok (.laload, 1) := by decide +kernel
theorem dL_can_28 : decode cL_can 28 = .ok (.lcmp, 1) := by decide +kernel
theorem dL_can_29 : decode cL_can 29 = .ok (.ifCond .lt 23, 3) := by decide +kernel
theorem dL_can_32 : decode cL_can 32 = .ok (.aload_n 0, 1) := by decide +kernel
theorem dL_can_33 : decode cL_can 33 = .ok (.aload_n 1, 1) := by decide +kernel
theorem dL_can_34 : decode cL_can 34 = .ok (.iload_n 2, 1) := by decide +kernel
theorem dL_can_35 : decode cL_can 35 = .ok (.iload_n 3, 1) := by decide +kernel
theorem dL_can_36 : decode cL_can 36 = .ok (.invokestatic 135, 3) := by decide +kernel
theorem dL_can_39 : decode cL_can 39 = .ok (.aload_n 1, 1) := by decide +kernel
theorem dL_can_40 : decode cL_can 40 = .ok (.iconst 2, 1) := by decide +kernel
theorem dL_can_41 : decode cL_can 41 = .ok (.iload_n 2, 1) := by decide +kernel
theorem dL_can_42 : decode cL_can 42 = .ok (.imul, 1) := by decide +kernel
theorem dL_can_43 : decode cL_can 43 = .ok (.laload, 1) := by decide +kernel
theorem dL_can_44 : decode cL_can 44 = .ok (.lcmp, 1) := by decide +kernel
theorem dL_can_45 : decode cL_can 45 = .ok (.ifCond .gt 7, 3) := by decide +kernel
theorem dL_can_48 : decode cL_can 48 = .ok (.iconst 1, 1) := by decide +kernel
theorem dL_can_49 : decode cL_can 49 = .ok (.goto 4, 3) := by decide +kernel
theorem dL_can_52 : decode cL_can 52 = .ok (.iconst 0, 1) := by decide +kernel
theorem dL_can_53 : decode cL_can 53 = .ok (.ireturn, 1) := by decide +kernel
theorem dL_cans_0 : decode cL_cans 0 = .ok (.iconst 0, 1) := by decide +kernel
theorem dL_cans_1 : decode cL_cans 1 = .ok (.istore_n 3, 1) := by decide +kernel
theorem dL_cans_2 : decode cL_cans 2 = .ok (.iconst 0, 1) := by decide +kernel
theorem dL_cans_3 : decode cL_cans 3 = .ok (.istore 4, 2) := by decide +kernel
theorem dL_cans_5 : decode cL_cans 5 = .ok (.iload 4, 2) := by decide +kernel
theorem dL_cans_7 : decode cL_cans 7 = .ok (.bipush 12, 2) := by decide +kernel
theorem dL_cans_9 : decode cL_cans 9 = .ok (.if_icmp .ge 31, 3) := by decide +kernel
theorem dL_cans_12 : decode cL_cans 12 = .ok (.iload_n 3, 1) := by decide +kernel
theorem dL_cans_13 : decode cL_cans 13 = .ok (.aload_n 0, 1) := by decide +kernel
theorem dL_cans_14 : decode cL_cans 14 = .ok (.aload_n 1, 1) := by decide +kernel
theorem dL_cans_15 : decode cL_cans 15 = .ok (.iload_n 2, 1) := by decide +kernel
theorem dL_cans_16 : decode cL_cans 16 = .ok (.iload 4, 2) := by decide +kernel
theorem dL_cans_18 : decode cL_cans 18 = .ok (.invokestatic 138, 3) := by decide +kernel
theorem dL_cans_21 : decode cL_cans 21 = .ok (.ifCond .eq 10, 3) := by decide +kernel
theorem dL_cans_24 : decode cL_cans 24 = .ok (.iconst 1, 1) := by decide +kernel
theorem dL_cans_25 : decode cL_cans 25 = .ok (.iload 4, 2) := by decide +kernel
theorem dL_cans_27 : decode cL_cans 27 = .ok (.ishl, 1) := by decide +kernel
theorem dL_cans_28 : decode cL_cans 28 = .ok (.goto 4, 3) := by decide +kernel
theorem dL_cans_31 : decode cL_cans 31 = .ok (.iconst 0, 1) := by decide +kernel
theorem dL_cans_32 : decode cL_cans 32 = .ok (.ior, 1) := by decide +kernel
theorem dL_cans_33 : decode cL_cans 33 = .ok (.istore_n 3, 1) := by decide +kernel
theorem dL_cans_34 : decode cL_cans 34 = .ok (.iinc 4 1, 3) := by decide +kernel
theorem dL_cans_37 : decode cL_cans 37 = .ok (.goto (-32), 3) := by decide +kernel
theorem dL_cans_40 : decode cL_cans 40 = .ok (.iload_n 3, 1) := by decide +kernel
theorem dL_cans_41 : decode cL_cans 41 = .ok (.ireturn, 1) := by decide +kernel
theorem dL_dive_0 : decode cL_dive 0 = .ok (.aload_n 0, 1) := by decide +kernel
theorem dL_dive_1 : decode cL_dive 1 = .ok (.aload_n 1, 1) := by decide +kernel
theorem dL_dive_2 : decode cL_dive 2 = .ok (.iload_n 2, 1) := by decide +kernel
theorem dL_dive_3 : decode cL_dive 3 = .ok (.iload_n 3, 1) := by decide +kernel
theorem dL_dive_4 : decode cL_dive 4 = .ok (.invokestatic 138, 3) := by decide +kernel
theorem dL_dive_7 : decode cL_dive 7 = .ok (.ifCond .ne 5, 3) := by decide +kernel
theorem dL_dive_10 : decode cL_dive 10 = .ok (.iconst 0, 1) := by decide +kernel
theorem dL_dive_11 : decode cL_dive 11 = .ok (.ireturn, 1) := by decide +kernel
theorem dL_dive_12 : decode cL_dive 12 = .ok (.aload_n 1, 1) := by decide +kernel
theorem dL_dive_13 : decode cL_dive 13 = .ok (.iconst 2, 1) := by decide +kernel
theorem dL_dive_14 : decode cL_dive 14 = .ok (.iload_n 2, 1) := by decide +kernel
theorem dL_dive_15 : decode cL_dive 15 = .ok (.imul, 1) := by decide +kernel
theorem dL_dive_16 : decode cL_dive 16 = .ok (.dup2, 1) := by decide +kernel
theorem dL_dive_17 : decode cL_dive 17 = .ok (.laload, 1) := by decide +kernel
theorem dL_dive_18 : decode cL_dive 18 = .ok (.aload_n 0, 1) := by decide +kernel
theorem dL_dive_19 : decode cL_dive 19 = .ok (.aload_n 1, 1) := by decide +kernel
theorem dL_dive_20 : decode cL_dive 20 = .ok (.iload_n 2, 1) := by decide +kernel
theorem dL_dive_21 : decode cL_dive 21 = .ok (.iload_n 3, 1) := by decide +kernel
theorem dL_dive_22 : decode cL_dive 22 = .ok (.invokestatic 135, 3) := by decide +kernel
theorem dL_dive_25 : decode cL_dive 25 = .ok (.lsub, 1) := by decide +kernel
theorem dL_dive_26 : decode cL_dive 26 = .ok (.lastore, 1) := by decide +kernel
theorem dL_dive_27 : decode cL_dive 27 = .ok (.aload_n 1, 1) := by decide +kernel
theorem dL_dive_28 : decode cL_dive 28 = .ok (.iconst 2, 1) := by decide +kernel
theorem dL_dive_29 : decode cL_dive 29 = .ok (.iload_n 2, 1) := by decide +kernel
theorem dL_dive_30 : decode cL_dive 30 = .ok (.imul, 1) := by decide +kernel
theorem dL_dive_31 : decode cL_dive 31 = .ok (.iconst 1, 1) := by decide +kernel
theorem dL_dive_32 : decode cL_dive 32 = .ok (.iadd, 1) := by decide +kernel
theorem dL_dive_33 : decode cL_dive 33 = .ok (.dup2, 1) := by decide +kernel
theorem dL_dive_34 : decode cL_dive 34 = .ok (.laload, 1) := by decide +kernel
theorem dL_dive_35 : decode cL_dive 35 = .ok (.lconst 1, 1) := by decide +kernel
theorem dL_dive_36 : decode cL_dive 36 = .ok (.ladd, 1) := by decide +kernel
theorem dL_dive_37 : decode cL_dive 37 = .ok (.lastore, 1) := by decide +kernel
theorem dL_dive_38 : decode cL_dive 38 = .ok (.aload_n 1, 1) := by decide +kernel
theorem dL_dive_39 : decode cL_dive 39 = .ok (.bipush 19, 2) := by decide +kernel
theorem dL_dive_41 : decode cL_dive 41 = .ok (.iconst 4, 1) := by decide +kernel
theorem dL_dive_42 : decode cL_dive 42 = .ok (.iload_n 3, 1) := by decide +kernel
theorem dL_dive_43 : decode cL_dive 43 = .ok (.imul, 1) := by decide +kernel
theorem dL_dive_44 : decode cL_dive 44 = .ok (.iadd, 1) := by decide +kernel
theorem dL_dive_45 : decode cL_dive 45 = .ok (.lconst 1, 1) := by decide +kernel
theorem dL_dive_46 : decode cL_dive 46 = .ok (.lastore, 1) := by decide +kernel
theorem dL_dive_47 : decode cL_dive 47 = .ok (.iconst 1, 1) := by decide +kernel
theorem dL_dive_48 : decode cL_dive 48 = .ok (.ireturn, 1) := by decide +kernel
theorem dL_open_0 : decode cL_open 0 = .ok (.aload_n 0, 1) := by decide +kernel
theorem dL_open_1 : decode cL_open 1 = .ok (.bipush 19, 2) := by decide +kernel
theorem dL_open_3 : decode cL_open 3 = .ok (.iconst 4, 1) := by decide +kernel
theorem dL_open_4 : decode cL_open 4 = .ok (.iload_n 1, 1) := by decide +kernel
theorem dL_open_5 : decode cL_open 5 = .ok (.imul, 1) := by decide +kernel
theorem dL_open_6 : decode cL_open 6 = .ok (.iadd, 1) := by decide +kernel
theorem dL_open_7 : decode cL_open 7 = .ok (.laload, 1) := by decide +kernel
theorem dL_open_8 : decode cL_open 8 = .ok (.lconst 1, 1) := by decide +kernel
theorem dL_open_9 : decode cL_open 9 = .ok (.lcmp, 1) := by decide +kernel
theorem dL_open_10 : decode cL_open 10 = .ok (.ifCond .eq 5, 3) := by decide +kernel
theorem dL_open_13 : decode cL_open 13 = .ok (.iconst 0, 1) := by decide +kernel
theorem dL_open_14 : decode cL_open 14 = .ok (.ireturn, 1) := by decide +kernel
theorem dL_open_15 : decode cL_open 15 = .ok (.bipush 64, 2) := by decide +kernel
theorem dL_open_17 : decode cL_open 17 = .ok (.aload_n 0, 1) := by decide +kernel
theorem dL_open_18 : decode cL_open 18 = .ok (.bipush 16, 2) := by decide +kernel
theorem dL_open_20 : decode cL_open 20 = .ok (.iconst 4, 1) := by decide +kernel
theorem dL_open_21 : decode cL_open 21 = .ok (.iload_n 1, 1) := by decide +kernel
theorem dL_open_22 : decode cL_open 22 = .ok (.imul, 1) := by decide +kernel
theorem dL_open_23 : decode cL_open 23 = .ok (.iadd, 1) := by decide +kernel
theorem dL_open_24 : decode cL_open 24 = .ok (.laload, 1) := by decide +kernel
theorem dL_open_25 : decode cL_open 25 = .ok (.l2i, 1) := by decide +kernel
theorem dL_open_26 : decode cL_open 26 = .ok (.iadd, 1) := by decide +kernel
theorem dL_open_27 : decode cL_open 27 = .ok (.istore_n 2, 1) := by decide +kernel
theorem dL_open_28 : decode cL_open 28 = .ok (.aload_n 0, 1) := by decide +kernel
theorem dL_open_29 : decode cL_open 29 = .ok (.iload_n 2, 1) := by decide +kernel
theorem dL_open_30 : decode cL_open 30 = .ok (.ldc2_w 129, 3) := by decide +kernel
theorem dL_open_33 : decode cL_open 33 = .ok (.aload_n 0, 1) := by decide +kernel
theorem dL_open_34 : decode cL_open 34 = .ok (.iload_n 2, 1) := by decide +kernel
theorem dL_open_35 : decode cL_open 35 = .ok (.laload, 1) := by decide +kernel
theorem dL_open_36 : decode cL_open 36 = .ok (.aload_n 0, 1) := by decide +kernel
theorem dL_open_37 : decode cL_open 37 = .ok (.bipush 17, 2) := by decide +kernel
theorem dL_open_39 : decode cL_open 39 = .ok (.iconst 4, 1) := by decide +kernel
theorem dL_open_40 : decode cL_open 40 = .ok (.iload_n 1, 1) := by decide +kernel
theorem dL_open_41 : decode cL_open 41 = .ok (.imul, 1) := by decide +kernel
theorem dL_open_42 : decode cL_open 42 = .ok (.iadd, 1) := by decide +kernel
theorem dL_open_43 : decode cL_open 43 = .ok (.laload, 1) := by decide +kernel
theorem dL_open_44 : decode cL_open 44 = .ok (.ladd, 1) := by decide +kernel
theorem dL_open_45 : decode cL_open 45 = .ok (.invokestatic 106, 3) := by decide +kernel
theorem dL_open_48 : decode cL_open 48 = .ok (.lastore, 1) := by decide +kernel
theorem dL_open_49 : decode cL_open 49 = .ok (.aload_n 0, 1) := by decide +kernel
theorem dL_open_50 : decode cL_open 50 = .ok (.bipush 19, 2) := by decide +kernel
theorem dL_open_52 : decode cL_open 52 = .ok (.iconst 4, 1) := by decide +kernel
theorem dL_open_53 : decode cL_open 53 = .ok (.iload_n 1, 1) := by decide +kernel
theorem dL_open_54 : decode cL_open 54 = .ok (.imul, 1) := by decide +kernel
theorem dL_open_55 : decode cL_open 55 = .ok (.iadd, 1) := by decide +kernel
theorem dL_open_56 : decode cL_open 56 = .ok (.ldc2_w 119, 3) := by decide +kernel
theorem dL_open_59 : decode cL_open 59 = .ok (.lastore, 1) := by decide +kernel
theorem dL_open_60 : decode cL_open 60 = .ok (.iconst 1, 1) := by decide +kernel
theorem dL_open_61 : decode cL_open 61 = .ok (.ireturn, 1) := by decide +kernel
theorem dL_fair_0 : decode cL_fair 0 = .ok (.aload_n 0, 1) := by decide +kernel
theorem dL_fair_1 : decode cL_fair 1 = .ok (.bipush 64, 2) := by decide +kernel
theorem dL_fair_3 : decode cL_fair 3 = .ok (.laload, 1) := by decide +kernel
theorem dL_fair_4 : decode cL_fair 4 = .ok (.aload_n 0, 1) := by decide +kernel
theorem dL_fair_5 : decode cL_fair 5 = .ok (.bipush 67, 2) := by decide +kernel
theorem dL_fair_7 : decode cL_fair 7 = .ok (.laload, 1) := by decide +kernel
theorem dL_fair_8 : decode cL_fair 8 = .ok (.ladd, 1) := by decide +kernel
theorem dL_fair_9 : decode cL_fair 9 = .ok (.aload_n 0, 1) := by decide +kernel
theorem dL_fair_10 : decode cL_fair 10 = .ok (.bipush 66, 2) := by decide +kernel
theorem dL_fair_12 : decode cL_fair 12 = .ok (.laload, 1) := by decide +kernel
theorem dL_fair_13 : decode cL_fair 13 = .ok (.lsub, 1) := by decide +kernel
theorem dL_fair_14 : decode cL_fair 14 = .ok (.ldc2_w 119, 3) := by decide +kernel
theorem dL_fair_17 : decode cL_fair 17 = .ok (.aload_n 0, 1) := by decide +kernel
theorem dL_fair_18 : decode cL_fair 18 = .ok (.bipush 69, 2) := by decide +kernel
theorem dL_fair_20 : decode cL_fair 20 = .ok (.laload, 1) := by decide +kernel
theorem dL_fair_21 : decode cL_fair 21 = .ok (.lmul, 1) := by decide +kernel
theorem dL_fair_22 : decode cL_fair 22 = .ok (.lsub, 1) := by decide +kernel
theorem dL_fair_23 : decode cL_fair 23 = .ok (.lreturn, 1) := by decide +kernel
theorem dL_first_0 : decode cL_first 0 = .ok (.iconst (-1), 1) := by decide +kernel
theorem dL_first_1 : decode cL_first 1 = .ok (.istore_n 1, 1) := by decide +kernel
theorem dL_first_2 : decode cL_first 2 = .ok (.iconst 0, 1) := by decide +kernel
theorem dL_first_3 : decode cL_first 3 = .ok (.istore_n 2, 1) := by decide +kernel
theorem dL_first_4 : decode cL_first 4 = .ok (.iload_n 2, 1) := by decide +kernel
theorem dL_first_5 : decode cL_first 5 = .ok (.bipush 6, 2) := by decide +kernel
theorem dL_first_7 : decode cL_first 7 = .ok (.if_icmp .ge 39, 3) := by decide +kernel
theorem dL_first_10 : decode cL_first 10 = .ok (.aload_n 0, 1) := by decide +kernel
theorem dL_first_11 : decode cL_first 11 = .ok (.bipush 64, 2) := by decide +kernel
theorem dL_first_13 : decode cL_first 13 = .ok (.iload_n 2, 1) := by decide +kernel
theorem dL_first_14 : decode cL_first 14 = .ok (.iadd, 1) := by decide +kernel
theorem dL_first_15 : decode cL_first 15 = .ok (.laload, 1) := by decide +kernel
theorem dL_first_16 : decode cL_first 16 = .ok (.iload_n 1, 1) := by decide +kernel
theorem dL_first_17 : decode cL_first 17 = .ok (.ifCond .ge 7, 3) := by decide +kernel
theorem dL_first_20 : decode cL_first 20 = .ok (.lconst 0, 1) := by decide +kernel
theorem dL_first_21 : decode cL_first 21 = .ok (.goto 9, 3) := by decide +kernel
theorem dL_first_24 : decode cL_first 24 = .ok (.aload_n 0, 1) := by decide +kernel
theorem dL_first_25 : decode cL_first 25 = .ok (.bipush 64, 2) := by decide +kernel
theorem dL_first_27 : decode cL_first 27 = .ok (.iload_n 1, 1) := by decide +kernel
theorem dL_first_28 : decode cL_first 28 = .ok (.iadd, 1) := by decide +kernel
theorem dL_first_29 : decode cL_first 29 = .ok (.laload, 1) := by decide +kernel
theorem dL_first_30 : decode cL_first 30 = .ok (.lcmp, 1) := by decide +kernel
theorem dL_first_31 : decode cL_first 31 = .ok (.ifCond .le 7, 3) := by decide +kernel
theorem dL_first_34 : decode cL_first 34 = .ok (.iload_n 2, 1) := by decide +kernel
theorem dL_first_35 : decode cL_first 35 = .ok (.goto 4, 3) := by decide +kernel
theorem dL_first_38 : decode cL_first 38 = .ok (.iload_n 1, 1) := by decide +kernel
theorem dL_first_39 : decode cL_first 39 = .ok (.istore_n 1, 1) := by decide +kernel
theorem dL_first_40 : decode cL_first 40 = .ok (.iinc 2 1, 3) := by decide +kernel
theorem dL_first_43 : decode cL_first 43 = .ok (.goto (-39), 3) := by decide +kernel
theorem dL_first_46 : decode cL_first 46 = .ok (.iload_n 1, 1) := by decide +kernel
theorem dL_first_47 : decode cL_first 47 = .ok (.ireturn, 1) := by decide +kernel
theorem dL_pass_0 : decode cL_pass 0 = .ok (.iconst 0, 1) := by decide +kernel
theorem dL_pass_1 : decode cL_pass 1 = .ok (.istore_n 2, 1) := by decide +kernel
theorem dL_pass_2 : decode cL_pass 2 = .ok (.iload_n 2, 1) := by decide +kernel
theorem dL_pass_3 : decode cL_pass 3 = .ok (.bipush 6, 2) := by decide +kernel
theorem dL_pass_5 : decode cL_pass 5 = .ok (.if_icmp .ge 83, 3) := by decide +kernel
theorem dL_pass_8 : decode cL_pass 8 = .ok (.aload_n 1, 1) := by decide +kernel
theorem dL_pass_9 : decode cL_pass 9 = .ok (.bipush 64, 2) := by decide +kernel
theorem dL_pass_11 : decode cL_pass 11 = .ok (.iload_n 2, 1) := by decide +kernel
theorem dL_pass_12 : decode cL_pass 12 = .ok (.iadd, 1) := by decide +kernel
theorem dL_pass_13 : decode cL_pass 13 = .ok (.lconst 0, 1) := by decide +kernel
theorem dL_pass_14 : decode cL_pass 14 = .ok (.aload_n 1, 1) := by decide +kernel
theorem dL_pass_15 : decode cL_pass 15 = .ok (.bipush 64, 2) := by decide +kernel
theorem dL_pass_17 : decode cL_pass 17 = .ok (.iload_n 2, 1) := by decide +kernel
theorem dL_pass_18 : decode cL_pass 18 = .ok (.iadd, 1) := by decide +kernel
theorem dL_pass_19 : decode cL_pass 19 = .ok (.laload, 1) := by decide +kernel
theorem dL_pass_20 : decode cL_pass 20 = .ok (.aload_n 0, 1) := by decide +kernel
theorem dL_pass_21 : decode cL_pass 21 = .ok (.invokestatic 59, 3) := by decide +kernel
theorem dL_pass_24 : decode cL_pass 24 = .ok (.ifCond .eq 9, 3) := by decide +kernel
theorem dL_pass_27 : decode cL_pass 27 = .ok (.ldc2_w 121, 3) := by decide +kernel
theorem dL_pass_30 : decode cL_pass 30 = .ok (.goto 47, 3) := by decide +kernel
theorem dL_pass_33 : decode cL_pass 33 = .ok (.aload_n 0, 1) := by decide +kernel
theorem dL_pass_34 : decode cL_pass 34 = .ok (.iconst 0, 1) := by decide +kernel
theorem dL_pass_35 : decode cL_pass 35 = .ok (.invokestatic 72, 3) := by decide +kernel
theorem dL_pass_38 : decode cL_pass 38 = .ok (.bipush 24, 2) := by decide +kernel
theorem dL_pass_40 : decode cL_pass 40 = .ok (.ishr, 1) := by decide +kernel
theorem dL_pass_41 : decode cL_pass 41 = .ok (.iconst 3, 1) := by decide +kernel
theorem dL_pass_42 : decode cL_pass 42 = .ok (.iand, 1) := by decide +kernel
theorem dL_pass_43 : decode cL_pass 43 = .ok (.iload_n 2, 1) := by decide +kernel
theorem dL_pass_44 : decode cL_pass 44 = .ok (.aload_n 0, 1) := by decide +kernel
theorem dL_pass_45 : decode cL_pass 45 = .ok (.iconst 0, 1) := by decide +kernel
theorem dL_pass_46 : decode cL_pass 46 = .ok (.invokestatic 72, 3) := by decide +kernel
theorem dL_pass_49 : decode cL_pass 49 = .ok (.bipush 26, 2) := by decide +kernel
theorem dL_pass_51 : decode cL_pass 51 = .ok (.ishr, 1) := by decide +kernel
theorem dL_pass_52 : decode cL_pass 52 = .ok (.iconst 1, 1) := by decide +kernel
theorem dL_pass_53 : decode cL_pass 53 = .ok (.iand, 1) := by decide +kernel
theorem dL_pass_54 : decode cL_pass 54 = .ok (.imul, 1) := by decide +kernel
theorem dL_pass_55 : decode cL_pass 55 = .ok (.iadd, 1) := by decide +kernel
theorem dL_pass_56 : decode cL_pass 56 = .ok (.i2l, 1) := by decide +kernel
theorem dL_pass_57 : decode cL_pass 57 = .ok (.aload_n 1, 1) := by decide +kernel
theorem dL_pass_58 : decode cL_pass 58 = .ok (.bipush 64, 2) := by decide +kernel
theorem dL_pass_60 : decode cL_pass 60 = .ok (.iload_n 2, 1) := by decide +kernel
theorem dL_pass_61 : decode cL_pass 61 = .ok (.iadd, 1) := by decide +kernel
theorem dL_pass_62 : decode cL_pass 62 = .ok (.laload, 1) := by decide +kernel
theorem dL_pass_63 : decode cL_pass 63 = .ok (.aload_n 1, 1) := by decide +kernel
theorem dL_pass_64 : decode cL_pass 64 = .ok (.bipush 70, 2) := by decide +kernel
theorem dL_pass_66 : decode cL_pass 66 = .ok (.laload, 1) := by decide +kernel
theorem dL_pass_67 : decode cL_pass 67 = .ok (.lcmp, 1) := by decide +kernel
theorem dL_pass_68 : decode cL_pass 68 = .ok (.ifCond .ge 7, 3) := by decide +kernel
theorem dL_pass_71 : decode cL_pass 71 = .ok (.lconst 1, 1) := by decide +kernel
theorem dL_pass_72 : decode cL_pass 72 = .ok (.goto 4, 3) := by decide +kernel
theorem dL_pass_75 : decode cL_pass 75 = .ok (.lconst 0, 1) := by decide +kernel
theorem dL_pass_76 : decode cL_pass 76 = .ok (.ladd, 1) := by decide +kernel
theorem dL_pass_77 : decode cL_pass 77 = .ok (.lsub, 1) := by decide +kernel
theorem dL_pass_78 : decode cL_pass 78 = .ok (.invokestatic 112, 3) := by decide +kernel
theorem dL_pass_81 : decode cL_pass 81 = .ok (.lastore, 1) := by decide +kernel
theorem dL_pass_82 : decode cL_pass 82 = .ok (.iinc 2 1, 3) := by decide +kernel
theorem dL_pass_85 : decode cL_pass 85 = .ok (.goto (-83), 3) := by decide +kernel
theorem dL_pass_88 : decode cL_pass 88 = .ok (.iconst 0, 1) := by decide +kernel
theorem dL_pass_89 : decode cL_pass 89 = .ok (.istore_n 2, 1) := by decide +kernel
theorem dL_pass_90 : decode cL_pass 90 = .ok (.iload_n 2, 1) := by decide +kernel
theorem dL_pass_91 : decode cL_pass 91 = .ok (.aload_n 0, 1) := by decide +kernel
theorem dL_pass_92 : decode cL_pass 92 = .ok (.invokestatic 44, 3) := by decide +kernel
theorem dL_pass_95 : decode cL_pass 95 = .ok (.if_icmp .ge 31, 3) := by decide +kernel
theorem dL_pass_98 : decode cL_pass 98 = .ok (.aload_n 1, 1) := by decide +kernel
theorem dL_pass_99 : decode cL_pass 99 = .ok (.iconst 2, 1) := by decide +kernel
theorem dL_pass_100 : decode cL_pass 100 = .ok (.iload_n 2, 1) := by decide +kernel
theorem dL_pass_101 : decode cL_pass 101 = .ok (.imul, 1) := by decide +kernel
theorem dL_pass_102 : decode cL_pass 102 = .ok (.ldc2_w 129, 3) := by decide +kernel
theorem dL_pass_105 : decode cL_pass 105 = .ok (.aload_n 1, 1) := by decide +kernel
theorem dL_pass_106 : decode cL_pass 106 = .ok (.iconst 2, 1) := by decide +kernel
theorem dL_pass_107 : decode cL_pass 107 = .ok (.iload_n 2, 1) := by decide +kernel
theorem dL_pass_108 : decode cL_pass 108 = .ok (.imul, 1) := by decide +kernel
theorem dL_pass_109 : decode cL_pass 109 = .ok (.laload, 1) := by decide +kernel
theorem dL_pass_110 : decode cL_pass 110 = .ok (.aload_n 1, 1) := by decide +kernel
theorem dL_pass_111 : decode cL_pass 111 = .ok (.iload_n 2, 1) := by decide +kernel
theorem dL_pass_112 : decode cL_pass 112 = .ok (.invokestatic 142, 3) := by decide +kernel
theorem dL_pass_115 : decode cL_pass 115 = .ok (.ladd, 1) := by decide +kernel
theorem dL_pass_116 : decode cL_pass 116 = .ok (.invokestatic 106, 3) := by decide +kernel
theorem dL_pass_119 : decode cL_pass 119 = .ok (.lastore, 1) := by decide +kernel
theorem dL_pass_120 : decode cL_pass 120 = .ok (.iinc 2 1, 3) := by decide +kernel
theorem dL_pass_123 : decode cL_pass 123 = .ok (.goto (-33), 3) := by decide +kernel
theorem dL_pass_126 : decode cL_pass 126 = .ok (.aload_n 1, 1) := by decide +kernel
theorem dL_pass_127 : decode cL_pass 127 = .ok (.bipush 70, 2) := by decide +kernel
theorem dL_pass_129 : decode cL_pass 129 = .ok (.dup2, 1) := by decide +kernel
theorem dL_pass_130 : decode cL_pass 130 = .ok (.laload, 1) := by decide +kernel
theorem dL_pass_131 : decode cL_pass 131 = .ok (.lconst 1, 1) := by decide +kernel
theorem dL_pass_132 : decode cL_pass 132 = .ok (.ladd, 1) := by decide +kernel
theorem dL_pass_133 : decode cL_pass 133 = .ok (.lastore, 1) := by decide +kernel
theorem dL_pass_134 : decode cL_pass 134 = .ok (.aload_n 1, 1) := by decide +kernel
theorem dL_pass_135 : decode cL_pass 135 = .ok (.invokestatic 146, 3) := by decide +kernel
theorem dL_pass_138 : decode cL_pass 138 = .ok (.ireturn, 1) := by decide +kernel
theorem dL_same_0 : decode cL_same 0 = .ok (.iconst 0, 1) := by decide +kernel
theorem dL_same_1 : decode cL_same 1 = .ok (.istore_n 3, 1) := by decide +kernel
theorem dL_same_2 : decode cL_same 2 = .ok (.iconst 0, 1) := by decide +kernel
theorem dL_same_3 : decode cL_same 3 = .ok (.istore 4, 2) := by decide +kernel
theorem dL_same_5 : decode cL_same 5 = .ok (.iconst 0, 1) := by decide +kernel
theorem dL_same_6 : decode cL_same 6 = .ok (.istore 5, 2) := by decide +kernel
theorem dL_same_8 : decode cL_same 8 = .ok (.iload 5, 2) := by decide +kernel
theorem dL_same_10 : decode cL_same 10 = .ok (.aload_n 0, 1) := by decide +kernel
theorem dL_same_11 : decode cL_same 11 = .ok (.invokestatic 44, 3) := by decide +kernel
theorem dL_same_14 : decode cL_same 14 = .ok (.if_icmp .ge 204, 3) := by decide +kernel
theorem dL_same_17 : decode cL_same 17 = .ok (.aload_n 2, 1) := by decide +kernel
theorem dL_same_18 : decode cL_same 18 = .ok (.iload 5, 2) := by decide +kernel
theorem dL_same_20 : decode cL_same 20 = .ok (.iconst 0, 1) := by decide +kernel
theorem dL_same_21 : decode cL_same 21 = .ok (.invokevirtual 154, 3) := by decide +kernel
theorem dL_same_24 : decode cL_same 24 = .ok (.i2l, 1) := by decide +kernel
theorem dL_same_25 : decode cL_same 25 = .ok (.aload_n 1, 1) := by decide +kernel
theorem dL_same_26 : decode cL_same 26 = .ok (.iconst 2, 1) := by decide +kernel
theorem dL_same_27 : decode cL_same 27 = .ok (.iload 5, 2) := by decide +kernel
theorem dL_same_29 : decode cL_same 29 = .ok (.imul, 1) := by decide +kernel
theorem dL_same_30 : decode cL_same 30 = .ok (.laload, 1) := by decide +kernel
theorem dL_same_31 : decode cL_same 31 = .ok (.lcmp, 1) := by decide +kernel
theorem dL_same_32 : decode cL_same 32 = .ok (.ifCond .ne 90, 3) := by decide +kernel
theorem dL_same_35 : decode cL_same 35 = .ok (.aload_n 2, 1) := by decide +kernel
theorem dL_same_36 : decode cL_same 36 = .ok (.iload 5, 2) := by decide +kernel
theorem dL_same_38 : decode cL_same 38 = .ok (.iconst 1, 1) := by decide +kernel
theorem dL_same_39 : decode cL_same 39 = .ok (.invokevirtual 154, 3) := by decide +kernel
theorem dL_same_42 : decode cL_same 42 = .ok (.i2l, 1) := by decide +kernel
theorem dL_same_43 : decode cL_same 43 = .ok (.aload_n 1, 1) := by decide +kernel
theorem dL_same_44 : decode cL_same 44 = .ok (.iconst 2, 1) := by decide +kernel
theorem dL_same_45 : decode cL_same 45 = .ok (.iload 5, 2) := by decide +kernel
theorem dL_same_47 : decode cL_same 47 = .ok (.imul, 1) := by decide +kernel
theorem dL_same_48 : decode cL_same 48 = .ok (.iconst 1, 1) := by decide +kernel
theorem dL_same_49 : decode cL_same 49 = .ok (.iadd, 1) := by decide +kernel
theorem dL_same_50 : decode cL_same 50 = .ok (.laload, 1) := by decide +kernel
theorem dL_same_51 : decode cL_same 51 = .ok (.lcmp, 1) := by decide +kernel
theorem dL_same_52 : decode cL_same 52 = .ok (.ifCond .ne 70, 3) := by decide +kernel
theorem dL_same_55 : decode cL_same 55 = .ok (.aload_n 2, 1) := by decide +kernel
theorem dL_same_56 : decode cL_same 56 = .ok (.iload 5, 2) := by decide +kernel
theorem dL_same_58 : decode cL_same 58 = .ok (.iconst 2, 1) := by decide +kernel
theorem dL_same_59 : decode cL_same 59 = .ok (.invokevirtual 154, 3) := by decide +kernel
theorem dL_same_62 : decode cL_same 62 = .ok (.aload_n 0, 1) := by decide +kernel
theorem dL_same_63 : decode cL_same 63 = .ok (.iload 5, 2) := by decide +kernel
theorem dL_same_65 : decode cL_same 65 = .ok (.invokestatic 47, 3) := by decide +kernel
theorem dL_same_68 : decode cL_same 68 = .ok (.if_icmp .ne 54, 3) := by decide +kernel
theorem dL_same_71 : decode cL_same 71 = .ok (.aload_n 2, 1) := by decide +kernel
theorem dL_same_72 : decode cL_same 72 = .ok (.iload 5, 2) := by decide +kernel
theorem dL_same_74 : decode cL_same 74 = .ok (.iconst 3, 1) := by decide +kernel
theorem dL_same_75 : decode cL_same 75 = .ok (.invokevirtual 154, 3) := by decide +kernel
theorem dL_same_78 : decode cL_same 78 = .ok (.aload_n 0, 1) := by decide +kernel
theorem dL_same_79 : decode cL_same 79 = .ok (.iload 5, 2) := by decide +kernel
theorem dL_same_81 : decode cL_same 81 = .ok (.invokestatic 50, 3) := by decide +kernel
theorem dL_same_84 : decode cL_same 84 = .ok (.if_icmp .ne 38, 3) := by decide +kernel
theorem dL_same_87 : decode cL_same 87 = .ok (.aload_n 2, 1) := by decide +kernel
theorem dL_same_88 : decode cL_same 88 = .ok (.iload 5, 2) := by decide +kernel
theorem dL_same_90 : decode cL_same 90 = .ok (.iconst 4, 1) := by decide +kernel
theorem dL_same_91 : decode cL_same 91 = .ok (.invokevirtual 154, 3) := by decide +kernel
theorem dL_same_94 : decode cL_same 94 = .ok (.aload_n 0, 1) := by decide +kernel
theorem dL_same_95 : decode cL_same 95 = .ok (.aload_n 1, 1) := by decide +kernel
theorem dL_same_96 : decode cL_same 96 = .ok (.iload 5, 2) := by decide +kernel
theorem dL_same_98 : decode cL_same 98 = .ok (.invokestatic 157, 3) := by decide +kernel
theorem dL_same_101 : decode cL_same 101 = .ok (.if_icmp .ne 21, 3) := by decide +kernel
theorem dL_same_104 : decode cL_same 104 = .ok (.aload_n 2, 1) := by decide +kernel
theorem dL_same_105 : decode cL_same 105 = .ok (.iload 5, 2) := by decide +kernel
theorem dL_same_107 : decode cL_same 107 = .ok (.iconst 5, 1) := by decide +kernel
theorem dL_same_108 : decode cL_same 108 = .ok (.invokevirtual 154, 3) := by decide +kernel
theorem dL_same_111 : decode cL_same 111 = .ok (.i2l, 1) := by decide +kernel
theorem dL_same_112 : decode cL_same 112 = .ok (.aload_n 1, 1) := by decide +kernel
theorem dL_same_113 : decode cL_same 113 = .ok (.iload 5, 2) := by decide +kernel
theorem dL_same_115 : decode cL_same 115 = .ok (.invokestatic 142, 3) := by decide +kernel
theorem dL_same_118 : decode cL_same 118 = .ok (.lcmp, 1) := by decide +kernel
theorem dL_same_119 : decode cL_same 119 = .ok (.ifCond .eq 5, 3) := by decide +kernel
theorem dL_same_122 : decode cL_same 122 = .ok (.iconst 0, 1) := by decide +kernel
theorem dL_same_123 : decode cL_same 123 = .ok (.ireturn, 1) := by decide +kernel
theorem dL_same_124 : decode cL_same 124 = .ok (.aload_n 1, 1) := by decide +kernel
theorem dL_same_125 : decode cL_same 125 = .ok (.bipush 70, 2) := by decide +kernel
theorem dL_same_127 : decode cL_same 127 = .ok (.laload, 1) := by decide +kernel
theorem dL_same_128 : decode cL_same 128 = .ok (.ldc2_w 161, 3) := by decide +kernel
theorem dL_same_131 : decode cL_same 131 = .ok (.lrem, 1) := by decide +kernel
theorem dL_same_132 : decode cL_same 132 = .ok (.l2i, 1) := by decide +kernel
theorem dL_same_133 : decode cL_same 133 = .ok (.istore 6, 2) := by decide +kernel
theorem dL_same_135 : decode cL_same 135 = .ok (.aload_n 2, 1) := by decide +kernel
theorem dL_same_136 : decode cL_same 136 = .ok (.iload 5, 2) := by decide +kernel
theorem dL_same_138 : decode cL_same 138 = .ok (.iload 6, 2) := by decide +kernel
theorem dL_same_140 : decode cL_same 140 = .ok (.iconst 0, 1) := by decide +kernel
theorem dL_same_141 : decode cL_same 141 = .ok (.invokevirtual 163, 3) := by decide +kernel
theorem dL_same_144 : decode cL_same 144 = .ok (.i2l, 1) := by decide +kernel
theorem dL_same_145 : decode cL_same 145 = .ok (.aload_n 0, 1) := by decide +kernel
theorem dL_same_146 : decode cL_same 146 = .ok (.aload_n 1, 1) := by decide +kernel
theorem dL_same_147 : decode cL_same 147 = .ok (.iload 5, 2) := by decide +kernel
theorem dL_same_149 : decode cL_same 149 = .ok (.iload 6, 2) := by decide +kernel
theorem dL_same_151 : decode cL_same 151 = .ok (.invokestatic 131, 3) := by decide +kernel
theorem dL_same_154 : decode cL_same 154 = .ok (.lcmp, 1) := by decide +kernel
theorem dL_same_155 : decode cL_same 155 = .ok (.ifCond .ne 55, 3) := by decide +kernel
theorem dL_same_158 : decode cL_same 158 = .ok (.aload_n 2, 1) := by decide +kernel
theorem dL_same_159 : decode cL_same 159 = .ok (.iload 5, 2) := by decide +kernel
theorem dL_same_161 : decode cL_same 161 = .ok (.iload 6, 2) := by decide +kernel
theorem dL_same_163 : decode cL_same 163 = .ok (.iconst 1, 1) := by decide +kernel
theorem dL_same_164 : decode cL_same 164 = .ok (.invokevirtual 163, 3) := by decide +kernel
theorem dL_same_167 : decode cL_same 167 = .ok (.i2l, 1) := by decide +kernel
theorem dL_same_168 : decode cL_same 168 = .ok (.aload_n 0, 1) := by decide +kernel
theorem dL_same_169 : decode cL_same 169 = .ok (.aload_n 1, 1) := by decide +kernel
theorem dL_same_170 : decode cL_same 170 = .ok (.iload 5, 2) := by decide +kernel
theorem dL_same_172 : decode cL_same 172 = .ok (.iload 6, 2) := by decide +kernel
theorem dL_same_174 : decode cL_same 174 = .ok (.invokestatic 135, 3) := by decide +kernel
theorem dL_same_177 : decode cL_same 177 = .ok (.lcmp, 1) := by decide +kernel
theorem dL_same_178 : decode cL_same 178 = .ok (.ifCond .ne 32, 3) := by decide +kernel
theorem dL_same_181 : decode cL_same 181 = .ok (.aload_n 2, 1) := by decide +kernel
theorem dL_same_182 : decode cL_same 182 = .ok (.iload 5, 2) := by decide +kernel
theorem dL_same_184 : decode cL_same 184 = .ok (.iload 6, 2) := by decide +kernel
theorem dL_same_186 : decode cL_same 186 = .ok (.iconst 2, 1) := by decide +kernel
theorem dL_same_187 : decode cL_same 187 = .ok (.invokevirtual 163, 3) := by decide +kernel
theorem dL_same_190 : decode cL_same 190 = .ok (.aload_n 0, 1) := by decide +kernel
theorem dL_same_191 : decode cL_same 191 = .ok (.aload_n 1, 1) := by decide +kernel
theorem dL_same_192 : decode cL_same 192 = .ok (.iload 5, 2) := by decide +kernel
theorem dL_same_194 : decode cL_same 194 = .ok (.iload 6, 2) := by decide +kernel
theorem dL_same_196 : decode cL_same 196 = .ok (.invokestatic 138, 3) := by decide +kernel
theorem dL_same_199 : decode cL_same 199 = .ok (.ifCond .eq 7, 3) := by decide +kernel
theorem dL_same_202 : decode cL_same 202 = .ok (.iconst 1, 1) := by decide +kernel
theorem dL_same_203 : decode cL_same 203 = .ok (.goto 4, 3) := by decide +kernel
theorem dL_same_206 : decode cL_same 206 = .ok (.iconst 0, 1) := by decide +kernel
theorem dL_same_207 : decode cL_same 207 = .ok (.if_icmp .eq 5, 3) := by decide +kernel
theorem dL_same_210 : decode cL_same 210 = .ok (.iconst 0, 1) := by decide +kernel
theorem dL_same_211 : decode cL_same 211 = .ok (.ireturn, 1) := by decide +kernel
theorem dL_same_212 : decode cL_same 212 = .ok (.iinc 5 1, 3) := by decide +kernel
theorem dL_same_215 : decode cL_same 215 = .ok (.goto (-207), 3) := by decide +kernel
theorem dL_same_218 : decode cL_same 218 = .ok (.iconst 0, 1) := by decide +kernel
theorem dL_same_219 : decode cL_same 219 = .ok (.istore 5, 2) := by decide +kernel
theorem dL_same_221 : decode cL_same 221 = .ok (.iload 5, 2) := by decide +kernel
theorem dL_same_223 : decode cL_same 223 = .ok (.bipush 12, 2) := by decide +kernel
theorem dL_same_225 : decode cL_same 225 = .ok (.if_icmp .ge 97, 3) := by decide +kernel
theorem dL_same_228 : decode cL_same 228 = .ok (.iload_n 3, 1) := by decide +kernel
theorem dL_same_229 : decode cL_same 229 = .ok (.aload_n 1, 1) := by decide +kernel
theorem dL_same_230 : decode cL_same 230 = .ok (.bipush 19, 2) := by decide +kernel
theorem dL_same_232 : decode cL_same 232 = .ok (.iconst 4, 1) := by decide +kernel
theorem dL_same_233 : decode cL_same 233 = .ok (.iload 5, 2) := by decide +kernel
theorem dL_same_235 : decode cL_same 235 = .ok (.imul, 1) := by decide +kernel
theorem dL_same_236 : decode cL_same 236 = .ok (.iadd, 1) := by decide +kernel
theorem dL_same_237 : decode cL_same 237 = .ok (.laload, 1) := by decide +kernel
theorem dL_same_238 : decode cL_same 238 = .ok (.lconst 0, 1) := by decide +kernel
theorem dL_same_239 : decode cL_same 239 = .ok (.lcmp, 1) := by decide +kernel
theorem dL_same_240 : decode cL_same 240 = .ok (.ifCond .ne 7, 3) := by decide +kernel
theorem dL_same_243 : decode cL_same 243 = .ok (.iconst 1, 1) := by decide +kernel
theorem dL_same_244 : decode cL_same 244 = .ok (.goto 4, 3) := by decide +kernel
theorem dL_same_247 : decode cL_same 247 = .ok (.iconst 0, 1) := by decide +kernel
theorem dL_same_248 : decode cL_same 248 = .ok (.iadd, 1) := by decide +kernel
theorem dL_same_249 : decode cL_same 249 = .ok (.istore_n 3, 1) := by decide +kernel
theorem dL_same_250 : decode cL_same 250 = .ok (.iload 4, 2) := by decide +kernel
theorem dL_same_252 : decode cL_same 252 = .ok (.aload_n 1, 1) := by decide +kernel
theorem dL_same_253 : decode cL_same 253 = .ok (.bipush 19, 2) := by decide +kernel
theorem dL_same_255 : decode cL_same 255 = .ok (.iconst 4, 1) := by decide +kernel
theorem dL_same_256 : decode cL_same 256 = .ok (.iload 5, 2) := by decide +kernel
theorem dL_same_258 : decode cL_same 258 = .ok (.imul, 1) := by decide +kernel
theorem dL_same_259 : decode cL_same 259 = .ok (.iadd, 1) := by decide +kernel
theorem dL_same_260 : decode cL_same 260 = .ok (.laload, 1) := by decide +kernel
theorem dL_same_261 : decode cL_same 261 = .ok (.lconst 1, 1) := by decide +kernel
theorem dL_same_262 : decode cL_same 262 = .ok (.lcmp, 1) := by decide +kernel
theorem dL_same_263 : decode cL_same 263 = .ok (.ifCond .ne 7, 3) := by decide +kernel
theorem dL_same_266 : decode cL_same 266 = .ok (.iconst 1, 1) := by decide +kernel
theorem dL_same_267 : decode cL_same 267 = .ok (.goto 4, 3) := by decide +kernel
theorem dL_same_270 : decode cL_same 270 = .ok (.iconst 0, 1) := by decide +kernel
theorem dL_same_271 : decode cL_same 271 = .ok (.iadd, 1) := by decide +kernel
theorem dL_same_272 : decode cL_same 272 = .ok (.istore 4, 2) := by decide +kernel
theorem dL_same_274 : decode cL_same 274 = .ok (.iconst 0, 1) := by decide +kernel
theorem dL_same_275 : decode cL_same 275 = .ok (.istore 6, 2) := by decide +kernel
theorem dL_same_277 : decode cL_same 277 = .ok (.iload 6, 2) := by decide +kernel
theorem dL_same_279 : decode cL_same 279 = .ok (.iconst 4, 1) := by decide +kernel
theorem dL_same_280 : decode cL_same 280 = .ok (.if_icmp .ge 36, 3) := by decide +kernel
theorem dL_same_283 : decode cL_same 283 = .ok (.aload_n 2, 1) := by decide +kernel
theorem dL_same_284 : decode cL_same 284 = .ok (.iload 5, 2) := by decide +kernel
theorem dL_same_286 : decode cL_same 286 = .ok (.iload 6, 2) := by decide +kernel
theorem dL_same_288 : decode cL_same 288 = .ok (.invokevirtual 166, 3) := by decide +kernel
theorem dL_same_291 : decode cL_same 291 = .ok (.i2l, 1) := by decide +kernel
theorem dL_same_292 : decode cL_same 292 = .ok (.aload_n 1, 1) := by decide +kernel
theorem dL_same_293 : decode cL_same 293 = .ok (.bipush 16, 2) := by decide +kernel
theorem dL_same_295 : decode cL_same 295 = .ok (.iconst 4, 1) := by decide +kernel
theorem dL_same_296 : decode cL_same 296 = .ok (.iload 5, 2) := by decide +kernel
theorem dL_same_298 : decode cL_same 298 = .ok (.imul, 1) := by decide +kernel
theorem dL_same_299 : decode cL_same 299 = .ok (.iadd, 1) := by decide +kernel
theorem dL_same_300 : decode cL_same 300 = .ok (.iload 6, 2) := by decide +kernel
theorem dL_same_302 : decode cL_same 302 = .ok (.iadd, 1) := by decide +kernel
theorem dL_same_303 : decode cL_same 303 = .ok (.laload, 1) := by decide +kernel
theorem dL_same_304 : decode cL_same 304 = .ok (.lcmp, 1) := by decide +kernel
theorem dL_same_305 : decode cL_same 305 = .ok (.ifCond .eq 5, 3) := by decide +kernel
theorem dL_same_308 : decode cL_same 308 = .ok (.iconst 0, 1) := by decide +kernel
theorem dL_same_309 : decode cL_same 309 = .ok (.ireturn, 1) := by decide +kernel
theorem dL_same_310 : decode cL_same 310 = .ok (.iinc 6 1, 3) := by decide +kernel
theorem dL_same_313 : decode cL_same 313 = .ok (.goto (-36), 3) := by decide +kernel
theorem dL_same_316 : decode cL_same 316 = .ok (.iinc 5 1, 3) := by decide +kernel
theorem dL_same_319 : decode cL_same 319 = .ok (.goto (-98), 3) := by decide +kernel
theorem dL_same_322 : decode cL_same 322 = .ok (.iconst 0, 1) := by decide +kernel
theorem dL_same_323 : decode cL_same 323 = .ok (.istore 5, 2) := by decide +kernel
theorem dL_same_325 : decode cL_same 325 = .ok (.iload 5, 2) := by decide +kernel
theorem dL_same_327 : decode cL_same 327 = .ok (.bipush 6, 2) := by decide +kernel
theorem dL_same_329 : decode cL_same 329 = .ok (.if_icmp .ge 29, 3) := by decide +kernel
theorem dL_same_332 : decode cL_same 332 = .ok (.aload_n 2, 1) := by decide +kernel
theorem dL_same_333 : decode cL_same 333 = .ok (.iload 5, 2) := by decide +kernel
theorem dL_same_335 : decode cL_same 335 = .ok (.invokevirtual 169, 3) := by decide +kernel
theorem dL_same_338 : decode cL_same 338 = .ok (.i2l, 1) := by decide +kernel
theorem dL_same_339 : decode cL_same 339 = .ok (.aload_n 1, 1) := by decide +kernel
theorem dL_same_340 : decode cL_same 340 = .ok (.bipush 64, 2) := by decide +kernel
theorem dL_same_342 : decode cL_same 342 = .ok (.iload 5, 2) := by decide +kernel
theorem dL_same_344 : decode cL_same 344 = .ok (.iadd, 1) := by decide +kernel
theorem dL_same_345 : decode cL_same 345 = .ok (.laload, 1) := by decide +kernel
theorem dL_same_346 : decode cL_same 346 = .ok (.lcmp, 1) := by decide +kernel
theorem dL_same_347 : decode cL_same 347 = .ok (.ifCond .eq 5, 3) := by decide +kernel
theorem dL_same_350 : decode cL_same 350 = .ok (.iconst 0, 1) := by decide +kernel
theorem dL_same_351 : decode cL_same 351 = .ok (.ireturn, 1) := by decide +kernel
theorem dL_same_352 : decode cL_same 352 = .ok (.iinc 5 1, 3) := by decide +kernel
theorem dL_same_355 : decode cL_same 355 = .ok (.goto (-30), 3) := by decide +kernel
theorem dL_same_358 : decode cL_same 358 = .ok (.aload_n 2, 1) := by decide +kernel
theorem dL_same_359 : decode cL_same 359 = .ok (.bipush 6, 2) := by decide +kernel
theorem dL_same_361 : decode cL_same 361 = .ok (.invokevirtual 169, 3) := by decide +kernel
theorem dL_same_364 : decode cL_same 364 = .ok (.aload_n 1, 1) := by decide +kernel
theorem dL_same_365 : decode cL_same 365 = .ok (.invokestatic 146, 3) := by decide +kernel
theorem dL_same_368 : decode cL_same 368 = .ok (.if_icmp .ne 67, 3) := by decide +kernel
theorem dL_same_371 : decode cL_same 371 = .ok (.aload_n 2, 1) := by decide +kernel
theorem dL_same_372 : decode cL_same 372 = .ok (.bipush 7, 2) := by decide +kernel
theorem dL_same_374 : decode cL_same 374 = .ok (.invokevirtual 169, 3) := by decide +kernel
theorem dL_same_377 : decode cL_same 377 = .ok (.i2l, 1) := by decide +kernel
theorem dL_same_378 : decode cL_same 378 = .ok (.aload_n 1, 1) := by decide +kernel
theorem dL_same_379 : decode cL_same 379 = .ok (.invokestatic 172, 3) := by decide +kernel
theorem dL_same_382 : decode cL_same 382 = .ok (.lcmp, 1) := by decide +kernel
theorem dL_same_383 : decode cL_same 383 = .ok (.ifCond .ne 52, 3) := by decide +kernel
theorem dL_same_386 : decode cL_same 386 = .ok (.aload_n 2, 1) := by decide +kernel
theorem dL_same_387 : decode cL_same 387 = .ok (.iconst 0, 1) := by decide +kernel
theorem dL_same_388 : decode cL_same 388 = .ok (.invokevirtual 176, 3) := by decide +kernel
theorem dL_same_391 : decode cL_same 391 = .ok (.aload_n 0, 1) := by decide +kernel
theorem dL_same_392 : decode cL_same 392 = .ok (.invokestatic 44, 3) := by decide +kernel
theorem dL_same_395 : decode cL_same 395 = .ok (.if_icmp .ne 40, 3) := by decide +kernel
theorem dL_same_398 : decode cL_same 398 = .ok (.aload_n 2, 1) := by decide +kernel
theorem dL_same_399 : decode cL_same 399 = .ok (.iconst 1, 1) := by decide +kernel
theorem dL_same_400 : decode cL_same 400 = .ok (.invokevirtual 176, 3) := by decide +kernel
theorem dL_same_403 : decode cL_same 403 = .ok (.iload_n 3, 1) := by decide +kernel
theorem dL_same_404 : decode cL_same 404 = .ok (.if_icmp .ne 31, 3) := by decide +kernel
theorem dL_same_407 : decode cL_same 407 = .ok (.aload_n 2, 1) := by decide +kernel
theorem dL_same_408 : decode cL_same 408 = .ok (.iconst 2, 1) := by decide +kernel
theorem dL_same_409 : decode cL_same 409 = .ok (.invokevirtual 176, 3) := by decide +kernel
theorem dL_same_412 : decode cL_same 412 = .ok (.iload 4, 2) := by decide +kernel
theorem dL_same_414 : decode cL_same 414 = .ok (.if_icmp .ne 21, 3) := by decide +kernel
theorem dL_same_417 : decode cL_same 417 = .ok (.aload_n 2, 1) := by decide +kernel
theorem dL_same_418 : decode cL_same 418 = .ok (.iconst 3, 1) := by decide +kernel
theorem dL_same_419 : decode cL_same 419 = .ok (.invokevirtual 176, 3) := by decide +kernel
theorem dL_same_422 : decode cL_same 422 = .ok (.i2l, 1) := by decide +kernel
theorem dL_same_423 : decode cL_same 423 = .ok (.aload_n 1, 1) := by decide +kernel
theorem dL_same_424 : decode cL_same 424 = .ok (.bipush 70, 2) := by decide +kernel
theorem dL_same_426 : decode cL_same 426 = .ok (.laload, 1) := by decide +kernel
theorem dL_same_427 : decode cL_same 427 = .ok (.lcmp, 1) := by decide +kernel
theorem dL_same_428 : decode cL_same 428 = .ok (.ifCond .ne 7, 3) := by decide +kernel
theorem dL_same_431 : decode cL_same 431 = .ok (.iconst 1, 1) := by decide +kernel
theorem dL_same_432 : decode cL_same 432 = .ok (.goto 4, 3) := by decide +kernel
theorem dL_same_435 : decode cL_same 435 = .ok (.iconst 0, 1) := by decide +kernel
theorem dL_same_436 : decode cL_same 436 = .ok (.ireturn, 1) := by decide +kernel
theorem dL_law_0 : decode cL_law 0 = .ok (.aload_n 0, 1) := by decide +kernel
theorem dL_law_1 : decode cL_law 1 = .ok (.invokestatic 179, 3) := by decide +kernel
theorem dL_law_4 : decode cL_law 4 = .ok (.astore_n 1, 1) := by decide +kernel
theorem dL_law_5 : decode cL_law 5 = .ok (.bipush 110, 2) := by decide +kernel
theorem dL_law_7 : decode cL_law 7 = .ok (.newarray .long, 2) := by decide +kernel
theorem dL_law_9 : decode cL_law 9 = .ok (.astore_n 2, 1) := by decide +kernel
theorem dL_law_10 : decode cL_law 10 = .ok (.aload_n 0, 1) := by decide +kernel
theorem dL_law_11 : decode cL_law 11 = .ok (.invokestatic 44, 3) := by decide +kernel
theorem dL_law_14 : decode cL_law 14 = .ok (.istore_n 3, 1) := by decide +kernel
theorem dL_law_15 : decode cL_law 15 = .ok (.aload_n 0, 1) := by decide +kernel
theorem dL_law_16 : decode cL_law 16 = .ok (.aload_n 2, 1) := by decide +kernel
theorem dL_law_17 : decode cL_law 17 = .ok (.invokestatic 183, 3) := by decide +kernel
theorem dL_law_20 : decode cL_law 20 = .ok (.iconst 0, 1) := by decide +kernel
theorem dL_law_21 : decode cL_law 21 = .ok (.istore 4, 2) := by decide +kernel
theorem dL_law_23 : decode cL_law 23 = .ok (.iload 4, 2) := by decide +kernel
theorem dL_law_25 : decode cL_law 25 = .ok (.bipush 9, 2) := by decide +kernel
theorem dL_law_27 : decode cL_law 27 = .ok (.if_icmp .ge 29, 3) := by decide +kernel
theorem dL_law_30 : decode cL_law 30 = .ok (.aload_n 1, 1) := by decide +kernel
theorem dL_law_31 : decode cL_law 31 = .ok (.iload 4, 2) := by decide +kernel
theorem dL_law_33 : decode cL_law 33 = .ok (.iconst 1, 1) := by decide +kernel
theorem dL_law_34 : decode cL_law 34 = .ok (.invokevirtual 187, 3) := by decide +kernel
theorem dL_law_37 : decode cL_law 37 = .ok (.aload_n 1, 1) := by decide +kernel
theorem dL_law_38 : decode cL_law 38 = .ok (.iload 4, 2) := by decide +kernel
theorem dL_law_40 : decode cL_law 40 = .ok (.bipush 7, 2) := by decide +kernel
theorem dL_law_42 : decode cL_law 42 = .ok (.invokevirtual 190, 3) := by decide +kernel
theorem dL_law_45 : decode cL_law 45 = .ok (.if_icmp .ge 5, 3) := by decide +kernel
theorem dL_law_48 : decode cL_law 48 = .ok (.iconst 0, 1) := by decide +kernel
theorem dL_law_49 : decode cL_law 49 = .ok (.ireturn, 1) := by decide +kernel
theorem dL_law_50 : decode cL_law 50 = .ok (.iinc 4 4, 3) := by decide +kernel
theorem dL_law_53 : decode cL_law 53 = .ok (.goto (-30), 3) := by decide +kernel
theorem dL_law_56 : decode cL_law 56 = .ok (.iconst 0, 1) := by decide +kernel
theorem dL_law_57 : decode cL_law 57 = .ok (.istore 4, 2) := by decide +kernel
theorem dL_law_59 : decode cL_law 59 = .ok (.iload 4, 2) := by decide +kernel
theorem dL_law_61 : decode cL_law 61 = .ok (.bipush 80, 2) := by decide +kernel
theorem dL_law_63 : decode cL_law 63 = .ok (.if_icmp .ge 126, 3) := by decide +kernel
theorem dL_law_66 : decode cL_law 66 = .ok (.aload_n 1, 1) := by decide +kernel
theorem dL_law_67 : decode cL_law 67 = .ok (.iload 4, 2) := by decide +kernel
theorem dL_law_69 : decode cL_law 69 = .ok (.iconst 0, 1) := by decide +kernel
theorem dL_law_70 : decode cL_law 70 = .ok (.invokevirtual 193, 3) := by decide +kernel
theorem dL_law_73 : decode cL_law 73 = .ok (.istore 5, 2) := by decide +kernel
theorem dL_law_75 : decode cL_law 75 = .ok (.iconst 0, 1) := by decide +kernel
theorem dL_law_76 : decode cL_law 76 = .ok (.istore 6, 2) := by decide +kernel
theorem dL_law_78 : decode cL_law 78 = .ok (.iconst 0, 1) := by decide +kernel
theorem dL_law_79 : decode cL_law 79 = .ok (.istore 7, 2) := by decide +kernel
theorem dL_law_81 : decode cL_law 81 = .ok (.iconst 0, 1) := by decide +kernel
theorem dL_law_82 : decode cL_law 82 = .ok (.istore 8, 2) := by decide +kernel
theorem dL_law_84 : decode cL_law 84 = .ok (.iload 8, 2) := by decide +kernel
theorem dL_law_86 : decode cL_law 86 = .ok (.bipush 12, 2) := by decide +kernel
theorem dL_law_88 : decode cL_law 88 = .ok (.if_icmp .ge 59, 3) := by decide +kernel
theorem dL_law_91 : decode cL_law 91 = .ok (.iload 5, 2) := by decide +kernel
theorem dL_law_93 : decode cL_law 93 = .ok (.iload 8, 2) := by decide +kernel
theorem dL_law_95 : decode cL_law 95 = .ok (.ishr, 1) := by decide +kernel
theorem dL_law_96 : decode cL_law 96 = .ok (.iconst 1, 1) := by decide +kernel
theorem dL_law_97 : decode cL_law 97 = .ok (.iand, 1) := by decide +kernel
theorem dL_law_98 : decode cL_law 98 = .ok (.ifCond .ne 6, 3) := by decide +kernel
theorem dL_law_101 : decode cL_law 101 = .ok (.goto 40, 3) := by decide +kernel
theorem dL_law_104 : decode cL_law 104 = .ok (.aload_n 1, 1) := by decide +kernel
theorem dL_law_105 : decode cL_law 105 = .ok (.iload 8, 2) := by decide +kernel
theorem dL_law_107 : decode cL_law 107 = .ok (.iconst 3, 1) := by decide +kernel
theorem dL_law_108 : decode cL_law 108 = .ok (.invokevirtual 166, 3) := by decide +kernel
theorem dL_law_111 : decode cL_law 111 = .ok (.iconst 1, 1) := by decide +kernel
theorem dL_law_112 : decode cL_law 112 = .ok (.if_icmp .eq 5, 3) := by decide +kernel
theorem dL_law_115 : decode cL_law 115 = .ok (.iconst 0, 1) := by decide +kernel
theorem dL_law_116 : decode cL_law 116 = .ok (.ireturn, 1) := by decide +kernel
theorem dL_law_117 : decode cL_law 117 = .ok (.iload 6, 2) := by decide +kernel
theorem dL_law_119 : decode cL_law 119 = .ok (.aload_n 1, 1) := by decide +kernel
theorem dL_law_120 : decode cL_law 120 = .ok (.iload 8, 2) := by decide +kernel
theorem dL_law_122 : decode cL_law 122 = .ok (.iconst 2, 1) := by decide +kernel
theorem dL_law_123 : decode cL_law 123 = .ok (.invokevirtual 166, 3) := by decide +kernel
theorem dL_law_126 : decode cL_law 126 = .ok (.iadd, 1) := by decide +kernel
theorem dL_law_127 : decode cL_law 127 = .ok (.istore 6, 2) := by decide +kernel
theorem dL_law_129 : decode cL_law 129 = .ok (.iload 7, 2) := by decide +kernel
theorem dL_law_131 : decode cL_law 131 = .ok (.aload_n 1, 1) := by decide +kernel
theorem dL_law_132 : decode cL_law 132 = .ok (.iload 8, 2) := by decide +kernel
theorem dL_law_134 : decode cL_law 134 = .ok (.iconst 1, 1) := by decide +kernel
theorem dL_law_135 : decode cL_law 135 = .ok (.invokevirtual 166, 3) := by decide +kernel
theorem dL_law_138 : decode cL_law 138 = .ok (.iadd, 1) := by decide +kernel
theorem dL_law_139 : decode cL_law 139 = .ok (.istore 7, 2) := by decide +kernel
theorem dL_law_141 : decode cL_law 141 = .ok (.iinc 8 1, 3) := by decide +kernel
theorem dL_law_144 : decode cL_law 144 = .ok (.goto (-60), 3) := by decide +kernel
theorem dL_law_147 : decode cL_law 147 = .ok (.iload 6, 2) := by decide +kernel
theorem dL_law_149 : decode cL_law 149 = .ok (.iload 4, 2) := by decide +kernel
theorem dL_law_151 : decode cL_law 151 = .ok (.if_icmp .gt 30, 3) := by decide +kernel
theorem dL_law_154 : decode cL_law 154 = .ok (.iload 7, 2) := by decide +kernel
theorem dL_law_156 : decode cL_law 156 = .ok (.aload_n 1, 1) := by decide +kernel
theorem dL_law_157 : decode cL_law 157 = .ok (.iload 4, 2) := by decide +kernel
theorem dL_law_159 : decode cL_law 159 = .ok (.iconst 1, 1) := by decide +kernel
theorem dL_law_160 : decode cL_law 160 = .ok (.invokevirtual 193, 3) := by decide +kernel
theorem dL_law_163 : decode cL_law 163 = .ok (.if_icmp .ne 18, 3) := by decide +kernel
theorem dL_law_166 : decode cL_law 166 = .ok (.iload 7, 2) := by decide +kernel
theorem dL_law_168 : decode cL_law 168 = .ok (.aload_n 1, 1) := by decide +kernel
theorem dL_law_169 : decode cL_law 169 = .ok (.iload 4, 2) := by decide +kernel
theorem dL_law_171 : decode cL_law 171 = .ok (.bipush 20, 2) := by decide +kernel
theorem dL_law_173 : decode cL_law 173 = .ok (.iadd, 1) := by decide +kernel
theorem dL_law_174 : decode cL_law 174 = .ok (.iconst 1, 1) := by decide +kernel
theorem dL_law_175 : decode cL_law 175 = .ok (.invokevirtual 193, 3) := by decide +kernel
theorem dL_law_178 : decode cL_law 178 = .ok (.if_icmp .le 5, 3) := by decide +kernel
theorem dL_law_181 : decode cL_law 181 = .ok (.iconst 0, 1) := by decide +kernel
theorem dL_law_182 : decode cL_law 182 = .ok (.ireturn, 1) := by decide +kernel
theorem dL_law_183 : decode cL_law 183 = .ok (.iinc 4 20, 3) := by decide +kernel
theorem dL_law_186 : decode cL_law 186 = .ok (.goto (-127), 3) := by decide +kernel
theorem dL_law_189 : decode cL_law 189 = .ok (.iconst 0, 1) := by decide +kernel
theorem dL_law_190 : decode cL_law 190 = .ok (.istore 4, 2) := by decide +kernel
theorem dL_law_192 : decode cL_law 192 = .ok (.iload 4, 2) := by decide +kernel
theorem dL_law_194 : decode cL_law 194 = .ok (.iload_n 3, 1) := by decide +kernel
theorem dL_law_195 : decode cL_law 195 = .ok (.if_icmp .ge 108, 3) := by decide +kernel
theorem dL_law_198 : decode cL_law 198 = .ok (.iconst 0, 1) := by decide +kernel
theorem dL_law_199 : decode cL_law 199 = .ok (.istore 5, 2) := by decide +kernel
theorem dL_law_201 : decode cL_law 201 = .ok (.iload 5, 2) := by decide +kernel
theorem dL_law_203 : decode cL_law 203 = .ok (.bipush 12, 2) := by decide +kernel
theorem dL_law_205 : decode cL_law 205 = .ok (.if_icmp .ge 72, 3) := by decide +kernel
theorem dL_law_208 : decode cL_law 208 = .ok (.aload_n 1, 1) := by decide +kernel
theorem dL_law_209 : decode cL_law 209 = .ok (.iload 4, 2) := by decide +kernel
theorem dL_law_211 : decode cL_law 211 = .ok (.iconst 4, 1) := by decide +kernel
theorem dL_law_212 : decode cL_law 212 = .ok (.invokevirtual 154, 3) := by decide +kernel
theorem dL_law_215 : decode cL_law 215 = .ok (.iload 5, 2) := by decide +kernel
theorem dL_law_217 : decode cL_law 217 = .ok (.ishr, 1) := by decide +kernel
theorem dL_law_218 : decode cL_law 218 = .ok (.iconst 1, 1) := by decide +kernel
theorem dL_law_219 : decode cL_law 219 = .ok (.iand, 1) := by decide +kernel
theorem dL_law_220 : decode cL_law 220 = .ok (.iconst 1, 1) := by decide +kernel
theorem dL_law_221 : decode cL_law 221 = .ok (.if_icmp .ne 7, 3) := by decide +kernel
theorem dL_law_224 : decode cL_law 224 = .ok (.iconst 1, 1) := by decide +kernel
theorem dL_law_225 : decode cL_law 225 = .ok (.goto 4, 3) := by decide +kernel
theorem dL_law_228 : decode cL_law 228 = .ok (.iconst 0, 1) := by decide +kernel
theorem dL_law_229 : decode cL_law 229 = .ok (.istore 6, 2) := by decide +kernel
theorem dL_law_231 : decode cL_law 231 = .ok (.aload_n 1, 1) := by decide +kernel
theorem dL_law_232 : decode cL_law 232 = .ok (.iload 4, 2) := by decide +kernel
theorem dL_law_234 : decode cL_law 234 = .ok (.iload 5, 2) := by decide +kernel
theorem dL_law_236 : decode cL_law 236 = .ok (.iconst 0, 1) := by decide +kernel
theorem dL_law_237 : decode cL_law 237 = .ok (.invokevirtual 196, 3) := by decide +kernel
theorem dL_law_240 : decode cL_law 240 = .ok (.iload 6, 2) := by decide +kernel
theorem dL_law_242 : decode cL_law 242 = .ok (.ifCond .eq 23, 3) := by decide +kernel
theorem dL_law_245 : decode cL_law 245 = .ok (.aload_n 1, 1) := by decide +kernel
theorem dL_law_246 : decode cL_law 246 = .ok (.iload 4, 2) := by decide +kernel
theorem dL_law_248 : decode cL_law 248 = .ok (.iconst 0, 1) := by decide +kernel
theorem dL_law_249 : decode cL_law 249 = .ok (.invokevirtual 154, 3) := by decide +kernel
theorem dL_law_252 : decode cL_law 252 = .ok (.aload_n 1, 1) := by decide +kernel
theorem dL_law_253 : decode cL_law 253 = .ok (.iload 4, 2) := by decide +kernel
theorem dL_law_255 : decode cL_law 255 = .ok (.iload 5, 2) := by decide +kernel
theorem dL_law_257 : decode cL_law 257 = .ok (.iconst 1, 1) := by decide +kernel
theorem dL_law_258 : decode cL_law 258 = .ok (.invokevirtual 163, 3) := by decide +kernel
theorem dL_law_261 : decode cL_law 261 = .ok (.isub, 1) := by decide +kernel
theorem dL_law_262 : decode cL_law 262 = .ok (.goto 4, 3) := by decide +kernel
theorem dL_law_265 : decode cL_law 265 = .ok (.iconst (-1), 1) := by decide +kernel
theorem dL_law_266 : decode cL_law 266 = .ok (.if_icmp .eq 5, 3) := by decide +kernel
theorem dL_law_269 : decode cL_law 269 = .ok (.iconst 0, 1) := by decide +kernel
theorem dL_law_270 : decode cL_law 270 = .ok (.ireturn, 1) := by decide +kernel
theorem dL_law_271 : decode cL_law 271 = .ok (.iinc 5 1, 3) := by decide +kernel
theorem dL_law_274 : decode cL_law 274 = .ok (.goto (-73), 3) := by decide +kernel
theorem dL_law_277 : decode cL_law 277 = .ok (.aload_n 1, 1) := by decide +kernel
theorem dL_law_278 : decode cL_law 278 = .ok (.iconst 1, 1) := by decide +kernel
theorem dL_law_279 : decode cL_law 279 = .ok (.invokevirtual 199, 3) := by decide +kernel
theorem dL_law_282 : decode cL_law 282 = .ok (.aload_n 1, 1) := by decide +kernel
theorem dL_law_283 : decode cL_law 283 = .ok (.iload 4, 2) := by decide +kernel
theorem dL_law_285 : decode cL_law 285 = .ok (.iconst 4, 1) := by decide +kernel
theorem dL_law_286 : decode cL_law 286 = .ok (.invokevirtual 154, 3) := by decide +kernel
theorem dL_law_289 : decode cL_law 289 = .ok (.invokestatic 202, 3) := by decide +kernel
theorem dL_law_292 : decode cL_law 292 = .ok (.if_icmp .ge 5, 3) := by decide +kernel
theorem dL_law_295 : decode cL_law 295 = .ok (.iconst 0, 1) := by decide +kernel
theorem dL_law_296 : decode cL_law 296 = .ok (.ireturn, 1) := by decide +kernel
theorem dL_law_297 : decode cL_law 297 = .ok (.iinc 4 1, 3) := by decide +kernel
theorem dL_law_300 : decode cL_law 300 = .ok (.goto (-108), 3) := by decide +kernel
theorem dL_law_303 : decode cL_law 303 = .ok (.iconst 0, 1) := by decide +kernel
theorem dL_law_304 : decode cL_law 304 = .ok (.istore 4, 2) := by decide +kernel
theorem dL_law_306 : decode cL_law 306 = .ok (.iload 4, 2) := by decide +kernel
theorem dL_law_308 : decode cL_law 308 = .ok (.bipush 6, 2) := by decide +kernel
theorem dL_law_310 : decode cL_law 310 = .ok (.if_icmp .ge 168, 3) := by decide +kernel
theorem dL_law_313 : decode cL_law 313 = .ok (.aload_n 0, 1) := by decide +kernel
theorem dL_law_314 : decode cL_law 314 = .ok (.aload_n 2, 1) := by decide +kernel
theorem dL_law_315 : decode cL_law 315 = .ok (.aload_n 1, 1) := by decide +kernel
theorem dL_law_316 : decode cL_law 316 = .ok (.invokestatic 207, 3) := by decide +kernel
theorem dL_law_319 : decode cL_law 319 = .ok (.ifCond .ne 5, 3) := by decide +kernel
theorem dL_law_322 : decode cL_law 322 = .ok (.iconst 0, 1) := by decide +kernel
theorem dL_law_323 : decode cL_law 323 = .ok (.ireturn, 1) := by decide +kernel
theorem dL_law_324 : decode cL_law 324 = .ok (.aload_n 0, 1) := by decide +kernel
theorem dL_law_325 : decode cL_law 325 = .ok (.bipush 12, 2) := by decide +kernel
theorem dL_law_327 : decode cL_law 327 = .ok (.invokestatic 72, 3) := by decide +kernel
theorem dL_law_330 : decode cL_law 330 = .ok (.iconst 5, 1) := by decide +kernel
theorem dL_law_331 : decode cL_law 331 = .ok (.iload 4, 2) := by decide +kernel
theorem dL_law_333 : decode cL_law 333 = .ok (.imul, 1) := by decide +kernel
theorem dL_law_334 : decode cL_law 334 = .ok (.ishr, 1) := by decide +kernel
theorem dL_law_335 : decode cL_law 335 = .ok (.istore 5, 2) := by decide +kernel
theorem dL_law_337 : decode cL_law 337 = .ok (.iload 5, 2) := by decide +kernel
theorem dL_law_339 : decode cL_law 339 = .ok (.iconst 3, 1) := by decide +kernel
theorem dL_law_340 : decode cL_law 340 = .ok (.iand, 1) := by decide +kernel
theorem dL_law_341 : decode cL_law 341 = .ok (.iload_n 3, 1) := by decide +kernel
theorem dL_law_342 : decode cL_law 342 = .ok (.irem, 1) := by decide +kernel
theorem dL_law_343 : decode cL_law 343 = .ok (.istore 6, 2) := by decide +kernel
theorem dL_law_345 : decode cL_law 345 = .ok (.iload 5, 2) := by decide +kernel
theorem dL_law_347 : decode cL_law 347 = .ok (.iconst 1, 1) := by decide +kernel
theorem dL_law_348 : decode cL_law 348 = .ok (.ishr, 1) := by decide +kernel
theorem dL_law_349 : decode cL_law 349 = .ok (.bipush 15, 2) := by decide +kernel
theorem dL_law_351 : decode cL_law 351 = .ok (.iand, 1) := by decide +kernel
theorem dL_law_352 : decode cL_law 352 = .ok (.bipush 12, 2) := by decide +kernel
theorem dL_law_354 : decode cL_law 354 = .ok (.irem, 1) := by decide +kernel
theorem dL_law_355 : decode cL_law 355 = .ok (.istore 7, 2) := by decide +kernel
theorem dL_law_357 : decode cL_law 357 = .ok (.aload_n 1, 1) := by decide +kernel
theorem dL_law_358 : decode cL_law 358 = .ok (.iload 6, 2) := by decide +kernel
theorem dL_law_360 : decode cL_law 360 = .ok (.iload 7, 2) := by decide +kernel
theorem dL_law_362 : decode cL_law 362 = .ok (.invokevirtual 211, 3) := by decide +kernel
theorem dL_law_365 : decode cL_law 365 = .ok (.i2l, 1) := by decide +kernel
theorem dL_law_366 : decode cL_law 366 = .ok (.aload_n 0, 1) := by decide +kernel
theorem dL_law_367 : decode cL_law 367 = .ok (.aload_n 2, 1) := by decide +kernel
theorem dL_law_368 : decode cL_law 368 = .ok (.iload 6, 2) := by decide +kernel
theorem dL_law_370 : decode cL_law 370 = .ok (.iload 7, 2) := by decide +kernel
theorem dL_law_372 : decode cL_law 372 = .ok (.invokestatic 214, 3) := by decide +kernel
theorem dL_law_375 : decode cL_law 375 = .ok (.ifCond .eq 12, 3) := by decide +kernel
theorem dL_law_378 : decode cL_law 378 = .ok (.aload_n 2, 1) := by decide +kernel
theorem dL_law_379 : decode cL_law 379 = .ok (.iconst 2, 1) := by decide +kernel
theorem dL_law_380 : decode cL_law 380 = .ok (.iload 6, 2) := by decide +kernel
theorem dL_law_382 : decode cL_law 382 = .ok (.imul, 1) := by decide +kernel
theorem dL_law_383 : decode cL_law 383 = .ok (.laload, 1) := by decide +kernel
theorem dL_law_384 : decode cL_law 384 = .ok (.goto 6, 3) := by decide +kernel
theorem dL_law_387 : decode cL_law 387 = .ok (.ldc2_w 216, 3) := by decide +kernel
theorem dL_law_390 : decode cL_law 390 = .ok (.lcmp, 1) := by decide +kernel
theorem dL_law_391 : decode cL_law 391 = .ok (.ifCond .eq 5, 3) := by decide +kernel
theorem dL_law_394 : decode cL_law 394 = .ok (.iconst 0, 1) := by decide +kernel
theorem dL_law_395 : decode cL_law 395 = .ok (.ireturn, 1) := by decide +kernel
theorem dL_law_396 : decode cL_law 396 = .ok (.iload 5, 2) := by decide +kernel
theorem dL_law_398 : decode cL_law 398 = .ok (.bipush 15, 2) := by decide +kernel
theorem dL_law_400 : decode cL_law 400 = .ok (.iand, 1) := by decide +kernel
theorem dL_law_401 : decode cL_law 401 = .ok (.bipush 12, 2) := by decide +kernel
theorem dL_law_403 : decode cL_law 403 = .ok (.irem, 1) := by decide +kernel
theorem dL_law_404 : decode cL_law 404 = .ok (.istore 7, 2) := by decide +kernel
theorem dL_law_406 : decode cL_law 406 = .ok (.aload_n 1, 1) := by decide +kernel
theorem dL_law_407 : decode cL_law 407 = .ok (.iload 7, 2) := by decide +kernel
theorem dL_law_409 : decode cL_law 409 = .ok (.invokevirtual 218, 3) := by decide +kernel
theorem dL_law_412 : decode cL_law 412 = .ok (.i2l, 1) := by decide +kernel
theorem dL_law_413 : decode cL_law 413 = .ok (.aload_n 2, 1) := by decide +kernel
theorem dL_law_414 : decode cL_law 414 = .ok (.iload 7, 2) := by decide +kernel
theorem dL_law_416 : decode cL_law 416 = .ok (.invokestatic 221, 3) := by decide +kernel
theorem dL_law_419 : decode cL_law 419 = .ok (.ifCond .eq 21, 3) := by decide +kernel
theorem dL_law_422 : decode cL_law 422 = .ok (.aload_n 2, 1) := by decide +kernel
theorem dL_law_423 : decode cL_law 423 = .ok (.bipush 64, 2) := by decide +kernel
theorem dL_law_425 : decode cL_law 425 = .ok (.aload_n 2, 1) := by decide +kernel
theorem dL_law_426 : decode cL_law 426 = .ok (.bipush 16, 2) := by decide +kernel
theorem dL_law_428 : decode cL_law 428 = .ok (.iconst 4, 1) := by decide +kernel
theorem dL_law_429 : decode cL_law 429 = .ok (.iload 7, 2) := by decide +kernel
theorem dL_law_431 : decode cL_law 431 = .ok (.imul, 1) := by decide +kernel
theorem dL_law_432 : decode cL_law 432 = .ok (.iadd, 1) := by decide +kernel
theorem dL_law_433 : decode cL_law 433 = .ok (.laload, 1) := by decide +kernel
theorem dL_law_434 : decode cL_law 434 = .ok (.l2i, 1) := by decide +kernel
theorem dL_law_435 : decode cL_law 435 = .ok (.iadd, 1) := by decide +kernel
theorem dL_law_436 : decode cL_law 436 = .ok (.laload, 1) := by decide +kernel
theorem dL_law_437 : decode cL_law 437 = .ok (.goto 6, 3) := by decide +kernel
theorem dL_law_440 : decode cL_law 440 = .ok (.ldc2_w 216, 3) := by decide +kernel
theorem dL_law_443 : decode cL_law 443 = .ok (.lcmp, 1) := by decide +kernel
theorem dL_law_444 : decode cL_law 444 = .ok (.ifCond .eq 5, 3) := by decide +kernel
theorem dL_law_447 : decode cL_law 447 = .ok (.iconst 0, 1) := by decide +kernel
theorem dL_law_448 : decode cL_law 448 = .ok (.ireturn, 1) := by decide +kernel
theorem dL_law_449 : decode cL_law 449 = .ok (.aload_n 0, 1) := by decide +kernel
theorem dL_law_450 : decode cL_law 450 = .ok (.aload_n 2, 1) := by decide +kernel
theorem dL_law_451 : decode cL_law 451 = .ok (.aload_n 1, 1) := by decide +kernel
theorem dL_law_452 : decode cL_law 452 = .ok (.invokestatic 207, 3) := by decide +kernel
theorem dL_law_455 : decode cL_law 455 = .ok (.ifCond .eq 15, 3) := by decide +kernel
theorem dL_law_458 : decode cL_law 458 = .ok (.aload_n 1, 1) := by decide +kernel
theorem dL_law_459 : decode cL_law 459 = .ok (.invokevirtual 224, 3) := by decide +kernel
theorem dL_law_462 : decode cL_law 462 = .ok (.aload_n 0, 1) := by decide +kernel
theorem dL_law_463 : decode cL_law 463 = .ok (.aload_n 2, 1) := by decide +kernel
theorem dL_law_464 : decode cL_law 464 = .ok (.invokestatic 150, 3) := by decide +kernel
theorem dL_law_467 : decode cL_law 467 = .ok (.if_icmp .eq 5, 3) := by decide +kernel
theorem dL_law_470 : decode cL_law 470 = .ok (.iconst 0, 1) := by decide +kernel
theorem dL_law_471 : decode cL_law 471 = .ok (.ireturn, 1) := by decide +kernel
theorem dL_law_472 : decode cL_law 472 = .ok (.iinc 4 1, 3) := by decide +kernel
theorem dL_law_475 : decode cL_law 475 = .ok (.goto (-169), 3) := by decide +kernel
theorem dL_law_478 : decode cL_law 478 = .ok (.aload_n 0, 1) := by decide +kernel
theorem dL_law_479 : decode cL_law 479 = .ok (.aload_n 2, 1) := by decide +kernel
theorem dL_law_480 : decode cL_law 480 = .ok (.aload_n 1, 1) := by decide +kernel
theorem dL_law_481 : decode cL_law 481 = .ok (.invokestatic 207, 3) := by decide +kernel
theorem dL_law_484 : decode cL_law 484 = .ok (.ifCond .eq 286, 3) := by decide +kernel
theorem dL_law_487 : decode cL_law 487 = .ok (.aload_n 1, 1) := by decide +kernel
theorem dL_law_488 : decode cL_law 488 = .ok (.bipush 6, 2) := by decide +kernel
theorem dL_law_490 : decode cL_law 490 = .ok (.iconst 0, 1) := by decide +kernel
theorem dL_law_491 : decode cL_law 491 = .ok (.invokevirtual 211, 3) := by decide +kernel
theorem dL_law_494 : decode cL_law 494 = .ok (.bipush (-5), 2) := by decide +kernel
theorem dL_law_496 : decode cL_law 496 = .ok (.if_icmp .ne 274, 3) := by decide +kernel
theorem dL_law_499 : decode cL_law 499 = .ok (.aload_n 1, 1) := by decide +kernel
theorem dL_law_500 : decode cL_law 500 = .ok (.iconst 0, 1) := by decide +kernel
theorem dL_law_501 : decode cL_law 501 = .ok (.bipush 12, 2) := by decide +kernel
theorem dL_law_503 : decode cL_law 503 = .ok (.invokevirtual 211, 3) := by decide +kernel
theorem dL_law_506 : decode cL_law 506 = .ok (.bipush (-6), 2) := by decide +kernel
theorem dL_law_508 : decode cL_law 508 = .ok (.if_icmp .ne 262, 3) := by decide +kernel
theorem dL_law_511 : decode cL_law 511 = .ok (.aload_n 1, 1) := by decide +kernel
theorem dL_law_512 : decode cL_law 512 = .ok (.bipush 12, 2) := by decide +kernel
theorem dL_law_514 : decode cL_law 514 = .ok (.invokevirtual 218, 3) := by decide +kernel
theorem dL_law_517 : decode cL_law 517 = .ok (.bipush (-6), 2) := by decide +kernel
theorem dL_law_519 : decode cL_law 519 = .ok (.if_icmp .ne 251, 3) := by decide +kernel
theorem dL_law_522 : decode cL_law 522 = .ok (.aload_n 1, 1) := by decide +kernel
theorem dL_law_523 : decode cL_law 523 = .ok (.iconst (-1), 1) := by decide +kernel
theorem dL_law_524 : decode cL_law 524 = .ok (.invokevirtual 218, 3) := by decide +kernel
theorem dL_law_527 : decode cL_law 527 = .ok (.bipush (-6), 2) := by decide +kernel
theorem dL_law_529 : decode cL_law 529 = .ok (.if_icmp .ne 241, 3) := by decide +kernel
theorem dL_law_532 : decode cL_law 532 = .ok (.aload_n 1, 1) := by decide +kernel
theorem dL_law_533 : decode cL_law 533 = .ok (.bipush 12, 2) := by decide +kernel
theorem dL_law_535 : decode cL_law 535 = .ok (.iconst 0, 1) := by decide +kernel
theorem dL_law_536 : decode cL_law 536 = .ok (.iconst 0, 1) := by decide +kernel
theorem dL_law_537 : decode cL_law 537 = .ok (.invokevirtual 41, 3) := by decide +kernel
theorem dL_law_540 : decode cL_law 540 = .ok (.bipush (-5), 2) := by decide +kernel
theorem dL_law_542 : decode cL_law 542 = .ok (.if_icmp .ne 228, 3) := by decide +kernel
theorem dL_law_545 : decode cL_law 545 = .ok (.aload_n 1, 1) := by decide +kernel
theorem dL_law_546 : decode cL_law 546 = .ok (.iconst 0, 1) := by decide +kernel
theorem dL_law_547 : decode cL_law 547 = .ok (.iconst 4, 1) := by decide +kernel
theorem dL_law_548 : decode cL_law 548 = .ok (.iconst 0, 1) := by decide +kernel
theorem dL_law_549 : decode cL_law 549 = .ok (.invokevirtual 41, 3) := by decide +kernel
theorem dL_law_552 : decode cL_law 552 = .ok (.bipush (-7), 2) := by decide +kernel
theorem dL_law_554 : decode cL_law 554 = .ok (.if_icmp .ne 216, 3) := by decide +kernel
theorem dL_law_557 : decode cL_law 557 = .ok (.aload_n 1, 1) := by decide +kernel
theorem dL_law_558 : decode cL_law 558 = .ok (.iconst 0, 1) := by decide +kernel
theorem dL_law_559 : decode cL_law 559 = .ok (.iconst 0, 1) := by decide +kernel
theorem dL_law_560 : decode cL_law 560 = .ok (.bipush 6, 2) := by decide +kernel
theorem dL_law_562 : decode cL_law 562 = .ok (.invokevirtual 41, 3) := by decide +kernel
theorem dL_law_565 : decode cL_law 565 = .ok (.bipush (-7), 2) := by decide +kernel
theorem dL_law_567 : decode cL_law 567 = .ok (.if_icmp .ne 203, 3) := by decide +kernel
theorem dL_law_570 : decode cL_law 570 = .ok (.aload_n 1, 1) := by decide +kernel
theorem dL_law_571 : decode cL_law 571 = .ok (.iconst 0, 1) := by decide +kernel
theorem dL_law_572 : decode cL_law 572 = .ok (.iconst 1, 1) := by decide +kernel
theorem dL_law_573 : decode cL_law 573 = .ok (.bipush 100, 2) := by decide +kernel
theorem dL_law_575 : decode cL_law 575 = .ok (.invokevirtual 41, 3) := by decide +kernel
theorem dL_law_578 : decode cL_law 578 = .ok (.bipush (-7), 2) := by decide +kernel
theorem dL_law_580 : decode cL_law 580 = .ok (.if_icmp .ne 190, 3) := by decide +kernel
theorem dL_law_583 : decode cL_law 583 = .ok (.aload_n 1, 1) := by decide +kernel
theorem dL_law_584 : decode cL_law 584 = .ok (.iconst 0, 1) := by decide +kernel
theorem dL_law_585 : decode cL_law 585 = .ok (.iconst 2, 1) := by decide +kernel
theorem dL_law_586 : decode cL_law 586 = .ok (.iconst (-1), 1) := by decide +kernel
theorem dL_law_587 : decode cL_law 587 = .ok (.invokevirtual 41, 3) := by decide +kernel
theorem dL_law_590 : decode cL_law 590 = .ok (.bipush (-7), 2) := by decide +kernel
theorem dL_law_592 : decode cL_law 592 = .ok (.if_icmp .ne 178, 3) := by decide +kernel
theorem dL_law_595 : decode cL_law 595 = .ok (.aload_n 1, 1) := by decide +kernel
theorem dL_law_596 : decode cL_law 596 = .ok (.iconst 0, 1) := by decide +kernel
theorem dL_law_597 : decode cL_law 597 = .ok (.iconst 3, 1) := by decide +kernel
theorem dL_law_598 : decode cL_law 598 = .ok (.iconst 3, 1) := by decide +kernel
theorem dL_law_599 : decode cL_law 599 = .ok (.invokevirtual 41, 3) := by decide +kernel
theorem dL_law_602 : decode cL_law 602 = .ok (.bipush (-7), 2) := by decide +kernel
theorem dL_law_604 : decode cL_law 604 = .ok (.if_icmp .ne 166, 3) := by decide +kernel
theorem dL_law_607 : decode cL_law 607 = .ok (.aload_n 1, 1) := by decide +kernel
theorem dL_law_608 : decode cL_law 608 = .ok (.bipush 12, 2) := by decide +kernel
theorem dL_law_610 : decode cL_law 610 = .ok (.iconst 0, 1) := by decide +kernel
theorem dL_law_611 : decode cL_law 611 = .ok (.invokevirtual 166, 3) := by decide +kernel
theorem dL_law_614 : decode cL_law 614 = .ok (.bipush (-5), 2) := by decide +kernel
theorem dL_law_616 : decode cL_law 616 = .ok (.if_icmp .ne 154, 3) := by decide +kernel
theorem dL_law_619 : decode cL_law 619 = .ok (.aload_n 1, 1) := by decide +kernel
theorem dL_law_620 : decode cL_law 620 = .ok (.iconst 0, 1) := by decide +kernel
theorem dL_law_621 : decode cL_law 621 = .ok (.iconst 4, 1) := by decide +kernel
theorem dL_law_622 : decode cL_law 622 = .ok (.invokevirtual 166, 3) := by decide +kernel
theorem dL_law_625 : decode cL_law 625 = .ok (.bipush (-7), 2) := by decide +kernel
theorem dL_law_627 : decode cL_law 627 = .ok (.if_icmp .ne 143, 3) := by decide +kernel
theorem dL_law_630 : decode cL_law 630 = .ok (.aload_n 1, 1) := by decide +kernel
theorem dL_law_631 : decode cL_law 631 = .ok (.bipush 7, 2) := by decide +kernel
theorem dL_law_633 : decode cL_law 633 = .ok (.iconst 0, 1) := by decide +kernel
theorem dL_law_634 : decode cL_law 634 = .ok (.invokevirtual 30, 3) := by decide +kernel
theorem dL_law_637 : decode cL_law 637 = .ok (.bipush (-5), 2) := by decide +kernel
theorem dL_law_639 : decode cL_law 639 = .ok (.if_icmp .ne 131, 3) := by decide +kernel
theorem dL_law_642 : decode cL_law 642 = .ok (.aload_n 1, 1) := by decide +kernel
theorem dL_law_643 : decode cL_law 643 = .ok (.iconst 0, 1) := by decide +kernel
theorem dL_law_644 : decode cL_law 644 = .ok (.bipush 100, 2) := by decide +kernel
theorem dL_law_646 : decode cL_law 646 = .ok (.invokevirtual 30, 3) := by decide +kernel
theorem dL_law_649 : decode cL_law 649 = .ok (.bipush (-7), 2) := by decide +kernel
theorem dL_law_651 : decode cL_law 651 = .ok (.if_icmp .ne 119, 3) := by decide +kernel
theorem dL_law_654 : decode cL_law 654 = .ok (.aload_n 1, 1) := by decide +kernel
theorem dL_law_655 : decode cL_law 655 = .ok (.bipush 6, 2) := by decide +kernel
theorem dL_law_657 : decode cL_law 657 = .ok (.sipush 1000, 3) := by decide +kernel
theorem dL_law_660 : decode cL_law 660 = .ok (.invokevirtual 30, 3) := by decide +kernel
theorem dL_law_663 : decode cL_law 663 = .ok (.bipush (-7), 2) := by decide +kernel
theorem dL_law_665 : decode cL_law 665 = .ok (.if_icmp .ne 105, 3) := by decide +kernel
theorem dL_law_668 : decode cL_law 668 = .ok (.aload_n 1, 1) := by decide +kernel
theorem dL_law_669 : decode cL_law 669 = .ok (.bipush 6, 2) := by decide +kernel
theorem dL_law_671 : decode cL_law 671 = .ok (.iconst 0, 1) := by decide +kernel
theorem dL_law_672 : decode cL_law 672 = .ok (.invokevirtual 226, 3) := by decide +kernel
theorem dL_law_675 : decode cL_law 675 = .ok (.bipush (-5), 2) := by decide +kernel
theorem dL_law_677 : decode cL_law 677 = .ok (.if_icmp .ne 93, 3) := by decide +kernel
theorem dL_law_680 : decode cL_law 680 = .ok (.aload_n 1, 1) := by decide +kernel
theorem dL_law_681 : decode cL_law 681 = .ok (.iconst 0, 1) := by decide +kernel
theorem dL_law_682 : decode cL_law 682 = .ok (.bipush 100, 2) := by decide +kernel
theorem dL_law_684 : decode cL_law 684 = .ok (.invokevirtual 226, 3) := by decide +kernel
theorem dL_law_687 : decode cL_law 687 = .ok (.bipush (-7), 2) := by decide +kernel
theorem dL_law_689 : decode cL_law 689 = .ok (.if_icmp .ne 81, 3) := by decide +kernel
theorem dL_law_692 : decode cL_law 692 = .ok (.aload_n 1, 1) := by decide +kernel
theorem dL_law_693 : decode cL_law 693 = .ok (.bipush 6, 2) := by decide +kernel
theorem dL_law_695 : decode cL_law 695 = .ok (.iconst 0, 1) := by decide +kernel
theorem dL_law_696 : decode cL_law 696 = .ok (.invokevirtual 154, 3) := by decide +kernel
theorem dL_law_699 : decode cL_law 699 = .ok (.bipush (-5), 2) := by decide +kernel
theorem dL_law_701 : decode cL_law 701 = .ok (.if_icmp .ne 69, 3) := by decide +kernel
theorem dL_law_704 : decode cL_law 704 = .ok (.aload_n 1, 1) := by decide +kernel
theorem dL_law_705 : decode cL_law 705 = .ok (.iconst 0, 1) := by decide +kernel
theorem dL_law_706 : decode cL_law 706 = .ok (.bipush 6, 2) := by decide +kernel
theorem dL_law_708 : decode cL_law 708 = .ok (.invokevirtual 154, 3) := by decide +kernel
theorem dL_law_711 : decode cL_law 711 = .ok (.bipush (-7), 2) := by decide +kernel
theorem dL_law_713 : decode cL_law 713 = .ok (.if_icmp .ne 57, 3) := by decide +kernel
theorem dL_law_716 : decode cL_law 716 = .ok (.aload_n 1, 1) := by decide +kernel
theorem dL_law_717 : decode cL_law 717 = .ok (.bipush 6, 2) := by decide +kernel
theorem dL_law_719 : decode cL_law 719 = .ok (.iconst 0, 1) := by decide +kernel
theorem dL_law_720 : decode cL_law 720 = .ok (.iconst 0, 1) := by decide +kernel
theorem dL_law_721 : decode cL_law 721 = .ok (.invokevirtual 163, 3) := by decide +kernel
theorem dL_law_724 : decode cL_law 724 = .ok (.bipush (-5), 2) := by decide +kernel
theorem dL_law_726 : decode cL_law 726 = .ok (.if_icmp .ne 44, 3) := by decide +kernel
theorem dL_law_729 : decode cL_law 729 = .ok (.aload_n 1, 1) := by decide +kernel
theorem dL_law_730 : decode cL_law 730 = .ok (.iconst 0, 1) := by decide +kernel
theorem dL_law_731 : decode cL_law 731 = .ok (.bipush 12, 2) := by decide +kernel
theorem dL_law_733 : decode cL_law 733 = .ok (.iconst 0, 1) := by decide +kernel
theorem dL_law_734 : decode cL_law 734 = .ok (.invokevirtual 163, 3) := by decide +kernel
theorem dL_law_737 : decode cL_law 737 = .ok (.bipush (-5), 2) := by decide +kernel
theorem dL_law_739 : decode cL_law 739 = .ok (.if_icmp .ne 31, 3) := by decide +kernel
theorem dL_law_742 : decode cL_law 742 = .ok (.aload_n 1, 1) := by decide +kernel
theorem dL_law_743 : decode cL_law 743 = .ok (.iconst 0, 1) := by decide +kernel
theorem dL_law_744 : decode cL_law 744 = .ok (.iconst 0, 1) := by decide +kernel
theorem dL_law_745 : decode cL_law 745 = .ok (.iconst 3, 1) := by decide +kernel
theorem dL_law_746 : decode cL_law 746 = .ok (.invokevirtual 163, 3) := by decide +kernel
theorem dL_law_749 : decode cL_law 749 = .ok (.bipush (-7), 2) := by decide +kernel
theorem dL_law_751 : decode cL_law 751 = .ok (.if_icmp .ne 19, 3) := by decide +kernel
theorem dL_law_754 : decode cL_law 754 = .ok (.aload_n 1, 1) := by decide +kernel
theorem dL_law_755 : decode cL_law 755 = .ok (.bipush 8, 2) := by decide +kernel
theorem dL_law_757 : decode cL_law 757 = .ok (.invokevirtual 169, 3) := by decide +kernel
theorem dL_law_760 : decode cL_law 760 = .ok (.sipush (-1000), 3) := by decide +kernel
theorem dL_law_763 : decode cL_law 763 = .ok (.if_icmp .ne 7, 3) := by decide +kernel
theorem dL_law_766 : decode cL_law 766 = .ok (.iconst 1, 1) := by decide +kernel
theorem dL_law_767 : decode cL_law 767 = .ok (.goto 4, 3) := by decide +kernel
theorem dL_law_770 : decode cL_law 770 = .ok (.iconst 0, 1) := by decide +kernel
theorem dL_law_771 : decode cL_law 771 = .ok (.ireturn, 1) := by decide +kernel
