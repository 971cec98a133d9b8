theorem dX6_init_0 : decode cX6_init 0 = .ok (.aload_n 0, 1) := by decide +kernel
theorem dX6_init_1 : decode cX6_init 1 = .ok (.invokespecial 1, 3) := by decide +kernel
theorem dX6_init_4 : decode cX6_init 4 = .ok (.aload_n 0, 1) := by decide +kernel
theorem dX6_init_5 : decode cX6_init 5 = .ok (.bipush 6, 2) := by decide +kernel
theorem dX6_init_7 : decode cX6_init 7 = .ok (.newarray .int, 2) := by decide +kernel
theorem dX6_init_9 : decode cX6_init 9 = .ok (.putfield 7, 3) := by decide +kernel
theorem dX6_init_12 : decode cX6_init 12 = .ok (.aload_n 0, 1) := by decide +kernel
theorem dX6_init_13 : decode cX6_init 13 = .ok (.bipush 6, 2) := by decide +kernel
theorem dX6_init_15 : decode cX6_init 15 = .ok (.newarray .int, 2) := by decide +kernel
theorem dX6_init_17 : decode cX6_init 17 = .ok (.putfield 13, 3) := by decide +kernel
theorem dX6_init_20 : decode cX6_init 20 = .ok (.aload_n 0, 1) := by decide +kernel
theorem dX6_init_21 : decode cX6_init 21 = .ok (.bipush 12, 2) := by decide +kernel
theorem dX6_init_23 : decode cX6_init 23 = .ok (.newarray .int, 2) := by decide +kernel
theorem dX6_init_25 : decode cX6_init 25 = .ok (.putfield 16, 3) := by decide +kernel
theorem dX6_init_28 : decode cX6_init 28 = .ok (.aload_n 0, 1) := by decide +kernel
theorem dX6_init_29 : decode cX6_init 29 = .ok (.bipush 48, 2) := by decide +kernel
theorem dX6_init_31 : decode cX6_init 31 = .ok (.newarray .int, 2) := by decide +kernel
theorem dX6_init_33 : decode cX6_init 33 = .ok (.dup, 1) := by decide +kernel
theorem dX6_init_34 : decode cX6_init 34 = .ok (.iconst 0, 1) := by decide +kernel
theorem dX6_init_35 : decode cX6_init 35 = .ok (.iconst 0, 1) := by decide +kernel
theorem dX6_init_36 : decode cX6_init 36 = .ok (.iastore, 1) := by decide +kernel
theorem dX6_init_37 : decode cX6_init 37 = .ok (.dup, 1) := by decide +kernel
theorem dX6_init_38 : decode cX6_init 38 = .ok (.iconst 1, 1) := by decide +kernel
theorem dX6_init_39 : decode cX6_init 39 = .ok (.bipush 20, 2) := by decide +kernel
theorem dX6_init_41 : decode cX6_init 41 = .ok (.iastore, 1) := by decide +kernel
theorem dX6_init_42 : decode cX6_init 42 = .ok (.dup, 1) := by decide +kernel
theorem dX6_init_43 : decode cX6_init 43 = .ok (.iconst 2, 1) := by decide +kernel
theorem dX6_init_44 : decode cX6_init 44 = .ok (.iconst 0, 1) := by decide +kernel
theorem dX6_init_45 : decode cX6_init 45 = .ok (.iastore, 1) := by decide +kernel
theorem dX6_init_46 : decode cX6_init 46 = .ok (.dup, 1) := by decide +kernel
theorem dX6_init_47 : decode cX6_init 47 = .ok (.iconst 3, 1) := by decide +kernel
theorem dX6_init_48 : decode cX6_init 48 = .ok (.iconst 0, 1) := by decide +kernel
theorem dX6_init_49 : decode cX6_init 49 = .ok (.iastore, 1) := by decide +kernel
theorem dX6_init_50 : decode cX6_init 50 = .ok (.dup, 1) := by decide +kernel
theorem dX6_init_51 : decode cX6_init 51 = .ok (.iconst 4, 1) := by decide +kernel
theorem dX6_init_52 : decode cX6_init 52 = .ok (.iconst 1, 1) := by decide +kernel
theorem dX6_init_53 : decode cX6_init 53 = .ok (.iastore, 1) := by decide +kernel
theorem dX6_init_54 : decode cX6_init 54 = .ok (.dup, 1) := by decide +kernel
theorem dX6_init_55 : decode cX6_init 55 = .ok (.iconst 5, 1) := by decide +kernel
theorem dX6_init_56 : decode cX6_init 56 = .ok (.bipush 20, 2) := by decide +kernel
theorem dX6_init_58 : decode cX6_init 58 = .ok (.iastore, 1) := by decide +kernel
theorem dX6_init_59 : decode cX6_init 59 = .ok (.dup, 1) := by decide +kernel
theorem dX6_init_60 : decode cX6_init 60 = .ok (.bipush 6, 2) := by decide +kernel
theorem dX6_init_62 : decode cX6_init 62 = .ok (.iconst 3, 1) := by decide +kernel
theorem dX6_init_63 : decode cX6_init 63 = .ok (.iastore, 1) := by decide +kernel
theorem dX6_init_64 : decode cX6_init 64 = .ok (.dup, 1) := by decide +kernel
theorem dX6_init_65 : decode cX6_init 65 = .ok (.bipush 7, 2) := by decide +kernel
theorem dX6_init_67 : decode cX6_init 67 = .ok (.iconst 0, 1) := by decide +kernel
theorem dX6_init_68 : decode cX6_init 68 = .ok (.iastore, 1) := by decide +kernel
theorem dX6_init_69 : decode cX6_init 69 = .ok (.dup, 1) := by decide +kernel
theorem dX6_init_70 : decode cX6_init 70 = .ok (.bipush 8, 2) := by decide +kernel
theorem dX6_init_72 : decode cX6_init 72 = .ok (.iconst 2, 1) := by decide +kernel
theorem dX6_init_73 : decode cX6_init 73 = .ok (.iastore, 1) := by decide +kernel
theorem dX6_init_74 : decode cX6_init 74 = .ok (.dup, 1) := by decide +kernel
theorem dX6_init_75 : decode cX6_init 75 = .ok (.bipush 9, 2) := by decide +kernel
theorem dX6_init_77 : decode cX6_init 77 = .ok (.bipush 20, 2) := by decide +kernel
theorem dX6_init_79 : decode cX6_init 79 = .ok (.iastore, 1) := by decide +kernel
theorem dX6_init_80 : decode cX6_init 80 = .ok (.dup, 1) := by decide +kernel
theorem dX6_init_81 : decode cX6_init 81 = .ok (.bipush 10, 2) := by decide +kernel
theorem dX6_init_83 : decode cX6_init 83 = .ok (.bipush 6, 2) := by decide +kernel
theorem dX6_init_85 : decode cX6_init 85 = .ok (.iastore, 1) := by decide +kernel
theorem dX6_init_86 : decode cX6_init 86 = .ok (.dup, 1) := by decide +kernel
theorem dX6_init_87 : decode cX6_init 87 = .ok (.bipush 11, 2) := by decide +kernel
theorem dX6_init_89 : decode cX6_init 89 = .ok (.iconst 0, 1) := by decide +kernel
theorem dX6_init_90 : decode cX6_init 90 = .ok (.iastore, 1) := by decide +kernel
theorem dX6_init_91 : decode cX6_init 91 = .ok (.dup, 1) := by decide +kernel
theorem dX6_init_92 : decode cX6_init 92 = .ok (.bipush 12, 2) := by decide +kernel
theorem dX6_init_94 : decode cX6_init 94 = .ok (.iconst 3, 1) := by decide +kernel
theorem dX6_init_95 : decode cX6_init 95 = .ok (.iastore, 1) := by decide +kernel
theorem dX6_init_96 : decode cX6_init 96 = .ok (.dup, 1) := by decide +kernel
theorem dX6_init_97 : decode cX6_init 97 = .ok (.bipush 13, 2) := by decide +kernel
theorem dX6_init_99 : decode cX6_init 99 = .ok (.bipush 20, 2) := by decide +kernel
theorem dX6_init_101 : decode cX6_init 101 = .ok (.iastore, 1) := by decide +kernel
theorem dX6_init_102 : decode cX6_init 102 = .ok (.dup, 1) := by decide +kernel
theorem dX6_init_103 : decode cX6_init 103 = .ok (.bipush 14, 2) := by decide +kernel
theorem dX6_init_105 : decode cX6_init 105 = .ok (.bipush 9, 2) := by decide +kernel
theorem dX6_init_107 : decode cX6_init 107 = .ok (.iastore, 1) := by decide +kernel
theorem dX6_init_108 : decode cX6_init 108 = .ok (.dup, 1) := by decide +kernel
theorem dX6_init_109 : decode cX6_init 109 = .ok (.bipush 15, 2) := by decide +kernel
theorem dX6_init_111 : decode cX6_init 111 = .ok (.iconst 0, 1) := by decide +kernel
theorem dX6_init_112 : decode cX6_init 112 = .ok (.iastore, 1) := by decide +kernel
theorem dX6_init_113 : decode cX6_init 113 = .ok (.dup, 1) := by decide +kernel
theorem dX6_init_114 : decode cX6_init 114 = .ok (.bipush 16, 2) := by decide +kernel
theorem dX6_init_116 : decode cX6_init 116 = .ok (.iconst 4, 1) := by decide +kernel
theorem dX6_init_117 : decode cX6_init 117 = .ok (.iastore, 1) := by decide +kernel
theorem dX6_init_118 : decode cX6_init 118 = .ok (.dup, 1) := by decide +kernel
theorem dX6_init_119 : decode cX6_init 119 = .ok (.bipush 17, 2) := by decide +kernel
theorem dX6_init_121 : decode cX6_init 121 = .ok (.bipush 20, 2) := by decide +kernel
theorem dX6_init_123 : decode cX6_init 123 = .ok (.iastore, 1) := by decide +kernel
theorem dX6_init_124 : decode cX6_init 124 = .ok (.dup, 1) := by decide +kernel
theorem dX6_init_125 : decode cX6_init 125 = .ok (.bipush 18, 2) := by decide +kernel
theorem dX6_init_127 : decode cX6_init 127 = .ok (.bipush 12, 2) := by decide +kernel
theorem dX6_init_129 : decode cX6_init 129 = .ok (.iastore, 1) := by decide +kernel
theorem dX6_init_130 : decode cX6_init 130 = .ok (.dup, 1) := by decide +kernel
theorem dX6_init_131 : decode cX6_init 131 = .ok (.bipush 19, 2) := by decide +kernel
theorem dX6_init_133 : decode cX6_init 133 = .ok (.iconst 0, 1) := by decide +kernel
theorem dX6_init_134 : decode cX6_init 134 = .ok (.iastore, 1) := by decide +kernel
theorem dX6_init_135 : decode cX6_init 135 = .ok (.dup, 1) := by decide +kernel
theorem dX6_init_136 : decode cX6_init 136 = .ok (.bipush 20, 2) := by decide +kernel
theorem dX6_init_138 : decode cX6_init 138 = .ok (.iconst 5, 1) := by decide +kernel
theorem dX6_init_139 : decode cX6_init 139 = .ok (.iastore, 1) := by decide +kernel
theorem dX6_init_140 : decode cX6_init 140 = .ok (.dup, 1) := by decide +kernel
theorem dX6_init_141 : decode cX6_init 141 = .ok (.bipush 21, 2) := by decide +kernel
theorem dX6_init_143 : decode cX6_init 143 = .ok (.bipush 20, 2) := by decide +kernel
theorem dX6_init_145 : decode cX6_init 145 = .ok (.iastore, 1) := by decide +kernel
theorem dX6_init_146 : decode cX6_init 146 = .ok (.dup, 1) := by decide +kernel
theorem dX6_init_147 : decode cX6_init 147 = .ok (.bipush 22, 2) := by decide +kernel
theorem dX6_init_149 : decode cX6_init 149 = .ok (.bipush 15, 2) := by decide +kernel
theorem dX6_init_151 : decode cX6_init 151 = .ok (.iastore, 1) := by decide +kernel
theorem dX6_init_152 : decode cX6_init 152 = .ok (.dup, 1) := by decide +kernel
theorem dX6_init_153 : decode cX6_init 153 = .ok (.bipush 23, 2) := by decide +kernel
theorem dX6_init_155 : decode cX6_init 155 = .ok (.iconst 0, 1) := by decide +kernel
theorem dX6_init_156 : decode cX6_init 156 = .ok (.iastore, 1) := by decide +kernel
theorem dX6_init_157 : decode cX6_init 157 = .ok (.dup, 1) := by decide +kernel
theorem dX6_init_158 : decode cX6_init 158 = .ok (.bipush 24, 2) := by decide +kernel
theorem dX6_init_160 : decode cX6_init 160 = .ok (.iconst 0, 1) := by decide +kernel
theorem dX6_init_161 : decode cX6_init 161 = .ok (.iastore, 1) := by decide +kernel
theorem dX6_init_162 : decode cX6_init 162 = .ok (.dup, 1) := by decide +kernel
theorem dX6_init_163 : decode cX6_init 163 = .ok (.bipush 25, 2) := by decide +kernel
theorem dX6_init_165 : decode cX6_init 165 = .ok (.bipush 20, 2) := by decide +kernel
theorem dX6_init_167 : decode cX6_init 167 = .ok (.iastore, 1) := by decide +kernel
theorem dX6_init_168 : decode cX6_init 168 = .ok (.dup, 1) := by decide +kernel
theorem dX6_init_169 : decode cX6_init 169 = .ok (.bipush 26, 2) := by decide +kernel
theorem dX6_init_171 : decode cX6_init 171 = .ok (.bipush 18, 2) := by decide +kernel
theorem dX6_init_173 : decode cX6_init 173 = .ok (.iastore, 1) := by decide +kernel
theorem dX6_init_174 : decode cX6_init 174 = .ok (.dup, 1) := by decide +kernel
theorem dX6_init_175 : decode cX6_init 175 = .ok (.bipush 27, 2) := by decide +kernel
theorem dX6_init_177 : decode cX6_init 177 = .ok (.iconst 0, 1) := by decide +kernel
theorem dX6_init_178 : decode cX6_init 178 = .ok (.iastore, 1) := by decide +kernel
theorem dX6_init_179 : decode cX6_init 179 = .ok (.dup, 1) := by decide +kernel
theorem dX6_init_180 : decode cX6_init 180 = .ok (.bipush 28, 2) := by decide +kernel
theorem dX6_init_182 : decode cX6_init 182 = .ok (.iconst 1, 1) := by decide +kernel
theorem dX6_init_183 : decode cX6_init 183 = .ok (.iastore, 1) := by decide +kernel
theorem dX6_init_184 : decode cX6_init 184 = .ok (.dup, 1) := by decide +kernel
theorem dX6_init_185 : decode cX6_init 185 = .ok (.bipush 29, 2) := by decide +kernel
theorem dX6_init_187 : decode cX6_init 187 = .ok (.bipush 20, 2) := by decide +kernel
theorem dX6_init_189 : decode cX6_init 189 = .ok (.iastore, 1) := by decide +kernel
theorem dX6_init_190 : decode cX6_init 190 = .ok (.dup, 1) := by decide +kernel
theorem dX6_init_191 : decode cX6_init 191 = .ok (.bipush 30, 2) := by decide +kernel
theorem dX6_init_193 : decode cX6_init 193 = .ok (.bipush 21, 2) := by decide +kernel
theorem dX6_init_195 : decode cX6_init 195 = .ok (.iastore, 1) := by decide +kernel
theorem dX6_init_196 : decode cX6_init 196 = .ok (.dup, 1) := by decide +kernel
theorem dX6_init_197 : decode cX6_init 197 = .ok (.bipush 31, 2) := by decide +kernel
theorem dX6_init_199 : decode cX6_init 199 = .ok (.iconst 0, 1) := by decide +kernel
theorem dX6_init_200 : decode cX6_init 200 = .ok (.iastore, 1) := by decide +kernel
theorem dX6_init_201 : decode cX6_init 201 = .ok (.dup, 1) := by decide +kernel
theorem dX6_init_202 : decode cX6_init 202 = .ok (.bipush 32, 2) := by decide +kernel
theorem dX6_init_204 : decode cX6_init 204 = .ok (.iconst 2, 1) := by decide +kernel
theorem dX6_init_205 : decode cX6_init 205 = .ok (.iastore, 1) := by decide +kernel
theorem dX6_init_206 : decode cX6_init 206 = .ok (.dup, 1) := by decide +kernel
theorem dX6_init_207 : decode cX6_init 207 = .ok (.bipush 33, 2) := by decide +kernel
theorem dX6_init_209 : decode cX6_init 209 = .ok (.bipush 20, 2) := by decide +kernel
theorem dX6_init_211 : decode cX6_init 211 = .ok (.iastore, 1) := by decide +kernel
theorem dX6_init_212 : decode cX6_init 212 = .ok (.dup, 1) := by decide +kernel
theorem dX6_init_213 : decode cX6_init 213 = .ok (.bipush 34, 2) := by decide +kernel
theorem dX6_init_215 : decode cX6_init 215 = .ok (.bipush 24, 2) := by decide +kernel
theorem dX6_init_217 : decode cX6_init 217 = .ok (.iastore, 1) := by decide +kernel
theorem dX6_init_218 : decode cX6_init 218 = .ok (.dup, 1) := by decide +kernel
theorem dX6_init_219 : decode cX6_init 219 = .ok (.bipush 35, 2) := by decide +kernel
theorem dX6_init_221 : decode cX6_init 221 = .ok (.iconst 0, 1) := by decide +kernel
theorem dX6_init_222 : decode cX6_init 222 = .ok (.iastore, 1) := by decide +kernel
theorem dX6_init_223 : decode cX6_init 223 = .ok (.dup, 1) := by decide +kernel
theorem dX6_init_224 : decode cX6_init 224 = .ok (.bipush 36, 2) := by decide +kernel
theorem dX6_init_226 : decode cX6_init 226 = .ok (.iconst 3, 1) := by decide +kernel
theorem dX6_init_227 : decode cX6_init 227 = .ok (.iastore, 1) := by decide +kernel
theorem dX6_init_228 : decode cX6_init 228 = .ok (.dup, 1) := by decide +kernel
theorem dX6_init_229 : decode cX6_init 229 = .ok (.bipush 37, 2) := by decide +kernel
theorem dX6_init_231 : decode cX6_init 231 = .ok (.bipush 20, 2) := by decide +kernel
theorem dX6_init_233 : decode cX6_init 233 = .ok (.iastore, 1) := by decide +kernel
theorem dX6_init_234 : decode cX6_init 234 = .ok (.dup, 1) := by decide +kernel
theorem dX6_init_235 : decode cX6_init 235 = .ok (.bipush 38, 2) := by decide +kernel
theorem dX6_init_237 : decode cX6_init 237 = .ok (.bipush 27, 2) := by decide +kernel
theorem dX6_init_239 : decode cX6_init 239 = .ok (.iastore, 1) := by decide +kernel
theorem dX6_init_240 : decode cX6_init 240 = .ok (.dup, 1) := by decide +kernel
theorem dX6_init_241 : decode cX6_init 241 = .ok (.bipush 39, 2) := by decide +kernel
theorem dX6_init_243 : decode cX6_init 243 = .ok (.iconst 0, 1) := by decide +kernel
theorem dX6_init_244 : decode cX6_init 244 = .ok (.iastore, 1) := by decide +kernel
theorem dX6_init_245 : decode cX6_init 245 = .ok (.dup, 1) := by decide +kernel
theorem dX6_init_246 : decode cX6_init 246 = .ok (.bipush 40, 2) := by decide +kernel
theorem dX6_init_248 : decode cX6_init 248 = .ok (.iconst 4, 1) := by decide +kernel
theorem dX6_init_249 : decode cX6_init 249 = .ok (.iastore, 1) := by decide +kernel
theorem dX6_init_250 : decode cX6_init 250 = .ok (.dup, 1) := by decide +kernel
theorem dX6_init_251 : decode cX6_init 251 = .ok (.bipush 41, 2) := by decide +kernel
theorem dX6_init_253 : decode cX6_init 253 = .ok (.bipush 20, 2) := by decide +kernel
theorem dX6_init_255 : decode cX6_init 255 = .ok (.iastore, 1) := by decide +kernel
theorem dX6_init_256 : decode cX6_init 256 = .ok (.dup, 1) := by decide +kernel
theorem dX6_init_257 : decode cX6_init 257 = .ok (.bipush 42, 2) := by decide +kernel
theorem dX6_init_259 : decode cX6_init 259 = .ok (.bipush 30, 2) := by decide +kernel
theorem dX6_init_261 : decode cX6_init 261 = .ok (.iastore, 1) := by decide +kernel
theorem dX6_init_262 : decode cX6_init 262 = .ok (.dup, 1) := by decide +kernel
theorem dX6_init_263 : decode cX6_init 263 = .ok (.bipush 43, 2) := by decide +kernel
theorem dX6_init_265 : decode cX6_init 265 = .ok (.iconst 0, 1) := by decide +kernel
theorem dX6_init_266 : decode cX6_init 266 = .ok (.iastore, 1) := by decide +kernel
theorem dX6_init_267 : decode cX6_init 267 = .ok (.dup, 1) := by decide +kernel
theorem dX6_init_268 : decode cX6_init 268 = .ok (.bipush 44, 2) := by decide +kernel
theorem dX6_init_270 : decode cX6_init 270 = .ok (.iconst 5, 1) := by decide +kernel
theorem dX6_init_271 : decode cX6_init 271 = .ok (.iastore, 1) := by decide +kernel
theorem dX6_init_272 : decode cX6_init 272 = .ok (.dup, 1) := by decide +kernel
theorem dX6_init_273 : decode cX6_init 273 = .ok (.bipush 45, 2) := by decide +kernel
theorem dX6_init_275 : decode cX6_init 275 = .ok (.bipush 20, 2) := by decide +kernel
theorem dX6_init_277 : decode cX6_init 277 = .ok (.iastore, 1) := by decide +kernel
theorem dX6_init_278 : decode cX6_init 278 = .ok (.dup, 1) := by decide +kernel
theorem dX6_init_279 : decode cX6_init 279 = .ok (.bipush 46, 2) := by decide +kernel
theorem dX6_init_281 : decode cX6_init 281 = .ok (.bipush 33, 2) := by decide +kernel
theorem dX6_init_283 : decode cX6_init 283 = .ok (.iastore, 1) := by decide +kernel
theorem dX6_init_284 : decode cX6_init 284 = .ok (.dup, 1) := by decide +kernel
theorem dX6_init_285 : decode cX6_init 285 = .ok (.bipush 47, 2) := by decide +kernel
theorem dX6_init_287 : decode cX6_init 287 = .ok (.iconst 0, 1) := by decide +kernel
theorem dX6_init_288 : decode cX6_init 288 = .ok (.iastore, 1) := by decide +kernel
theorem dX6_init_289 : decode cX6_init 289 = .ok (.putfield 19, 3) := by decide +kernel
theorem dX6_init_292 : decode cX6_init 292 = .ok (.aload_n 0, 1) := by decide +kernel
theorem dX6_init_293 : decode cX6_init 293 = .ok (.bipush 6, 2) := by decide +kernel
theorem dX6_init_295 : decode cX6_init 295 = .ok (.newarray .int, 2) := by decide +kernel
theorem dX6_init_297 : decode cX6_init 297 = .ok (.putfield 22, 3) := by decide +kernel
theorem dX6_init_300 : decode cX6_init 300 = .ok (.aload_n 0, 1) := by decide +kernel
theorem dX6_init_301 : decode cX6_init 301 = .ok (.sipush 160, 3) := by decide +kernel
theorem dX6_init_304 : decode cX6_init 304 = .ok (.newarray .int, 2) := by decide +kernel
theorem dX6_init_306 : decode cX6_init 306 = .ok (.putfield 25, 3) := by decide +kernel
theorem dX6_init_309 : decode cX6_init 309 = .ok (.aload_n 0, 1) := by decide +kernel
theorem dX6_init_310 : decode cX6_init 310 = .ok (.sipush 1200, 3) := by decide +kernel
theorem dX6_init_313 : decode cX6_init 313 = .ok (.newarray .int, 2) := by decide +kernel
theorem dX6_init_315 : decode cX6_init 315 = .ok (.putfield 28, 3) := by decide +kernel
theorem dX6_init_318 : decode cX6_init 318 = .ok (.aload_n 0, 1) := by decide +kernel
theorem dX6_init_319 : decode cX6_init 319 = .ok (.bipush 24, 2) := by decide +kernel
theorem dX6_init_321 : decode cX6_init 321 = .ok (.newarray .int, 2) := by decide +kernel
theorem dX6_init_323 : decode cX6_init 323 = .ok (.putfield 31, 3) := by decide +kernel
theorem dX6_init_326 : decode cX6_init 326 = .ok (.aload_n 0, 1) := by decide +kernel
theorem dX6_init_327 : decode cX6_init 327 = .ok (.bipush 66, 2) := by decide +kernel
theorem dX6_init_329 : decode cX6_init 329 = .ok (.newarray .int, 2) := by decide +kernel
theorem dX6_init_331 : decode cX6_init 331 = .ok (.putfield 34, 3) := by decide +kernel
theorem dX6_init_334 : decode cX6_init 334 = .ok (.aload_n 0, 1) := by decide +kernel
theorem dX6_init_335 : decode cX6_init 335 = .ok (.iconst 3, 1) := by decide +kernel
theorem dX6_init_336 : decode cX6_init 336 = .ok (.newarray .int, 2) := by decide +kernel
theorem dX6_init_338 : decode cX6_init 338 = .ok (.putfield 37, 3) := by decide +kernel
theorem dX6_init_341 : decode cX6_init 341 = .ok (.aload_n 0, 1) := by decide +kernel
theorem dX6_init_342 : decode cX6_init 342 = .ok (.iconst 4, 1) := by decide +kernel
theorem dX6_init_343 : decode cX6_init 343 = .ok (.newarray .int, 2) := by decide +kernel
theorem dX6_init_345 : decode cX6_init 345 = .ok (.dup, 1) := by decide +kernel
theorem dX6_init_346 : decode cX6_init 346 = .ok (.iconst 0, 1) := by decide +kernel
theorem dX6_init_347 : decode cX6_init 347 = .ok (.iconst (-1), 1) := by decide +kernel
theorem dX6_init_348 : decode cX6_init 348 = .ok (.iastore, 1) := by decide +kernel
theorem dX6_init_349 : decode cX6_init 349 = .ok (.dup, 1) := by decide +kernel
theorem dX6_init_350 : decode cX6_init 350 = .ok (.iconst 1, 1) := by decide +kernel
theorem dX6_init_351 : decode cX6_init 351 = .ok (.iconst (-1), 1) := by decide +kernel
theorem dX6_init_352 : decode cX6_init 352 = .ok (.iastore, 1) := by decide +kernel
theorem dX6_init_353 : decode cX6_init 353 = .ok (.dup, 1) := by decide +kernel
theorem dX6_init_354 : decode cX6_init 354 = .ok (.iconst 2, 1) := by decide +kernel
theorem dX6_init_355 : decode cX6_init 355 = .ok (.iconst (-1), 1) := by decide +kernel
theorem dX6_init_356 : decode cX6_init 356 = .ok (.iastore, 1) := by decide +kernel
theorem dX6_init_357 : decode cX6_init 357 = .ok (.dup, 1) := by decide +kernel
theorem dX6_init_358 : decode cX6_init 358 = .ok (.iconst 3, 1) := by decide +kernel
theorem dX6_init_359 : decode cX6_init 359 = .ok (.iconst (-1), 1) := by decide +kernel
theorem dX6_init_360 : decode cX6_init 360 = .ok (.iastore, 1) := by decide +kernel
theorem dX6_init_361 : decode cX6_init 361 = .ok (.putfield 40, 3) := by decide +kernel
theorem dX6_init_364 : decode cX6_init 364 = .ok (.aload_n 0, 1) := by decide +kernel
theorem dX6_init_365 : decode cX6_init 365 = .ok (.iconst 4, 1) := by decide +kernel
theorem dX6_init_366 : decode cX6_init 366 = .ok (.newarray .int, 2) := by decide +kernel
theorem dX6_init_368 : decode cX6_init 368 = .ok (.putfield 43, 3) := by decide +kernel
theorem dX6_init_371 : decode cX6_init 371 = .ok (.aload_n 0, 1) := by decide +kernel
theorem dX6_init_372 : decode cX6_init 372 = .ok (.sipush 160, 3) := by decide +kernel
theorem dX6_init_375 : decode cX6_init 375 = .ok (.newarray .int, 2) := by decide +kernel
theorem dX6_init_377 : decode cX6_init 377 = .ok (.putfield 46, 3) := by decide +kernel
theorem dX6_init_380 : decode cX6_init 380 = .ok (.aload_n 0, 1) := by decide +kernel
theorem dX6_init_381 : decode cX6_init 381 = .ok (.bipush 43, 2) := by decide +kernel
theorem dX6_init_383 : decode cX6_init 383 = .ok (.newarray .int, 2) := by decide +kernel
theorem dX6_init_385 : decode cX6_init 385 = .ok (.dup, 1) := by decide +kernel
theorem dX6_init_386 : decode cX6_init 386 = .ok (.iconst 0, 1) := by decide +kernel
theorem dX6_init_387 : decode cX6_init 387 = .ok (.bipush 114, 2) := by decide +kernel
theorem dX6_init_389 : decode cX6_init 389 = .ok (.iastore, 1) := by decide +kernel
theorem dX6_init_390 : decode cX6_init 390 = .ok (.dup, 1) := by decide +kernel
theorem dX6_init_391 : decode cX6_init 391 = .ok (.iconst 1, 1) := by decide +kernel
theorem dX6_init_392 : decode cX6_init 392 = .ok (.bipush 101, 2) := by decide +kernel
theorem dX6_init_394 : decode cX6_init 394 = .ok (.iastore, 1) := by decide +kernel
theorem dX6_init_395 : decode cX6_init 395 = .ok (.dup, 1) := by decide +kernel
theorem dX6_init_396 : decode cX6_init 396 = .ok (.iconst 2, 1) := by decide +kernel
theorem dX6_init_397 : decode cX6_init 397 = .ok (.bipush 97, 2) := by decide +kernel
theorem dX6_init_399 : decode cX6_init 399 = .ok (.iastore, 1) := by decide +kernel
theorem dX6_init_400 : decode cX6_init 400 = .ok (.dup, 1) := by decide +kernel
theorem dX6_init_401 : decode cX6_init 401 = .ok (.iconst 3, 1) := by decide +kernel
theorem dX6_init_402 : decode cX6_init 402 = .ok (.bipush 99, 2) := by decide +kernel
theorem dX6_init_404 : decode cX6_init 404 = .ok (.iastore, 1) := by decide +kernel
theorem dX6_init_405 : decode cX6_init 405 = .ok (.dup, 1) := by decide +kernel
theorem dX6_init_406 : decode cX6_init 406 = .ok (.iconst 4, 1) := by decide +kernel
theorem dX6_init_407 : decode cX6_init 407 = .ok (.bipush 104, 2) := by decide +kernel
theorem dX6_init_409 : decode cX6_init 409 = .ok (.iastore, 1) := by decide +kernel
theorem dX6_init_410 : decode cX6_init 410 = .ok (.dup, 1) := by decide +kernel
theorem dX6_init_411 : decode cX6_init 411 = .ok (.iconst 5, 1) := by decide +kernel
theorem dX6_init_412 : decode cX6_init 412 = .ok (.bipush 101, 2) := by decide +kernel
theorem dX6_init_414 : decode cX6_init 414 = .ok (.iastore, 1) := by decide +kernel
theorem dX6_init_415 : decode cX6_init 415 = .ok (.dup, 1) := by decide +kernel
theorem dX6_init_416 : decode cX6_init 416 = .ok (.bipush 6, 2) := by decide +kernel
theorem dX6_init_418 : decode cX6_init 418 = .ok (.bipush 115, 2) := by decide +kernel
theorem dX6_init_420 : decode cX6_init 420 = .ok (.iastore, 1) := by decide +kernel
theorem dX6_init_421 : decode cX6_init 421 = .ok (.dup, 1) := by decide +kernel
theorem dX6_init_422 : decode cX6_init 422 = .ok (.bipush 7, 2) := by decide +kernel
theorem dX6_init_424 : decode cX6_init 424 = .ok (.bipush 32, 2) := by decide +kernel
theorem dX6_init_426 : decode cX6_init 426 = .ok (.iastore, 1) := by decide +kernel
theorem dX6_init_427 : decode cX6_init 427 = .ok (.dup, 1) := by decide +kernel
theorem dX6_init_428 : decode cX6_init 428 = .ok (.bipush 8, 2) := by decide +kernel
theorem dX6_init_430 : decode cX6_init 430 = .ok (.bipush 98, 2) := by decide +kernel
theorem dX6_init_432 : decode cX6_init 432 = .ok (.iastore, 1) := by decide +kernel
theorem dX6_init_433 : decode cX6_init 433 = .ok (.dup, 1) := by decide +kernel
theorem dX6_init_434 : decode cX6_init 434 = .ok (.bipush 9, 2) := by decide +kernel
theorem dX6_init_436 : decode cX6_init 436 = .ok (.bipush 114, 2) := by decide +kernel
theorem dX6_init_438 : decode cX6_init 438 = .ok (.iastore, 1) := by decide +kernel
theorem dX6_init_439 : decode cX6_init 439 = .ok (.dup, 1) := by decide +kernel
theorem dX6_init_440 : decode cX6_init 440 = .ok (.bipush 10, 2) := by decide +kernel
theorem dX6_init_442 : decode cX6_init 442 = .ok (.bipush 101, 2) := by decide +kernel
theorem dX6_init_444 : decode cX6_init 444 = .ok (.iastore, 1) := by decide +kernel
theorem dX6_init_445 : decode cX6_init 445 = .ok (.dup, 1) := by decide +kernel
theorem dX6_init_446 : decode cX6_init 446 = .ok (.bipush 11, 2) := by decide +kernel
theorem dX6_init_448 : decode cX6_init 448 = .ok (.bipush 97, 2) := by decide +kernel
theorem dX6_init_450 : decode cX6_init 450 = .ok (.iastore, 1) := by decide +kernel
theorem dX6_init_451 : decode cX6_init 451 = .ok (.dup, 1) := by decide +kernel
theorem dX6_init_452 : decode cX6_init 452 = .ok (.bipush 12, 2) := by decide +kernel
theorem dX6_init_454 : decode cX6_init 454 = .ok (.bipush 116, 2) := by decide +kernel
theorem dX6_init_456 : decode cX6_init 456 = .ok (.iastore, 1) := by decide +kernel
theorem dX6_init_457 : decode cX6_init 457 = .ok (.dup, 1) := by decide +kernel
theorem dX6_init_458 : decode cX6_init 458 = .ok (.bipush 13, 2) := by decide +kernel
theorem dX6_init_460 : decode cX6_init 460 = .ok (.bipush 104, 2) := by decide +kernel
theorem dX6_init_462 : decode cX6_init 462 = .ok (.iastore, 1) := by decide +kernel
theorem dX6_init_463 : decode cX6_init 463 = .ok (.dup, 1) := by decide +kernel
theorem dX6_init_464 : decode cX6_init 464 = .ok (.bipush 14, 2) := by decide +kernel
theorem dX6_init_466 : decode cX6_init 466 = .ok (.bipush 32, 2) := by decide +kernel
theorem dX6_init_468 : decode cX6_init 468 = .ok (.iastore, 1) := by decide +kernel
theorem dX6_init_469 : decode cX6_init 469 = .ok (.dup, 1) := by decide +kernel
theorem dX6_init_470 : decode cX6_init 470 = .ok (.bipush 15, 2) := by decide +kernel
theorem dX6_init_472 : decode cX6_init 472 = .ok (.bipush 59, 2) := by decide +kernel
theorem dX6_init_474 : decode cX6_init 474 = .ok (.iastore, 1) := by decide +kernel
theorem dX6_init_475 : decode cX6_init 475 = .ok (.dup, 1) := by decide +kernel
theorem dX6_init_476 : decode cX6_init 476 = .ok (.bipush 16, 2) := by decide +kernel
theorem dX6_init_478 : decode cX6_init 478 = .ok (.bipush 32, 2) := by decide +kernel
theorem dX6_init_480 : decode cX6_init 480 = .ok (.iastore, 1) := by decide +kernel
theorem dX6_init_481 : decode cX6_init 481 = .ok (.dup, 1) := by decide +kernel
theorem dX6_init_482 : decode cX6_init 482 = .ok (.bipush 17, 2) := by decide +kernel
theorem dX6_init_484 : decode cX6_init 484 = .ok (.bipush 99, 2) := by decide +kernel
theorem dX6_init_486 : decode cX6_init 486 = .ok (.iastore, 1) := by decide +kernel
theorem dX6_init_487 : decode cX6_init 487 = .ok (.dup, 1) := by decide +kernel
theorem dX6_init_488 : decode cX6_init 488 = .ok (.bipush 18, 2) := by decide +kernel
theorem dX6_init_490 : decode cX6_init 490 = .ok (.bipush 111, 2) := by decide +kernel
theorem dX6_init_492 : decode cX6_init 492 = .ok (.iastore, 1) := by decide +kernel
theorem dX6_init_493 : decode cX6_init 493 = .ok (.dup, 1) := by decide +kernel
theorem dX6_init_494 : decode cX6_init 494 = .ok (.bipush 19, 2) := by decide +kernel
theorem dX6_init_496 : decode cX6_init 496 = .ok (.bipush 115, 2) := by decide +kernel
theorem dX6_init_498 : decode cX6_init 498 = .ok (.iastore, 1) := by decide +kernel
theorem dX6_init_499 : decode cX6_init 499 = .ok (.dup, 1) := by decide +kernel
theorem dX6_init_500 : decode cX6_init 500 = .ok (.bipush 20, 2) := by decide +kernel
theorem dX6_init_502 : decode cX6_init 502 = .ok (.bipush 116, 2) := by decide +kernel
theorem dX6_init_504 : decode cX6_init 504 = .ok (.iastore, 1) := by decide +kernel
theorem dX6_init_505 : decode cX6_init 505 = .ok (.dup, 1) := by decide +kernel
theorem dX6_init_506 : decode cX6_init 506 = .ok (.bipush 21, 2) := by decide +kernel
theorem dX6_init_508 : decode cX6_init 508 = .ok (.bipush 115, 2) := by decide +kernel
theorem dX6_init_510 : decode cX6_init 510 = .ok (.iastore, 1) := by decide +kernel
theorem dX6_init_511 : decode cX6_init 511 = .ok (.dup, 1) := by decide +kernel
theorem dX6_init_512 : decode cX6_init 512 = .ok (.bipush 22, 2) := by decide +kernel
theorem dX6_init_514 : decode cX6_init 514 = .ok (.bipush 32, 2) := by decide +kernel
theorem dX6_init_516 : decode cX6_init 516 = .ok (.iastore, 1) := by decide +kernel
theorem dX6_init_517 : decode cX6_init 517 = .ok (.dup, 1) := by decide +kernel
theorem dX6_init_518 : decode cX6_init 518 = .ok (.bipush 23, 2) := by decide +kernel
theorem dX6_init_520 : decode cX6_init 520 = .ok (.bipush 100, 2) := by decide +kernel
theorem dX6_init_522 : decode cX6_init 522 = .ok (.iastore, 1) := by decide +kernel
theorem dX6_init_523 : decode cX6_init 523 = .ok (.dup, 1) := by decide +kernel
theorem dX6_init_524 : decode cX6_init 524 = .ok (.bipush 24, 2) := by decide +kernel
theorem dX6_init_526 : decode cX6_init 526 = .ok (.bipush 101, 2) := by decide +kernel
theorem dX6_init_528 : decode cX6_init 528 = .ok (.iastore, 1) := by decide +kernel
theorem dX6_init_529 : decode cX6_init 529 = .ok (.dup, 1) := by decide +kernel
theorem dX6_init_530 : decode cX6_init 530 = .ok (.bipush 25, 2) := by decide +kernel
theorem dX6_init_532 : decode cX6_init 532 = .ok (.bipush 101, 2) := by decide +kernel
theorem dX6_init_534 : decode cX6_init 534 = .ok (.iastore, 1) := by decide +kernel
theorem dX6_init_535 : decode cX6_init 535 = .ok (.dup, 1) := by decide +kernel
theorem dX6_init_536 : decode cX6_init 536 = .ok (.bipush 26, 2) := by decide +kernel
theorem dX6_init_538 : decode cX6_init 538 = .ok (.bipush 112, 2) := by decide +kernel
theorem dX6_init_540 : decode cX6_init 540 = .ok (.iastore, 1) := by decide +kernel
theorem dX6_init_541 : decode cX6_init 541 = .ok (.dup, 1) := by decide +kernel
theorem dX6_init_542 : decode cX6_init 542 = .ok (.bipush 27, 2) := by decide +kernel
theorem dX6_init_544 : decode cX6_init 544 = .ok (.bipush 32, 2) := by decide +kernel
theorem dX6_init_546 : decode cX6_init 546 = .ok (.iastore, 1) := by decide +kernel
theorem dX6_init_547 : decode cX6_init 547 = .ok (.dup, 1) := by decide +kernel
theorem dX6_init_548 : decode cX6_init 548 = .ok (.bipush 28, 2) := by decide +kernel
theorem dX6_init_550 : decode cX6_init 550 = .ok (.bipush 42, 2) := by decide +kernel
theorem dX6_init_552 : decode cX6_init 552 = .ok (.iastore, 1) := by decide +kernel
theorem dX6_init_553 : decode cX6_init 553 = .ok (.dup, 1) := by decide +kernel
theorem dX6_init_554 : decode cX6_init 554 = .ok (.bipush 29, 2) := by decide +kernel
theorem dX6_init_556 : decode cX6_init 556 = .ok (.bipush 32, 2) := by decide +kernel
theorem dX6_init_558 : decode cX6_init 558 = .ok (.iastore, 1) := by decide +kernel
theorem dX6_init_559 : decode cX6_init 559 = .ok (.dup, 1) := by decide +kernel
theorem dX6_init_560 : decode cX6_init 560 = .ok (.bipush 30, 2) := by decide +kernel
theorem dX6_init_562 : decode cX6_init 562 = .ok (.bipush 50, 2) := by decide +kernel
theorem dX6_init_564 : decode cX6_init 564 = .ok (.iastore, 1) := by decide +kernel
theorem dX6_init_565 : decode cX6_init 565 = .ok (.dup, 1) := by decide +kernel
theorem dX6_init_566 : decode cX6_init 566 = .ok (.bipush 31, 2) := by decide +kernel
theorem dX6_init_568 : decode cX6_init 568 = .ok (.bipush 32, 2) := by decide +kernel
theorem dX6_init_570 : decode cX6_init 570 = .ok (.iastore, 1) := by decide +kernel
theorem dX6_init_571 : decode cX6_init 571 = .ok (.dup, 1) := by decide +kernel
theorem dX6_init_572 : decode cX6_init 572 = .ok (.bipush 32, 2) := by decide +kernel
theorem dX6_init_574 : decode cX6_init 574 = .ok (.bipush 59, 2) := by decide +kernel
theorem dX6_init_576 : decode cX6_init 576 = .ok (.iastore, 1) := by decide +kernel
theorem dX6_init_577 : decode cX6_init 577 = .ok (.dup, 1) := by decide +kernel
theorem dX6_init_578 : decode cX6_init 578 = .ok (.bipush 33, 2) := by decide +kernel
theorem dX6_init_580 : decode cX6_init 580 = .ok (.bipush 32, 2) := by decide +kernel
theorem dX6_init_582 : decode cX6_init 582 = .ok (.iastore, 1) := by decide +kernel
theorem dX6_init_583 : decode cX6_init 583 = .ok (.dup, 1) := by decide +kernel
theorem dX6_init_584 : decode cX6_init 584 = .ok (.bipush 34, 2) := by decide +kernel
theorem dX6_init_586 : decode cX6_init 586 = .ok (.bipush 102, 2) := by decide +kernel
theorem dX6_init_588 : decode cX6_init 588 = .ok (.iastore, 1) := by decide +kernel
theorem dX6_init_589 : decode cX6_init 589 = .ok (.dup, 1) := by decide +kernel
theorem dX6_init_590 : decode cX6_init 590 = .ok (.bipush 35, 2) := by decide +kernel
theorem dX6_init_592 : decode cX6_init 592 = .ok (.bipush 97, 2) := by decide +kernel
theorem dX6_init_594 : decode cX6_init 594 = .ok (.iastore, 1) := by decide +kernel
theorem dX6_init_595 : decode cX6_init 595 = .ok (.dup, 1) := by decide +kernel
theorem dX6_init_596 : decode cX6_init 596 = .ok (.bipush 36, 2) := by decide +kernel
theorem dX6_init_598 : decode cX6_init 598 = .ok (.bipush 100, 2) := by decide +kernel
theorem dX6_init_600 : decode cX6_init 600 = .ok (.iastore, 1) := by decide +kernel
theorem dX6_init_601 : decode cX6_init 601 = .ok (.dup, 1) := by decide +kernel
theorem dX6_init_602 : decode cX6_init 602 = .ok (.bipush 37, 2) := by decide +kernel
theorem dX6_init_604 : decode cX6_init 604 = .ok (.bipush 101, 2) := by decide +kernel
theorem dX6_init_606 : decode cX6_init 606 = .ok (.iastore, 1) := by decide +kernel
theorem dX6_init_607 : decode cX6_init 607 = .ok (.dup, 1) := by decide +kernel
theorem dX6_init_608 : decode cX6_init 608 = .ok (.bipush 38, 2) := by decide +kernel
theorem dX6_init_610 : decode cX6_init 610 = .ok (.bipush 115, 2) := by decide +kernel
theorem dX6_init_612 : decode cX6_init 612 = .ok (.iastore, 1) := by decide +kernel
theorem dX6_init_613 : decode cX6_init 613 = .ok (.dup, 1) := by decide +kernel
theorem dX6_init_614 : decode cX6_init 614 = .ok (.bipush 39, 2) := by decide +kernel
theorem dX6_init_616 : decode cX6_init 616 = .ok (.bipush 32, 2) := by decide +kernel
theorem dX6_init_618 : decode cX6_init 618 = .ok (.iastore, 1) := by decide +kernel
theorem dX6_init_619 : decode cX6_init 619 = .ok (.dup, 1) := by decide +kernel
theorem dX6_init_620 : decode cX6_init 620 = .ok (.bipush 40, 2) := by decide +kernel
theorem dX6_init_622 : decode cX6_init 622 = .ok (.bipush 51, 2) := by decide +kernel
theorem dX6_init_624 : decode cX6_init 624 = .ok (.iastore, 1) := by decide +kernel
theorem dX6_init_625 : decode cX6_init 625 = .ok (.dup, 1) := by decide +kernel
theorem dX6_init_626 : decode cX6_init 626 = .ok (.bipush 41, 2) := by decide +kernel
theorem dX6_init_628 : decode cX6_init 628 = .ok (.bipush 32, 2) := by decide +kernel
theorem dX6_init_630 : decode cX6_init 630 = .ok (.iastore, 1) := by decide +kernel
theorem dX6_init_631 : decode cX6_init 631 = .ok (.dup, 1) := by decide +kernel
theorem dX6_init_632 : decode cX6_init 632 = .ok (.bipush 42, 2) := by decide +kernel
theorem dX6_init_634 : decode cX6_init 634 = .ok (.bipush 59, 2) := by decide +kernel
theorem dX6_init_636 : decode cX6_init 636 = .ok (.iastore, 1) := by decide +kernel
theorem dX6_init_637 : decode cX6_init 637 = .ok (.putfield 49, 3) := by decide +kernel
theorem dX6_init_640 : decode cX6_init 640 = .ok (.aload_n 0, 1) := by decide +kernel
theorem dX6_init_641 : decode cX6_init 641 = .ok (.bipush 96, 2) := by decide +kernel
theorem dX6_init_643 : decode cX6_init 643 = .ok (.newarray .int, 2) := by decide +kernel
theorem dX6_init_645 : decode cX6_init 645 = .ok (.dup, 1) := by decide +kernel
theorem dX6_init_646 : decode cX6_init 646 = .ok (.iconst 0, 1) := by decide +kernel
theorem dX6_init_647 : decode cX6_init 647 = .ok (.bipush 114, 2) := by decide +kernel
theorem dX6_init_649 : decode cX6_init 649 = .ok (.iastore, 1) := by decide +kernel
theorem dX6_init_650 : decode cX6_init 650 = .ok (.dup, 1) := by decide +kernel
theorem dX6_init_651 : decode cX6_init 651 = .ok (.iconst 1, 1) := by decide +kernel
theorem dX6_init_652 : decode cX6_init 652 = .ok (.bipush 101, 2) := by decide +kernel
theorem dX6_init_654 : decode cX6_init 654 = .ok (.iastore, 1) := by decide +kernel
theorem dX6_init_655 : decode cX6_init 655 = .ok (.dup, 1) := by decide +kernel
theorem dX6_init_656 : decode cX6_init 656 = .ok (.iconst 2, 1) := by decide +kernel
theorem dX6_init_657 : decode cX6_init 657 = .ok (.bipush 97, 2) := by decide +kernel
theorem dX6_init_659 : decode cX6_init 659 = .ok (.iastore, 1) := by decide +kernel
theorem dX6_init_660 : decode cX6_init 660 = .ok (.dup, 1) := by decide +kernel
theorem dX6_init_661 : decode cX6_init 661 = .ok (.iconst 3, 1) := by decide +kernel
theorem dX6_init_662 : decode cX6_init 662 = .ok (.bipush 99, 2) := by decide +kernel
theorem dX6_init_664 : decode cX6_init 664 = .ok (.iastore, 1) := by decide +kernel
theorem dX6_init_665 : decode cX6_init 665 = .ok (.dup, 1) := by decide +kernel
theorem dX6_init_666 : decode cX6_init 666 = .ok (.iconst 4, 1) := by decide +kernel
theorem dX6_init_667 : decode cX6_init 667 = .ok (.bipush 104, 2) := by decide +kernel
theorem dX6_init_669 : decode cX6_init 669 = .ok (.iastore, 1) := by decide +kernel
theorem dX6_init_670 : decode cX6_init 670 = .ok (.dup, 1) := by decide +kernel
theorem dX6_init_671 : decode cX6_init 671 = .ok (.iconst 5, 1) := by decide +kernel
theorem dX6_init_672 : decode cX6_init 672 = .ok (.bipush 101, 2) := by decide +kernel
theorem dX6_init_674 : decode cX6_init 674 = .ok (.iastore, 1) := by decide +kernel
theorem dX6_init_675 : decode cX6_init 675 = .ok (.dup, 1) := by decide +kernel
theorem dX6_init_676 : decode cX6_init 676 = .ok (.bipush 6, 2) := by decide +kernel
theorem dX6_init_678 : decode cX6_init 678 = .ok (.bipush 115, 2) := by decide +kernel
theorem dX6_init_680 : decode cX6_init 680 = .ok (.iastore, 1) := by decide +kernel
theorem dX6_init_681 : decode cX6_init 681 = .ok (.dup, 1) := by decide +kernel
theorem dX6_init_682 : decode cX6_init 682 = .ok (.bipush 7, 2) := by decide +kernel
theorem dX6_init_684 : decode cX6_init 684 = .ok (.bipush 32, 2) := by decide +kernel
theorem dX6_init_686 : decode cX6_init 686 = .ok (.iastore, 1) := by decide +kernel
theorem dX6_init_687 : decode cX6_init 687 = .ok (.dup, 1) := by decide +kernel
theorem dX6_init_688 : decode cX6_init 688 = .ok (.bipush 8, 2) := by decide +kernel
theorem dX6_init_690 : decode cX6_init 690 = .ok (.bipush 99, 2) := by decide +kernel
theorem dX6_init_692 : decode cX6_init 692 = .ok (.iastore, 1) := by decide +kernel
theorem dX6_init_693 : decode cX6_init 693 = .ok (.dup, 1) := by decide +kernel
theorem dX6_init_694 : decode cX6_init 694 = .ok (.bipush 9, 2) := by decide +kernel
theorem dX6_init_696 : decode cX6_init 696 = .ok (.bipush 111, 2) := by decide +kernel
theorem dX6_init_698 : decode cX6_init 698 = .ok (.iastore, 1) := by decide +kernel
theorem dX6_init_699 : decode cX6_init 699 = .ok (.dup, 1) := by decide +kernel
theorem dX6_init_700 : decode cX6_init 700 = .ok (.bipush 10, 2) := by decide +kernel
theorem dX6_init_702 : decode cX6_init 702 = .ok (.bipush 115, 2) := by decide +kernel
theorem dX6_init_704 : decode cX6_init 704 = .ok (.iastore, 1) := by decide +kernel
theorem dX6_init_705 : decode cX6_init 705 = .ok (.dup, 1) := by decide +kernel
theorem dX6_init_706 : decode cX6_init 706 = .ok (.bipush 11, 2) := by decide +kernel
theorem dX6_init_708 : decode cX6_init 708 = .ok (.bipush 116, 2) := by decide +kernel
theorem dX6_init_710 : decode cX6_init 710 = .ok (.iastore, 1) := by decide +kernel
theorem dX6_init_711 : decode cX6_init 711 = .ok (.dup, 1) := by decide +kernel
theorem dX6_init_712 : decode cX6_init 712 = .ok (.bipush 12, 2) := by decide +kernel
theorem dX6_init_714 : decode cX6_init 714 = .ok (.bipush 115, 2) := by decide +kernel
theorem dX6_init_716 : decode cX6_init 716 = .ok (.iastore, 1) := by decide +kernel
theorem dX6_init_717 : decode cX6_init 717 = .ok (.dup, 1) := by decide +kernel
theorem dX6_init_718 : decode cX6_init 718 = .ok (.bipush 13, 2) := by decide +kernel
theorem dX6_init_720 : decode cX6_init 720 = .ok (.bipush 32, 2) := by decide +kernel
theorem dX6_init_722 : decode cX6_init 722 = .ok (.iastore, 1) := by decide +kernel
theorem dX6_init_723 : decode cX6_init 723 = .ok (.dup, 1) := by decide +kernel
theorem dX6_init_724 : decode cX6_init 724 = .ok (.bipush 14, 2) := by decide +kernel
theorem dX6_init_726 : decode cX6_init 726 = .ok (.bipush 32, 2) := by decide +kernel
theorem dX6_init_728 : decode cX6_init 728 = .ok (.iastore, 1) := by decide +kernel
theorem dX6_init_729 : decode cX6_init 729 = .ok (.dup, 1) := by decide +kernel
theorem dX6_init_730 : decode cX6_init 730 = .ok (.bipush 15, 2) := by decide +kernel
theorem dX6_init_732 : decode cX6_init 732 = .ok (.bipush 32, 2) := by decide +kernel
theorem dX6_init_734 : decode cX6_init 734 = .ok (.iastore, 1) := by decide +kernel
theorem dX6_init_735 : decode cX6_init 735 = .ok (.dup, 1) := by decide +kernel
theorem dX6_init_736 : decode cX6_init 736 = .ok (.bipush 16, 2) := by decide +kernel
theorem dX6_init_738 : decode cX6_init 738 = .ok (.bipush 102, 2) := by decide +kernel
theorem dX6_init_740 : decode cX6_init 740 = .ok (.iastore, 1) := by decide +kernel
theorem dX6_init_741 : decode cX6_init 741 = .ok (.dup, 1) := by decide +kernel
theorem dX6_init_742 : decode cX6_init 742 = .ok (.bipush 17, 2) := by decide +kernel
theorem dX6_init_744 : decode cX6_init 744 = .ok (.bipush 97, 2) := by decide +kernel
theorem dX6_init_746 : decode cX6_init 746 = .ok (.iastore, 1) := by decide +kernel
theorem dX6_init_747 : decode cX6_init 747 = .ok (.dup, 1) := by decide +kernel
theorem dX6_init_748 : decode cX6_init 748 = .ok (.bipush 18, 2) := by decide +kernel
theorem dX6_init_750 : decode cX6_init 750 = .ok (.bipush 100, 2) := by decide +kernel
theorem dX6_init_752 : decode cX6_init 752 = .ok (.iastore, 1) := by decide +kernel
theorem dX6_init_753 : decode cX6_init 753 = .ok (.dup, 1) := by decide +kernel
theorem dX6_init_754 : decode cX6_init 754 = .ok (.bipush 19, 2) := by decide +kernel
theorem dX6_init_756 : decode cX6_init 756 = .ok (.bipush 101, 2) := by decide +kernel
theorem dX6_init_758 : decode cX6_init 758 = .ok (.iastore, 1) := by decide +kernel
theorem dX6_init_759 : decode cX6_init 759 = .ok (.dup, 1) := by decide +kernel
theorem dX6_init_760 : decode cX6_init 760 = .ok (.bipush 20, 2) := by decide +kernel
theorem dX6_init_762 : decode cX6_init 762 = .ok (.bipush 115, 2) := by decide +kernel
theorem dX6_init_764 : decode cX6_init 764 = .ok (.iastore, 1) := by decide +kernel
theorem dX6_init_765 : decode cX6_init 765 = .ok (.dup, 1) := by decide +kernel
theorem dX6_init_766 : decode cX6_init 766 = .ok (.bipush 21, 2) := by decide +kernel
theorem dX6_init_768 : decode cX6_init 768 = .ok (.bipush 32, 2) := by decide +kernel
theorem dX6_init_770 : decode cX6_init 770 = .ok (.iastore, 1) := by decide +kernel
theorem dX6_init_771 : decode cX6_init 771 = .ok (.dup, 1) := by decide +kernel
theorem dX6_init_772 : decode cX6_init 772 = .ok (.bipush 22, 2) := by decide +kernel
theorem dX6_init_774 : decode cX6_init 774 = .ok (.bipush 32, 2) := by decide +kernel
theorem dX6_init_776 : decode cX6_init 776 = .ok (.iastore, 1) := by decide +kernel
theorem dX6_init_777 : decode cX6_init 777 = .ok (.dup, 1) := by decide +kernel
theorem dX6_init_778 : decode cX6_init 778 = .ok (.bipush 23, 2) := by decide +kernel
theorem dX6_init_780 : decode cX6_init 780 = .ok (.bipush 32, 2) := by decide +kernel
theorem dX6_init_782 : decode cX6_init 782 = .ok (.iastore, 1) := by decide +kernel
theorem dX6_init_783 : decode cX6_init 783 = .ok (.dup, 1) := by decide +kernel
theorem dX6_init_784 : decode cX6_init 784 = .ok (.bipush 24, 2) := by decide +kernel
theorem dX6_init_786 : decode cX6_init 786 = .ok (.bipush 98, 2) := by decide +kernel
theorem dX6_init_788 : decode cX6_init 788 = .ok (.iastore, 1) := by decide +kernel
theorem dX6_init_789 : decode cX6_init 789 = .ok (.dup, 1) := by decide +kernel
theorem dX6_init_790 : decode cX6_init 790 = .ok (.bipush 25, 2) := by decide +kernel
theorem dX6_init_792 : decode cX6_init 792 = .ok (.bipush 114, 2) := by decide +kernel
theorem dX6_init_794 : decode cX6_init 794 = .ok (.iastore, 1) := by decide +kernel
theorem dX6_init_795 : decode cX6_init 795 = .ok (.dup, 1) := by decide +kernel
theorem dX6_init_796 : decode cX6_init 796 = .ok (.bipush 26, 2) := by decide +kernel
theorem dX6_init_798 : decode cX6_init 798 = .ok (.bipush 101, 2) := by decide +kernel
theorem dX6_init_800 : decode cX6_init 800 = .ok (.iastore, 1) := by decide +kernel
theorem dX6_init_801 : decode cX6_init 801 = .ok (.dup, 1) := by decide +kernel
theorem dX6_init_802 : decode cX6_init 802 = .ok (.bipush 27, 2) := by decide +kernel
theorem dX6_init_804 : decode cX6_init 804 = .ok (.bipush 97, 2) := by decide +kernel
theorem dX6_init_806 : decode cX6_init 806 = .ok (.iastore, 1) := by decide +kernel
theorem dX6_init_807 : decode cX6_init 807 = .ok (.dup, 1) := by decide +kernel
theorem dX6_init_808 : decode cX6_init 808 = .ok (.bipush 28, 2) := by decide +kernel
theorem dX6_init_810 : decode cX6_init 810 = .ok (.bipush 116, 2) := by decide +kernel
theorem dX6_init_812 : decode cX6_init 812 = .ok (.iastore, 1) := by decide +kernel
theorem dX6_init_813 : decode cX6_init 813 = .ok (.dup, 1) := by decide +kernel
theorem dX6_init_814 : decode cX6_init 814 = .ok (.bipush 29, 2) := by decide +kernel
theorem dX6_init_816 : decode cX6_init 816 = .ok (.bipush 104, 2) := by decide +kernel
theorem dX6_init_818 : decode cX6_init 818 = .ok (.iastore, 1) := by decide +kernel
theorem dX6_init_819 : decode cX6_init 819 = .ok (.dup, 1) := by decide +kernel
theorem dX6_init_820 : decode cX6_init 820 = .ok (.bipush 30, 2) := by decide +kernel
theorem dX6_init_822 : decode cX6_init 822 = .ok (.bipush 32, 2) := by decide +kernel
theorem dX6_init_824 : decode cX6_init 824 = .ok (.iastore, 1) := by decide +kernel
theorem dX6_init_825 : decode cX6_init 825 = .ok (.dup, 1) := by decide +kernel
theorem dX6_init_826 : decode cX6_init 826 = .ok (.bipush 31, 2) := by decide +kernel
theorem dX6_init_828 : decode cX6_init 828 = .ok (.bipush 32, 2) := by decide +kernel
theorem dX6_init_830 : decode cX6_init 830 = .ok (.iastore, 1) := by decide +kernel
theorem dX6_init_831 : decode cX6_init 831 = .ok (.dup, 1) := by decide +kernel
theorem dX6_init_832 : decode cX6_init 832 = .ok (.bipush 32, 2) := by decide +kernel
theorem dX6_init_834 : decode cX6_init 834 = .ok (.bipush 100, 2) := by decide +kernel
theorem dX6_init_836 : decode cX6_init 836 = .ok (.iastore, 1) := by decide +kernel
theorem dX6_init_837 : decode cX6_init 837 = .ok (.dup, 1) := by decide +kernel
theorem dX6_init_838 : decode cX6_init 838 = .ok (.bipush 33, 2) := by decide +kernel
theorem dX6_init_840 : decode cX6_init 840 = .ok (.bipush 101, 2) := by decide +kernel
theorem dX6_init_842 : decode cX6_init 842 = .ok (.iastore, 1) := by decide +kernel
theorem dX6_init_843 : decode cX6_init 843 = .ok (.dup, 1) := by decide +kernel
theorem dX6_init_844 : decode cX6_init 844 = .ok (.bipush 34, 2) := by decide +kernel
theorem dX6_init_846 : decode cX6_init 846 = .ok (.bipush 101, 2) := by decide +kernel
theorem dX6_init_848 : decode cX6_init 848 = .ok (.iastore, 1) := by decide +kernel
theorem dX6_init_849 : decode cX6_init 849 = .ok (.dup, 1) := by decide +kernel
theorem dX6_init_850 : decode cX6_init 850 = .ok (.bipush 35, 2) := by decide +kernel
theorem dX6_init_852 : decode cX6_init 852 = .ok (.bipush 112, 2) := by decide +kernel
theorem dX6_init_854 : decode cX6_init 854 = .ok (.iastore, 1) := by decide +kernel
theorem dX6_init_855 : decode cX6_init 855 = .ok (.dup, 1) := by decide +kernel
theorem dX6_init_856 : decode cX6_init 856 = .ok (.bipush 36, 2) := by decide +kernel
theorem dX6_init_858 : decode cX6_init 858 = .ok (.bipush 32, 2) := by decide +kernel
theorem dX6_init_860 : decode cX6_init 860 = .ok (.iastore, 1) := by decide +kernel
theorem dX6_init_861 : decode cX6_init 861 = .ok (.dup, 1) := by decide +kernel
theorem dX6_init_862 : decode cX6_init 862 = .ok (.bipush 37, 2) := by decide +kernel
theorem dX6_init_864 : decode cX6_init 864 = .ok (.bipush 32, 2) := by decide +kernel
theorem dX6_init_866 : decode cX6_init 866 = .ok (.iastore, 1) := by decide +kernel
theorem dX6_init_867 : decode cX6_init 867 = .ok (.dup, 1) := by decide +kernel
theorem dX6_init_868 : decode cX6_init 868 = .ok (.bipush 38, 2) := by decide +kernel
theorem dX6_init_870 : decode cX6_init 870 = .ok (.bipush 32, 2) := by decide +kernel
theorem dX6_init_872 : decode cX6_init 872 = .ok (.iastore, 1) := by decide +kernel
theorem dX6_init_873 : decode cX6_init 873 = .ok (.dup, 1) := by decide +kernel
theorem dX6_init_874 : decode cX6_init 874 = .ok (.bipush 39, 2) := by decide +kernel
theorem dX6_init_876 : decode cX6_init 876 = .ok (.bipush 32, 2) := by decide +kernel
theorem dX6_init_878 : decode cX6_init 878 = .ok (.iastore, 1) := by decide +kernel
theorem dX6_init_879 : decode cX6_init 879 = .ok (.dup, 1) := by decide +kernel
theorem dX6_init_880 : decode cX6_init 880 = .ok (.bipush 40, 2) := by decide +kernel
theorem dX6_init_882 : decode cX6_init 882 = .ok (.bipush 115, 2) := by decide +kernel
theorem dX6_init_884 : decode cX6_init 884 = .ok (.iastore, 1) := by decide +kernel
theorem dX6_init_885 : decode cX6_init 885 = .ok (.dup, 1) := by decide +kernel
theorem dX6_init_886 : decode cX6_init 886 = .ok (.bipush 41, 2) := by decide +kernel
theorem dX6_init_888 : decode cX6_init 888 = .ok (.bipush 116, 2) := by decide +kernel
theorem dX6_init_890 : decode cX6_init 890 = .ok (.iastore, 1) := by decide +kernel
theorem dX6_init_891 : decode cX6_init 891 = .ok (.dup, 1) := by decide +kernel
theorem dX6_init_892 : decode cX6_init 892 = .ok (.bipush 42, 2) := by decide +kernel
theorem dX6_init_894 : decode cX6_init 894 = .ok (.bipush 114, 2) := by decide +kernel
theorem dX6_init_896 : decode cX6_init 896 = .ok (.iastore, 1) := by decide +kernel
theorem dX6_init_897 : decode cX6_init 897 = .ok (.dup, 1) := by decide +kernel
theorem dX6_init_898 : decode cX6_init 898 = .ok (.bipush 43, 2) := by decide +kernel
theorem dX6_init_900 : decode cX6_init 900 = .ok (.bipush 111, 2) := by decide +kernel
theorem dX6_init_902 : decode cX6_init 902 = .ok (.iastore, 1) := by decide +kernel
theorem dX6_init_903 : decode cX6_init 903 = .ok (.dup, 1) := by decide +kernel
theorem dX6_init_904 : decode cX6_init 904 = .ok (.bipush 44, 2) := by decide +kernel
theorem dX6_init_906 : decode cX6_init 906 = .ok (.bipush 110, 2) := by decide +kernel
theorem dX6_init_908 : decode cX6_init 908 = .ok (.iastore, 1) := by decide +kernel
theorem dX6_init_909 : decode cX6_init 909 = .ok (.dup, 1) := by decide +kernel
theorem dX6_init_910 : decode cX6_init 910 = .ok (.bipush 45, 2) := by decide +kernel
theorem dX6_init_912 : decode cX6_init 912 = .ok (.bipush 103, 2) := by decide +kernel
theorem dX6_init_914 : decode cX6_init 914 = .ok (.iastore, 1) := by decide +kernel
theorem dX6_init_915 : decode cX6_init 915 = .ok (.dup, 1) := by decide +kernel
theorem dX6_init_916 : decode cX6_init 916 = .ok (.bipush 46, 2) := by decide +kernel
theorem dX6_init_918 : decode cX6_init 918 = .ok (.bipush 32, 2) := by decide +kernel
theorem dX6_init_920 : decode cX6_init 920 = .ok (.iastore, 1) := by decide +kernel
theorem dX6_init_921 : decode cX6_init 921 = .ok (.dup, 1) := by decide +kernel
theorem dX6_init_922 : decode cX6_init 922 = .ok (.bipush 47, 2) := by decide +kernel
theorem dX6_init_924 : decode cX6_init 924 = .ok (.bipush 32, 2) := by decide +kernel
theorem dX6_init_926 : decode cX6_init 926 = .ok (.iastore, 1) := by decide +kernel
theorem dX6_init_927 : decode cX6_init 927 = .ok (.dup, 1) := by decide +kernel
theorem dX6_init_928 : decode cX6_init 928 = .ok (.bipush 48, 2) := by decide +kernel
theorem dX6_init_930 : decode cX6_init 930 = .ok (.bipush 115, 2) := by decide +kernel
theorem dX6_init_932 : decode cX6_init 932 = .ok (.iastore, 1) := by decide +kernel
theorem dX6_init_933 : decode cX6_init 933 = .ok (.dup, 1) := by decide +kernel
theorem dX6_init_934 : decode cX6_init 934 = .ok (.bipush 49, 2) := by decide +kernel
theorem dX6_init_936 : decode cX6_init 936 = .ok (.bipush 111, 2) := by decide +kernel
theorem dX6_init_938 : decode cX6_init 938 = .ok (.iastore, 1) := by decide +kernel
theorem dX6_init_939 : decode cX6_init 939 = .ok (.dup, 1) := by decide +kernel
theorem dX6_init_940 : decode cX6_init 940 = .ok (.bipush 50, 2) := by decide +kernel
theorem dX6_init_942 : decode cX6_init 942 = .ok (.bipush 114, 2) := by decide +kernel
theorem dX6_init_944 : decode cX6_init 944 = .ok (.iastore, 1) := by decide +kernel
theorem dX6_init_945 : decode cX6_init 945 = .ok (.dup, 1) := by decide +kernel
theorem dX6_init_946 : decode cX6_init 946 = .ok (.bipush 51, 2) := by decide +kernel
theorem dX6_init_948 : decode cX6_init 948 = .ok (.bipush 116, 2) := by decide +kernel
theorem dX6_init_950 : decode cX6_init 950 = .ok (.iastore, 1) := by decide +kernel
theorem dX6_init_951 : decode cX6_init 951 = .ok (.dup, 1) := by decide +kernel
theorem dX6_init_952 : decode cX6_init 952 = .ok (.bipush 52, 2) := by decide +kernel
theorem dX6_init_954 : decode cX6_init 954 = .ok (.bipush 32, 2) := by decide +kernel
theorem dX6_init_956 : decode cX6_init 956 = .ok (.iastore, 1) := by decide +kernel
theorem dX6_init_957 : decode cX6_init 957 = .ok (.dup, 1) := by decide +kernel
theorem dX6_init_958 : decode cX6_init 958 = .ok (.bipush 53, 2) := by decide +kernel
theorem dX6_init_960 : decode cX6_init 960 = .ok (.bipush 32, 2) := by decide +kernel
theorem dX6_init_962 : decode cX6_init 962 = .ok (.iastore, 1) := by decide +kernel
theorem dX6_init_963 : decode cX6_init 963 = .ok (.dup, 1) := by decide +kernel
theorem dX6_init_964 : decode cX6_init 964 = .ok (.bipush 54, 2) := by decide +kernel
theorem dX6_init_966 : decode cX6_init 966 = .ok (.bipush 32, 2) := by decide +kernel
theorem dX6_init_968 : decode cX6_init 968 = .ok (.iastore, 1) := by decide +kernel
theorem dX6_init_969 : decode cX6_init 969 = .ok (.dup, 1) := by decide +kernel
theorem dX6_init_970 : decode cX6_init 970 = .ok (.bipush 55, 2) := by decide +kernel
theorem dX6_init_972 : decode cX6_init 972 = .ok (.bipush 32, 2) := by decide +kernel
theorem dX6_init_974 : decode cX6_init 974 = .ok (.iastore, 1) := by decide +kernel
theorem dX6_init_975 : decode cX6_init 975 = .ok (.dup, 1) := by decide +kernel
theorem dX6_init_976 : decode cX6_init 976 = .ok (.bipush 56, 2) := by decide +kernel
theorem dX6_init_978 : decode cX6_init 978 = .ok (.bipush 104, 2) := by decide +kernel
theorem dX6_init_980 : decode cX6_init 980 = .ok (.iastore, 1) := by decide +kernel
theorem dX6_init_981 : decode cX6_init 981 = .ok (.dup, 1) := by decide +kernel
theorem dX6_init_982 : decode cX6_init 982 = .ok (.bipush 57, 2) := by decide +kernel
theorem dX6_init_984 : decode cX6_init 984 = .ok (.bipush 111, 2) := by decide +kernel
theorem dX6_init_986 : decode cX6_init 986 = .ok (.iastore, 1) := by decide +kernel
theorem dX6_init_987 : decode cX6_init 987 = .ok (.dup, 1) := by decide +kernel
theorem dX6_init_988 : decode cX6_init 988 = .ok (.bipush 58, 2) := by decide +kernel
theorem dX6_init_990 : decode cX6_init 990 = .ok (.bipush 117, 2) := by decide +kernel
theorem dX6_init_992 : decode cX6_init 992 = .ok (.iastore, 1) := by decide +kernel
theorem dX6_init_993 : decode cX6_init 993 = .ok (.dup, 1) := by decide +kernel
theorem dX6_init_994 : decode cX6_init 994 = .ok (.bipush 59, 2) := by decide +kernel
theorem dX6_init_996 : decode cX6_init 996 = .ok (.bipush 114, 2) := by decide +kernel
theorem dX6_init_998 : decode cX6_init 998 = .ok (.iastore, 1) := by decide +kernel
theorem dX6_init_999 : decode cX6_init 999 = .ok (.dup, 1) := by decide +kernel
theorem dX6_init_1000 : decode cX6_init 1000 = .ok (.bipush 60, 2) := by decide +kernel
theorem dX6_init_1002 : decode cX6_init 1002 = .ok (.bipush 32, 2) := by decide +kernel
theorem dX6_init_1004 : decode cX6_init 1004 = .ok (.iastore, 1) := by decide +kernel
theorem dX6_init_1005 : decode cX6_init 1005 = .ok (.dup, 1) := by decide +kernel
theorem dX6_init_1006 : decode cX6_init 1006 = .ok (.bipush 61, 2) := by decide +kernel
theorem dX6_init_1008 : decode cX6_init 1008 = .ok (.bipush 32, 2) := by decide +kernel
theorem dX6_init_1010 : decode cX6_init 1010 = .ok (.iastore, 1) := by decide +kernel
theorem dX6_init_1011 : decode cX6_init 1011 = .ok (.dup, 1) := by decide +kernel
theorem dX6_init_1012 : decode cX6_init 1012 = .ok (.bipush 62, 2) := by decide +kernel
theorem dX6_init_1014 : decode cX6_init 1014 = .ok (.bipush 32, 2) := by decide +kernel
theorem dX6_init_1016 : decode cX6_init 1016 = .ok (.iastore, 1) := by decide +kernel
theorem dX6_init_1017 : decode cX6_init 1017 = .ok (.dup, 1) := by decide +kernel
theorem dX6_init_1018 : decode cX6_init 1018 = .ok (.bipush 63, 2) := by decide +kernel
theorem dX6_init_1020 : decode cX6_init 1020 = .ok (.bipush 32, 2) := by decide +kernel
theorem dX6_init_1022 : decode cX6_init 1022 = .ok (.iastore, 1) := by decide +kernel
theorem dX6_init_1023 : decode cX6_init 1023 = .ok (.dup, 1) := by decide +kernel
theorem dX6_init_1024 : decode cX6_init 1024 = .ok (.bipush 64, 2) := by decide +kernel
theorem dX6_init_1026 : decode cX6_init 1026 = .ok (.bipush 109, 2) := by decide +kernel
theorem dX6_init_1028 : decode cX6_init 1028 = .ok (.iastore, 1) := by decide +kernel
theorem dX6_init_1029 : decode cX6_init 1029 = .ok (.dup, 1) := by decide +kernel
theorem dX6_init_1030 : decode cX6_init 1030 = .ok (.bipush 65, 2) := by decide +kernel
theorem dX6_init_1032 : decode cX6_init 1032 = .ok (.bipush 111, 2) := by decide +kernel
theorem dX6_init_1034 : decode cX6_init 1034 = .ok (.iastore, 1) := by decide +kernel
theorem dX6_init_1035 : decode cX6_init 1035 = .ok (.dup, 1) := by decide +kernel
theorem dX6_init_1036 : decode cX6_init 1036 = .ok (.bipush 66, 2) := by decide +kernel
theorem dX6_init_1038 : decode cX6_init 1038 = .ok (.bipush 114, 2) := by decide +kernel
theorem dX6_init_1040 : decode cX6_init 1040 = .ok (.iastore, 1) := by decide +kernel
theorem dX6_init_1041 : decode cX6_init 1041 = .ok (.dup, 1) := by decide +kernel
theorem dX6_init_1042 : decode cX6_init 1042 = .ok (.bipush 67, 2) := by decide +kernel
theorem dX6_init_1044 : decode cX6_init 1044 = .ok (.bipush 101, 2) := by decide +kernel
theorem dX6_init_1046 : decode cX6_init 1046 = .ok (.iastore, 1) := by decide +kernel
theorem dX6_init_1047 : decode cX6_init 1047 = .ok (.dup, 1) := by decide +kernel
theorem dX6_init_1048 : decode cX6_init 1048 = .ok (.bipush 68, 2) := by decide +kernel
theorem dX6_init_1050 : decode cX6_init 1050 = .ok (.bipush 32, 2) := by decide +kernel
theorem dX6_init_1052 : decode cX6_init 1052 = .ok (.iastore, 1) := by decide +kernel
theorem dX6_init_1053 : decode cX6_init 1053 = .ok (.dup, 1) := by decide +kernel
theorem dX6_init_1054 : decode cX6_init 1054 = .ok (.bipush 69, 2) := by decide +kernel
theorem dX6_init_1056 : decode cX6_init 1056 = .ok (.bipush 32, 2) := by decide +kernel
theorem dX6_init_1058 : decode cX6_init 1058 = .ok (.iastore, 1) := by decide +kernel
theorem dX6_init_1059 : decode cX6_init 1059 = .ok (.dup, 1) := by decide +kernel
theorem dX6_init_1060 : decode cX6_init 1060 = .ok (.bipush 70, 2) := by decide +kernel
theorem dX6_init_1062 : decode cX6_init 1062 = .ok (.bipush 32, 2) := by decide +kernel
theorem dX6_init_1064 : decode cX6_init 1064 = .ok (.iastore, 1) := by decide +kernel
theorem dX6_init_1065 : decode cX6_init 1065 = .ok (.dup, 1) := by decide +kernel
theorem dX6_init_1066 : decode cX6_init 1066 = .ok (.bipush 71, 2) := by decide +kernel
theorem dX6_init_1068 : decode cX6_init 1068 = .ok (.bipush 32, 2) := by decide +kernel
theorem dX6_init_1070 : decode cX6_init 1070 = .ok (.iastore, 1) := by decide +kernel
theorem dX6_init_1071 : decode cX6_init 1071 = .ok (.dup, 1) := by decide +kernel
theorem dX6_init_1072 : decode cX6_init 1072 = .ok (.bipush 72, 2) := by decide +kernel
theorem dX6_init_1074 : decode cX6_init 1074 = .ok (.bipush 111, 2) := by decide +kernel
theorem dX6_init_1076 : decode cX6_init 1076 = .ok (.iastore, 1) := by decide +kernel
theorem dX6_init_1077 : decode cX6_init 1077 = .ok (.dup, 1) := by decide +kernel
theorem dX6_init_1078 : decode cX6_init 1078 = .ok (.bipush 73, 2) := by decide +kernel
theorem dX6_init_1080 : decode cX6_init 1080 = .ok (.bipush 114, 2) := by decide +kernel
theorem dX6_init_1082 : decode cX6_init 1082 = .ok (.iastore, 1) := by decide +kernel
theorem dX6_init_1083 : decode cX6_init 1083 = .ok (.dup, 1) := by decide +kernel
theorem dX6_init_1084 : decode cX6_init 1084 = .ok (.bipush 74, 2) := by decide +kernel
theorem dX6_init_1086 : decode cX6_init 1086 = .ok (.bipush 32, 2) := by decide +kernel
theorem dX6_init_1088 : decode cX6_init 1088 = .ok (.iastore, 1) := by decide +kernel
theorem dX6_init_1089 : decode cX6_init 1089 = .ok (.dup, 1) := by decide +kernel
theorem dX6_init_1090 : decode cX6_init 1090 = .ok (.bipush 75, 2) := by decide +kernel
theorem dX6_init_1092 : decode cX6_init 1092 = .ok (.bipush 32, 2) := by decide +kernel
theorem dX6_init_1094 : decode cX6_init 1094 = .ok (.iastore, 1) := by decide +kernel
theorem dX6_init_1095 : decode cX6_init 1095 = .ok (.dup, 1) := by decide +kernel
theorem dX6_init_1096 : decode cX6_init 1096 = .ok (.bipush 76, 2) := by decide +kernel
theorem dX6_init_1098 : decode cX6_init 1098 = .ok (.bipush 32, 2) := by decide +kernel
theorem dX6_init_1100 : decode cX6_init 1100 = .ok (.iastore, 1) := by decide +kernel
theorem dX6_init_1101 : decode cX6_init 1101 = .ok (.dup, 1) := by decide +kernel
theorem dX6_init_1102 : decode cX6_init 1102 = .ok (.bipush 77, 2) := by decide +kernel
theorem dX6_init_1104 : decode cX6_init 1104 = .ok (.bipush 32, 2) := by decide +kernel
theorem dX6_init_1106 : decode cX6_init 1106 = .ok (.iastore, 1) := by decide +kernel
theorem dX6_init_1107 : decode cX6_init 1107 = .ok (.dup, 1) := by decide +kernel
theorem dX6_init_1108 : decode cX6_init 1108 = .ok (.bipush 78, 2) := by decide +kernel
theorem dX6_init_1110 : decode cX6_init 1110 = .ok (.bipush 32, 2) := by decide +kernel
theorem dX6_init_1112 : decode cX6_init 1112 = .ok (.iastore, 1) := by decide +kernel
theorem dX6_init_1113 : decode cX6_init 1113 = .ok (.dup, 1) := by decide +kernel
theorem dX6_init_1114 : decode cX6_init 1114 = .ok (.bipush 79, 2) := by decide +kernel
theorem dX6_init_1116 : decode cX6_init 1116 = .ok (.bipush 32, 2) := by decide +kernel
theorem dX6_init_1118 : decode cX6_init 1118 = .ok (.iastore, 1) := by decide +kernel
theorem dX6_init_1119 : decode cX6_init 1119 = .ok (.dup, 1) := by decide +kernel
theorem dX6_init_1120 : decode cX6_init 1120 = .ok (.bipush 80, 2) := by decide +kernel
theorem dX6_init_1122 : decode cX6_init 1122 = .ok (.bipush 97, 2) := by decide +kernel
theorem dX6_init_1124 : decode cX6_init 1124 = .ok (.iastore, 1) := by decide +kernel
theorem dX6_init_1125 : decode cX6_init 1125 = .ok (.dup, 1) := by decide +kernel
theorem dX6_init_1126 : decode cX6_init 1126 = .ok (.bipush 81, 2) := by decide +kernel
theorem dX6_init_1128 : decode cX6_init 1128 = .ok (.bipush 110, 2) := by decide +kernel
theorem dX6_init_1130 : decode cX6_init 1130 = .ok (.iastore, 1) := by decide +kernel
theorem dX6_init_1131 : decode cX6_init 1131 = .ok (.dup, 1) := by decide +kernel
theorem dX6_init_1132 : decode cX6_init 1132 = .ok (.bipush 82, 2) := by decide +kernel
theorem dX6_init_1134 : decode cX6_init 1134 = .ok (.bipush 100, 2) := by decide +kernel
theorem dX6_init_1136 : decode cX6_init 1136 = .ok (.iastore, 1) := by decide +kernel
theorem dX6_init_1137 : decode cX6_init 1137 = .ok (.dup, 1) := by decide +kernel
theorem dX6_init_1138 : decode cX6_init 1138 = .ok (.bipush 83, 2) := by decide +kernel
theorem dX6_init_1140 : decode cX6_init 1140 = .ok (.bipush 32, 2) := by decide +kernel
theorem dX6_init_1142 : decode cX6_init 1142 = .ok (.iastore, 1) := by decide +kernel
theorem dX6_init_1143 : decode cX6_init 1143 = .ok (.dup, 1) := by decide +kernel
theorem dX6_init_1144 : decode cX6_init 1144 = .ok (.bipush 84, 2) := by decide +kernel
theorem dX6_init_1146 : decode cX6_init 1146 = .ok (.bipush 32, 2) := by decide +kernel
theorem dX6_init_1148 : decode cX6_init 1148 = .ok (.iastore, 1) := by decide +kernel
theorem dX6_init_1149 : decode cX6_init 1149 = .ok (.dup, 1) := by decide +kernel
theorem dX6_init_1150 : decode cX6_init 1150 = .ok (.bipush 85, 2) := by decide +kernel
theorem dX6_init_1152 : decode cX6_init 1152 = .ok (.bipush 32, 2) := by decide +kernel
theorem dX6_init_1154 : decode cX6_init 1154 = .ok (.iastore, 1) := by decide +kernel
theorem dX6_init_1155 : decode cX6_init 1155 = .ok (.dup, 1) := by decide +kernel
theorem dX6_init_1156 : decode cX6_init 1156 = .ok (.bipush 86, 2) := by decide +kernel
theorem dX6_init_1158 : decode cX6_init 1158 = .ok (.bipush 32, 2) := by decide +kernel
theorem dX6_init_1160 : decode cX6_init 1160 = .ok (.iastore, 1) := by decide +kernel
theorem dX6_init_1161 : decode cX6_init 1161 = .ok (.dup, 1) := by decide +kernel
theorem dX6_init_1162 : decode cX6_init 1162 = .ok (.bipush 87, 2) := by decide +kernel
theorem dX6_init_1164 : decode cX6_init 1164 = .ok (.bipush 32, 2) := by decide +kernel
theorem dX6_init_1166 : decode cX6_init 1166 = .ok (.iastore, 1) := by decide +kernel
theorem dX6_init_1167 : decode cX6_init 1167 = .ok (.dup, 1) := by decide +kernel
theorem dX6_init_1168 : decode cX6_init 1168 = .ok (.bipush 88, 2) := by decide +kernel
theorem dX6_init_1170 : decode cX6_init 1170 = .ok (.bipush 110, 2) := by decide +kernel
theorem dX6_init_1172 : decode cX6_init 1172 = .ok (.iastore, 1) := by decide +kernel
theorem dX6_init_1173 : decode cX6_init 1173 = .ok (.dup, 1) := by decide +kernel
theorem dX6_init_1174 : decode cX6_init 1174 = .ok (.bipush 89, 2) := by decide +kernel
theorem dX6_init_1176 : decode cX6_init 1176 = .ok (.bipush 111, 2) := by decide +kernel
theorem dX6_init_1178 : decode cX6_init 1178 = .ok (.iastore, 1) := by decide +kernel
theorem dX6_init_1179 : decode cX6_init 1179 = .ok (.dup, 1) := by decide +kernel
theorem dX6_init_1180 : decode cX6_init 1180 = .ok (.bipush 90, 2) := by decide +kernel
theorem dX6_init_1182 : decode cX6_init 1182 = .ok (.bipush 116, 2) := by decide +kernel
theorem dX6_init_1184 : decode cX6_init 1184 = .ok (.iastore, 1) := by decide +kernel
theorem dX6_init_1185 : decode cX6_init 1185 = .ok (.dup, 1) := by decide +kernel
theorem dX6_init_1186 : decode cX6_init 1186 = .ok (.bipush 91, 2) := by decide +kernel
theorem dX6_init_1188 : decode cX6_init 1188 = .ok (.bipush 32, 2) := by decide +kernel
theorem dX6_init_1190 : decode cX6_init 1190 = .ok (.iastore, 1) := by decide +kernel
theorem dX6_init_1191 : decode cX6_init 1191 = .ok (.dup, 1) := by decide +kernel
theorem dX6_init_1192 : decode cX6_init 1192 = .ok (.bipush 92, 2) := by decide +kernel
theorem dX6_init_1194 : decode cX6_init 1194 = .ok (.bipush 32, 2) := by decide +kernel
theorem dX6_init_1196 : decode cX6_init 1196 = .ok (.iastore, 1) := by decide +kernel
theorem dX6_init_1197 : decode cX6_init 1197 = .ok (.dup, 1) := by decide +kernel
theorem dX6_init_1198 : decode cX6_init 1198 = .ok (.bipush 93, 2) := by decide +kernel
theorem dX6_init_1200 : decode cX6_init 1200 = .ok (.bipush 32, 2) := by decide +kernel
theorem dX6_init_1202 : decode cX6_init 1202 = .ok (.iastore, 1) := by decide +kernel
theorem dX6_init_1203 : decode cX6_init 1203 = .ok (.dup, 1) := by decide +kernel
theorem dX6_init_1204 : decode cX6_init 1204 = .ok (.bipush 94, 2) := by decide +kernel
theorem dX6_init_1206 : decode cX6_init 1206 = .ok (.bipush 32, 2) := by decide +kernel
theorem dX6_init_1208 : decode cX6_init 1208 = .ok (.iastore, 1) := by decide +kernel
theorem dX6_init_1209 : decode cX6_init 1209 = .ok (.dup, 1) := by decide +kernel
theorem dX6_init_1210 : decode cX6_init 1210 = .ok (.bipush 95, 2) := by decide +kernel
theorem dX6_init_1212 : decode cX6_init 1212 = .ok (.bipush 32, 2) := by decide +kernel
theorem dX6_init_1214 : decode cX6_init 1214 = .ok (.iastore, 1) := by decide +kernel
theorem dX6_init_1215 : decode cX6_init 1215 = .ok (.putfield 52, 3) := by decide +kernel
theorem dX6_init_1218 : decode cX6_init 1218 = .ok (.aload_n 0, 1) := by decide +kernel
theorem dX6_init_1219 : decode cX6_init 1219 = .ok (.sipush 200, 3) := by decide +kernel
theorem dX6_init_1222 : decode cX6_init 1222 = .ok (.newarray .int, 2) := by decide +kernel
theorem dX6_init_1224 : decode cX6_init 1224 = .ok (.putfield 55, 3) := by decide +kernel
theorem dX6_init_1227 : decode cX6_init 1227 = .ok (.aload_n 0, 1) := by decide +kernel
theorem dX6_init_1228 : decode cX6_init 1228 = .ok (.sipush 200, 3) := by decide +kernel
theorem dX6_init_1231 : decode cX6_init 1231 = .ok (.newarray .int, 2) := by decide +kernel
theorem dX6_init_1233 : decode cX6_init 1233 = .ok (.putfield 58, 3) := by decide +kernel
theorem dX6_init_1236 : decode cX6_init 1236 = .ok (.aload_n 0, 1) := by decide +kernel
theorem dX6_init_1237 : decode cX6_init 1237 = .ok (.bipush 6, 2) := by decide +kernel
theorem dX6_init_1239 : decode cX6_init 1239 = .ok (.newarray .int, 2) := by decide +kernel
theorem dX6_init_1241 : decode cX6_init 1241 = .ok (.putfield 61, 3) := by decide +kernel
theorem dX6_init_1244 : decode cX6_init 1244 = .ok (.aload_n 0, 1) := by decide +kernel
theorem dX6_init_1245 : decode cX6_init 1245 = .ok (.bipush 67, 2) := by decide +kernel
theorem dX6_init_1247 : decode cX6_init 1247 = .ok (.newarray .int, 2) := by decide +kernel
theorem dX6_init_1249 : decode cX6_init 1249 = .ok (.putfield 64, 3) := by decide +kernel
theorem dX6_init_1252 : decode cX6_init 1252 = .ok (.iconst 0, 1) := by decide +kernel
theorem dX6_init_1253 : decode cX6_init 1253 = .ok (.istore_n 1, 1) := by decide +kernel
theorem dX6_init_1254 : decode cX6_init 1254 = .ok (.iload_n 1, 1) := by decide +kernel
theorem dX6_init_1255 : decode cX6_init 1255 = .ok (.bipush 43, 2) := by decide +kernel
theorem dX6_init_1257 : decode cX6_init 1257 = .ok (.if_icmp .ge 21, 3) := by decide +kernel
theorem dX6_init_1260 : decode cX6_init 1260 = .ok (.aload_n 0, 1) := by decide +kernel
theorem dX6_init_1261 : decode cX6_init 1261 = .ok (.getfield 25, 3) := by decide +kernel
theorem dX6_init_1264 : decode cX6_init 1264 = .ok (.iload_n 1, 1) := by decide +kernel
theorem dX6_init_1265 : decode cX6_init 1265 = .ok (.aload_n 0, 1) := by decide +kernel
theorem dX6_init_1266 : decode cX6_init 1266 = .ok (.getfield 49, 3) := by decide +kernel
theorem dX6_init_1269 : decode cX6_init 1269 = .ok (.iload_n 1, 1) := by decide +kernel
theorem dX6_init_1270 : decode cX6_init 1270 = .ok (.iaload, 1) := by decide +kernel
theorem dX6_init_1271 : decode cX6_init 1271 = .ok (.iastore, 1) := by decide +kernel
theorem dX6_init_1272 : decode cX6_init 1272 = .ok (.iinc 1 1, 3) := by decide +kernel
theorem dX6_init_1275 : decode cX6_init 1275 = .ok (.goto (-21), 3) := by decide +kernel
theorem dX6_init_1278 : decode cX6_init 1278 = .ok (.aload_n 0, 1) := by decide +kernel
theorem dX6_init_1279 : decode cX6_init 1279 = .ok (.bipush 43, 2) := by decide +kernel
theorem dX6_init_1281 : decode cX6_init 1281 = .ok (.putfield 67, 3) := by decide +kernel
theorem dX6_init_1284 : decode cX6_init 1284 = .ok (.aload_n 0, 1) := by decide +kernel
theorem dX6_init_1285 : decode cX6_init 1285 = .ok (.invokevirtual 71, 3) := by decide +kernel
theorem dX6_init_1288 : decode cX6_init 1288 = .ok (.pop, 1) := by decide +kernel
theorem dX6_init_1289 : decode cX6_init 1289 = .ok (.return_, 1) := by decide +kernel
theorem dX6_in_0 : decode cX6_in 0 = .ok (.iload_n 0, 1) := by decide +kernel
theorem dX6_in_1 : decode cX6_in 1 = .ok (.iload_n 1, 1) := by decide +kernel
theorem dX6_in_2 : decode cX6_in 2 = .ok (.if_icmp .lt 12, 3) := by decide +kernel
theorem dX6_in_5 : decode cX6_in 5 = .ok (.iload_n 0, 1) := by decide +kernel
theorem dX6_in_6 : decode cX6_in 6 = .ok (.iload_n 2, 1) := by decide +kernel
theorem dX6_in_7 : decode cX6_in 7 = .ok (.if_icmp .gt 7, 3) := by decide +kernel
theorem dX6_in_10 : decode cX6_in 10 = .ok (.iconst 1, 1) := by decide +kernel
theorem dX6_in_11 : decode cX6_in 11 = .ok (.goto 4, 3) := by decide +kernel
theorem dX6_in_14 : decode cX6_in 14 = .ok (.iconst 0, 1) := by decide +kernel
theorem dX6_in_15 : decode cX6_in 15 = .ok (.ireturn, 1) := by decide +kernel
theorem dX6_within_0 : decode cX6_within 0 = .ok (.iload_n 0, 1) := by decide +kernel
theorem dX6_within_1 : decode cX6_within 1 = .ok (.iload_n 1, 1) := by decide +kernel
theorem dX6_within_2 : decode cX6_within 2 = .ok (.if_icmp .ge 7, 3) := by decide +kernel
theorem dX6_within_5 : decode cX6_within 5 = .ok (.iload_n 1, 1) := by decide +kernel
theorem dX6_within_6 : decode cX6_within 6 = .ok (.goto 13, 3) := by decide +kernel
theorem dX6_within_9 : decode cX6_within 9 = .ok (.iload_n 0, 1) := by decide +kernel
theorem dX6_within_10 : decode cX6_within 10 = .ok (.iload_n 2, 1) := by decide +kernel
theorem dX6_within_11 : decode cX6_within 11 = .ok (.if_icmp .le 7, 3) := by decide +kernel
theorem dX6_within_14 : decode cX6_within 14 = .ok (.iload_n 2, 1) := by decide +kernel
theorem dX6_within_15 : decode cX6_within 15 = .ok (.goto 4, 3) := by decide +kernel
theorem dX6_within_18 : decode cX6_within 18 = .ok (.iload_n 0, 1) := by decide +kernel
theorem dX6_within_19 : decode cX6_within 19 = .ok (.ireturn, 1) := by decide +kernel
theorem dX6_isOne_0 : decode cX6_isOne 0 = .ok (.iload_n 1, 1) := by decide +kernel
theorem dX6_isOne_1 : decode cX6_isOne 1 = .ok (.iconst 0, 1) := by decide +kernel
theorem dX6_isOne_2 : decode cX6_isOne 2 = .ok (.aload_n 0, 1) := by decide +kernel
theorem dX6_isOne_3 : decode cX6_isOne 3 = .ok (.getfield 75, 3) := by decide +kernel
theorem dX6_isOne_6 : decode cX6_isOne 6 = .ok (.iconst 1, 1) := by decide +kernel
theorem dX6_isOne_7 : decode cX6_isOne 7 = .ok (.isub, 1) := by decide +kernel
theorem dX6_isOne_8 : decode cX6_isOne 8 = .ok (.invokestatic 78, 3) := by decide +kernel
theorem dX6_isOne_11 : decode cX6_isOne 11 = .ok (.ireturn, 1) := by decide +kernel
theorem dX6_isCask_0 : decode cX6_isCask 0 = .ok (.iload_n 0, 1) := by decide +kernel
theorem dX6_isCask_1 : decode cX6_isCask 1 = .ok (.iconst 0, 1) := by decide +kernel
theorem dX6_isCask_2 : decode cX6_isCask 2 = .ok (.bipush 11, 2) := by decide +kernel
theorem dX6_isCask_4 : decode cX6_isCask 4 = .ok (.invokestatic 78, 3) := by decide +kernel
theorem dX6_isCask_7 : decode cX6_isCask 7 = .ok (.ireturn, 1) := by decide +kernel
theorem dX6_isSky_0 : decode cX6_isSky 0 = .ok (.iload_n 0, 1) := by decide +kernel
theorem dX6_isSky_1 : decode cX6_isSky 1 = .ok (.iconst 0, 1) := by decide +kernel
theorem dX6_isSky_2 : decode cX6_isSky 2 = .ok (.iconst 5, 1) := by decide +kernel
theorem dX6_isSky_3 : decode cX6_isSky 3 = .ok (.invokestatic 78, 3) := by decide +kernel
theorem dX6_isSky_6 : decode cX6_isSky 6 = .ok (.ireturn, 1) := by decide +kernel
theorem dX6_placed_0 : decode cX6_placed 0 = .ok (.iconst 0, 1) := by decide +kernel
theorem dX6_placed_1 : decode cX6_placed 1 = .ok (.istore_n 2, 1) := by decide +kernel
theorem dX6_placed_2 : decode cX6_placed 2 = .ok (.iconst 0, 1) := by decide +kernel
theorem dX6_placed_3 : decode cX6_placed 3 = .ok (.istore_n 3, 1) := by decide +kernel
theorem dX6_placed_4 : decode cX6_placed 4 = .ok (.iload_n 3, 1) := by decide +kernel
theorem dX6_placed_5 : decode cX6_placed 5 = .ok (.bipush 12, 2) := by decide +kernel
theorem dX6_placed_7 : decode cX6_placed 7 = .ok (.if_icmp .ge 33, 3) := by decide +kernel
theorem dX6_placed_10 : decode cX6_placed 10 = .ok (.iload_n 2, 1) := by decide +kernel
theorem dX6_placed_11 : decode cX6_placed 11 = .ok (.aload_n 0, 1) := by decide +kernel
theorem dX6_placed_12 : decode cX6_placed 12 = .ok (.getfield 19, 3) := by decide +kernel
theorem dX6_placed_15 : decode cX6_placed 15 = .ok (.iconst 4, 1) := by decide +kernel
theorem dX6_placed_16 : decode cX6_placed 16 = .ok (.iload_n 3, 1) := by decide +kernel
theorem dX6_placed_17 : decode cX6_placed 17 = .ok (.imul, 1) := by decide +kernel
theorem dX6_placed_18 : decode cX6_placed 18 = .ok (.iconst 3, 1) := by decide +kernel
theorem dX6_placed_19 : decode cX6_placed 19 = .ok (.iadd, 1) := by decide +kernel
theorem dX6_placed_20 : decode cX6_placed 20 = .ok (.iaload, 1) := by decide +kernel
theorem dX6_placed_21 : decode cX6_placed 21 = .ok (.iload_n 1, 1) := by decide +kernel
theorem dX6_placed_22 : decode cX6_placed 22 = .ok (.if_icmp .ne 9, 3) := by decide +kernel
theorem dX6_placed_25 : decode cX6_placed 25 = .ok (.iconst 1, 1) := by decide +kernel
theorem dX6_placed_26 : decode cX6_placed 26 = .ok (.iload_n 3, 1) := by decide +kernel
theorem dX6_placed_27 : decode cX6_placed 27 = .ok (.ishl, 1) := by decide +kernel
theorem dX6_placed_28 : decode cX6_placed 28 = .ok (.goto 4, 3) := by decide +kernel
theorem dX6_placed_31 : decode cX6_placed 31 = .ok (.iconst 0, 1) := by decide +kernel
theorem dX6_placed_32 : decode cX6_placed 32 = .ok (.ior, 1) := by decide +kernel
theorem dX6_placed_33 : decode cX6_placed 33 = .ok (.istore_n 2, 1) := by decide +kernel
theorem dX6_placed_34 : decode cX6_placed 34 = .ok (.iinc 3 1, 3) := by decide +kernel
theorem dX6_placed_37 : decode cX6_placed 37 = .ok (.goto (-33), 3) := by decide +kernel
theorem dX6_placed_40 : decode cX6_placed 40 = .ok (.iload_n 2, 1) := by decide +kernel
theorem dX6_placed_41 : decode cX6_placed 41 = .ok (.ireturn, 1) := by decide +kernel
theorem dX6_onesOf_0 : decode cX6_onesOf 0 = .ok (.iconst 0, 1) := by decide +kernel
theorem dX6_onesOf_1 : decode cX6_onesOf 1 = .ok (.istore_n 1, 1) := by decide +kernel
theorem dX6_onesOf_2 : decode cX6_onesOf 2 = .ok (.iconst 0, 1) := by decide +kernel
theorem dX6_onesOf_3 : decode cX6_onesOf 3 = .ok (.istore_n 2, 1) := by decide +kernel
theorem dX6_onesOf_4 : decode cX6_onesOf 4 = .ok (.iload_n 2, 1) := by decide +kernel
theorem dX6_onesOf_5 : decode cX6_onesOf 5 = .ok (.bipush 12, 2) := by decide +kernel
theorem dX6_onesOf_7 : decode cX6_onesOf 7 = .ok (.if_icmp .ge 17, 3) := by decide +kernel
theorem dX6_onesOf_10 : decode cX6_onesOf 10 = .ok (.iload_n 1, 1) := by decide +kernel
theorem dX6_onesOf_11 : decode cX6_onesOf 11 = .ok (.iload_n 0, 1) := by decide +kernel
theorem dX6_onesOf_12 : decode cX6_onesOf 12 = .ok (.iload_n 2, 1) := by decide +kernel
theorem dX6_onesOf_13 : decode cX6_onesOf 13 = .ok (.ishr, 1) := by decide +kernel
theorem dX6_onesOf_14 : decode cX6_onesOf 14 = .ok (.iconst 1, 1) := by decide +kernel
theorem dX6_onesOf_15 : decode cX6_onesOf 15 = .ok (.iand, 1) := by decide +kernel
theorem dX6_onesOf_16 : decode cX6_onesOf 16 = .ok (.iadd, 1) := by decide +kernel
theorem dX6_onesOf_17 : decode cX6_onesOf 17 = .ok (.istore_n 1, 1) := by decide +kernel
theorem dX6_onesOf_18 : decode cX6_onesOf 18 = .ok (.iinc 2 1, 3) := by decide +kernel
theorem dX6_onesOf_21 : decode cX6_onesOf 21 = .ok (.goto (-17), 3) := by decide +kernel
theorem dX6_onesOf_24 : decode cX6_onesOf 24 = .ok (.iload_n 1, 1) := by decide +kernel
theorem dX6_onesOf_25 : decode cX6_onesOf 25 = .ok (.ireturn, 1) := by decide +kernel
theorem dX6_count_0 : decode cX6_count 0 = .ok (.iload_n 1, 1) := by decide +kernel
theorem dX6_count_1 : decode cX6_count 1 = .ok (.tableswitch 79 0 6 #[43, 48, 48, 59, 64, 69, 74], 43) := by decide +kernel
theorem dX6_count_44 : decode cX6_count 44 = .ok (.aload_n 0, 1) := by decide +kernel
theorem dX6_count_45 : decode cX6_count 45 = .ok (.getfield 75, 3) := by decide +kernel
theorem dX6_count_48 : decode cX6_count 48 = .ok (.ireturn, 1) := by decide +kernel
theorem dX6_count_49 : decode cX6_count 49 = .ok (.aload_n 0, 1) := by decide +kernel
theorem dX6_count_50 : decode cX6_count 50 = .ok (.iload_n 1, 1) := by decide +kernel
theorem dX6_count_51 : decode cX6_count 51 = .ok (.iconst 1, 1) := by decide +kernel
theorem dX6_count_52 : decode cX6_count 52 = .ok (.isub, 1) := by decide +kernel
theorem dX6_count_53 : decode cX6_count 53 = .ok (.invokevirtual 82, 3) := by decide +kernel
theorem dX6_count_56 : decode cX6_count 56 = .ok (.invokestatic 86, 3) := by decide +kernel
theorem dX6_count_59 : decode cX6_count 59 = .ok (.ireturn, 1) := by decide +kernel
theorem dX6_count_60 : decode cX6_count 60 = .ok (.aload_n 0, 1) := by decide +kernel
theorem dX6_count_61 : decode cX6_count 61 = .ok (.getfield 89, 3) := by decide +kernel
theorem dX6_count_64 : decode cX6_count 64 = .ok (.ireturn, 1) := by decide +kernel
theorem dX6_count_65 : decode cX6_count 65 = .ok (.aload_n 0, 1) := by decide +kernel
theorem dX6_count_66 : decode cX6_count 66 = .ok (.getfield 92, 3) := by decide +kernel
theorem dX6_count_69 : decode cX6_count 69 = .ok (.ireturn, 1) := by decide +kernel
theorem dX6_count_70 : decode cX6_count 70 = .ok (.aload_n 0, 1) := by decide +kernel
theorem dX6_count_71 : decode cX6_count 71 = .ok (.getfield 95, 3) := by decide +kernel
theorem dX6_count_74 : decode cX6_count 74 = .ok (.ireturn, 1) := by decide +kernel
theorem dX6_count_75 : decode cX6_count 75 = .ok (.aload_n 0, 1) := by decide +kernel
theorem dX6_count_76 : decode cX6_count 76 = .ok (.getfield 67, 3) := by decide +kernel
theorem dX6_count_79 : decode cX6_count 79 = .ok (.ireturn, 1) := by decide +kernel
theorem dX6_count_80 : decode cX6_count 80 = .ok (.bipush (-2), 2) := by decide +kernel
theorem dX6_count_82 : decode cX6_count 82 = .ok (.ireturn, 1) := by decide +kernel
theorem dX6_cask_0 : decode cX6_cask 0 = .ok (.iload_n 1, 1) := by decide +kernel
theorem dX6_cask_1 : decode cX6_cask 1 = .ok (.invokestatic 98, 3) := by decide +kernel
theorem dX6_cask_4 : decode cX6_cask 4 = .ok (.ifCond .ne 6, 3) := by decide +kernel
theorem dX6_cask_7 : decode cX6_cask 7 = .ok (.bipush (-5), 2) := by decide +kernel
theorem dX6_cask_9 : decode cX6_cask 9 = .ok (.ireturn, 1) := by decide +kernel
theorem dX6_cask_10 : decode cX6_cask 10 = .ok (.iload_n 2, 1) := by decide +kernel
theorem dX6_cask_11 : decode cX6_cask 11 = .ok (.ifCond .ne 7, 3) := by decide +kernel
theorem dX6_cask_14 : decode cX6_cask 14 = .ok (.iconst 5, 1) := by decide +kernel
theorem dX6_cask_15 : decode cX6_cask 15 = .ok (.goto 14, 3) := by decide +kernel
theorem dX6_cask_18 : decode cX6_cask 18 = .ok (.iload_n 2, 1) := by decide +kernel
theorem dX6_cask_19 : decode cX6_cask 19 = .ok (.iconst 3, 1) := by decide +kernel
theorem dX6_cask_20 : decode cX6_cask 20 = .ok (.if_icmp .ne 7, 3) := by decide +kernel
theorem dX6_cask_23 : decode cX6_cask 23 = .ok (.iconst 2, 1) := by decide +kernel
theorem dX6_cask_24 : decode cX6_cask 24 = .ok (.goto 5, 3) := by decide +kernel
theorem dX6_cask_27 : decode cX6_cask 27 = .ok (.bipush 99, 2) := by decide +kernel
theorem dX6_cask_29 : decode cX6_cask 29 = .ok (.istore 4, 2) := by decide +kernel
theorem dX6_cask_31 : decode cX6_cask 31 = .ok (.iload_n 2, 1) := by decide +kernel
theorem dX6_cask_32 : decode cX6_cask 32 = .ok (.iconst 0, 1) := by decide +kernel
theorem dX6_cask_33 : decode cX6_cask 33 = .ok (.iconst 3, 1) := by decide +kernel
theorem dX6_cask_34 : decode cX6_cask 34 = .ok (.invokestatic 78, 3) := by decide +kernel
theorem dX6_cask_37 : decode cX6_cask 37 = .ok (.ifCond .eq 13, 3) := by decide +kernel
theorem dX6_cask_40 : decode cX6_cask 40 = .ok (.iload_n 3, 1) := by decide +kernel
theorem dX6_cask_41 : decode cX6_cask 41 = .ok (.iconst 0, 1) := by decide +kernel
theorem dX6_cask_42 : decode cX6_cask 42 = .ok (.iload 4, 2) := by decide +kernel
theorem dX6_cask_44 : decode cX6_cask 44 = .ok (.invokestatic 78, 3) := by decide +kernel
theorem dX6_cask_47 : decode cX6_cask 47 = .ok (.ifCond .ne 6, 3) := by decide +kernel
theorem dX6_cask_50 : decode cX6_cask 50 = .ok (.bipush (-7), 2) := by decide +kernel
theorem dX6_cask_52 : decode cX6_cask 52 = .ok (.ireturn, 1) := by decide +kernel
theorem dX6_cask_53 : decode cX6_cask 53 = .ok (.aload_n 0, 1) := by decide +kernel
theorem dX6_cask_54 : decode cX6_cask 54 = .ok (.getfield 19, 3) := by decide +kernel
theorem dX6_cask_57 : decode cX6_cask 57 = .ok (.iconst 4, 1) := by decide +kernel
theorem dX6_cask_58 : decode cX6_cask 58 = .ok (.iload_n 1, 1) := by decide +kernel
theorem dX6_cask_59 : decode cX6_cask 59 = .ok (.imul, 1) := by decide +kernel
theorem dX6_cask_60 : decode cX6_cask 60 = .ok (.iload_n 2, 1) := by decide +kernel
theorem dX6_cask_61 : decode cX6_cask 61 = .ok (.iadd, 1) := by decide +kernel
theorem dX6_cask_62 : decode cX6_cask 62 = .ok (.iaload, 1) := by decide +kernel
theorem dX6_cask_63 : decode cX6_cask 63 = .ok (.istore 5, 2) := by decide +kernel
theorem dX6_cask_65 : decode cX6_cask 65 = .ok (.aload_n 0, 1) := by decide +kernel
theorem dX6_cask_66 : decode cX6_cask 66 = .ok (.getfield 19, 3) := by decide +kernel
theorem dX6_cask_69 : decode cX6_cask 69 = .ok (.iconst 4, 1) := by decide +kernel
theorem dX6_cask_70 : decode cX6_cask 70 = .ok (.iload_n 1, 1) := by decide +kernel
theorem dX6_cask_71 : decode cX6_cask 71 = .ok (.imul, 1) := by decide +kernel
theorem dX6_cask_72 : decode cX6_cask 72 = .ok (.iload_n 2, 1) := by decide +kernel
theorem dX6_cask_73 : decode cX6_cask 73 = .ok (.iadd, 1) := by decide +kernel
theorem dX6_cask_74 : decode cX6_cask 74 = .ok (.iload_n 3, 1) := by decide +kernel
theorem dX6_cask_75 : decode cX6_cask 75 = .ok (.iastore, 1) := by decide +kernel
theorem dX6_cask_76 : decode cX6_cask 76 = .ok (.iload 5, 2) := by decide +kernel
theorem dX6_cask_78 : decode cX6_cask 78 = .ok (.ireturn, 1) := by decide +kernel
theorem dX6_lies_0 : decode cX6_lies 0 = .ok (.iload_n 1, 1) := by decide +kernel
theorem dX6_lies_1 : decode cX6_lies 1 = .ok (.invokestatic 98, 3) := by decide +kernel
theorem dX6_lies_4 : decode cX6_lies 4 = .ok (.ifCond .ne 6, 3) := by decide +kernel
theorem dX6_lies_7 : decode cX6_lies 7 = .ok (.bipush (-5), 2) := by decide +kernel
theorem dX6_lies_9 : decode cX6_lies 9 = .ok (.ireturn, 1) := by decide +kernel
theorem dX6_lies_10 : decode cX6_lies 10 = .ok (.iload_n 2, 1) := by decide +kernel
theorem dX6_lies_11 : decode cX6_lies 11 = .ok (.iconst 0, 1) := by decide +kernel
theorem dX6_lies_12 : decode cX6_lies 12 = .ok (.iconst 3, 1) := by decide +kernel
theorem dX6_lies_13 : decode cX6_lies 13 = .ok (.invokestatic 78, 3) := by decide +kernel
theorem dX6_lies_16 : decode cX6_lies 16 = .ok (.ifCond .eq 16, 3) := by decide +kernel
theorem dX6_lies_19 : decode cX6_lies 19 = .ok (.aload_n 0, 1) := by decide +kernel
theorem dX6_lies_20 : decode cX6_lies 20 = .ok (.getfield 19, 3) := by decide +kernel
theorem dX6_lies_23 : decode cX6_lies 23 = .ok (.iconst 4, 1) := by decide +kernel
theorem dX6_lies_24 : decode cX6_lies 24 = .ok (.iload_n 1, 1) := by decide +kernel
theorem dX6_lies_25 : decode cX6_lies 25 = .ok (.imul, 1) := by decide +kernel
theorem dX6_lies_26 : decode cX6_lies 26 = .ok (.iload_n 2, 1) := by decide +kernel
theorem dX6_lies_27 : decode cX6_lies 27 = .ok (.iadd, 1) := by decide +kernel
theorem dX6_lies_28 : decode cX6_lies 28 = .ok (.iaload, 1) := by decide +kernel
theorem dX6_lies_29 : decode cX6_lies 29 = .ok (.goto 5, 3) := by decide +kernel
theorem dX6_lies_32 : decode cX6_lies 32 = .ok (.bipush (-7), 2) := by decide +kernel
theorem dX6_lies_34 : decode cX6_lies 34 = .ok (.ireturn, 1) := by decide +kernel
theorem dX6_sky_0 : decode cX6_sky 0 = .ok (.iload_n 1, 1) := by decide +kernel
theorem dX6_sky_1 : decode cX6_sky 1 = .ok (.iconst 0, 1) := by decide +kernel
theorem dX6_sky_2 : decode cX6_sky 2 = .ok (.bipush 6, 2) := by decide +kernel
theorem dX6_sky_4 : decode cX6_sky 4 = .ok (.invokestatic 78, 3) := by decide +kernel
theorem dX6_sky_7 : decode cX6_sky 7 = .ok (.ifCond .ne 6, 3) := by decide +kernel
theorem dX6_sky_10 : decode cX6_sky 10 = .ok (.bipush (-5), 2) := by decide +kernel
theorem dX6_sky_12 : decode cX6_sky 12 = .ok (.ireturn, 1) := by decide +kernel
theorem dX6_sky_13 : decode cX6_sky 13 = .ok (.iload_n 2, 1) := by decide +kernel
theorem dX6_sky_14 : decode cX6_sky 14 = .ok (.iconst 0, 1) := by decide +kernel
theorem dX6_sky_15 : decode cX6_sky 15 = .ok (.iload_n 1, 1) := by decide +kernel
theorem dX6_sky_16 : decode cX6_sky 16 = .ok (.bipush 6, 2) := by decide +kernel
theorem dX6_sky_18 : decode cX6_sky 18 = .ok (.if_icmp .ne 9, 3) := by decide +kernel
theorem dX6_sky_21 : decode cX6_sky 21 = .ok (.sipush 999, 3) := by decide +kernel
theorem dX6_sky_24 : decode cX6_sky 24 = .ok (.goto 5, 3) := by decide +kernel
theorem dX6_sky_27 : decode cX6_sky 27 = .ok (.bipush 99, 2) := by decide +kernel
theorem dX6_sky_29 : decode cX6_sky 29 = .ok (.invokestatic 78, 3) := by decide +kernel
theorem dX6_sky_32 : decode cX6_sky 32 = .ok (.ifCond .ne 6, 3) := by decide +kernel
theorem dX6_sky_35 : decode cX6_sky 35 = .ok (.bipush (-7), 2) := by decide +kernel
theorem dX6_sky_37 : decode cX6_sky 37 = .ok (.ireturn, 1) := by decide +kernel
theorem dX6_sky_38 : decode cX6_sky 38 = .ok (.iload_n 1, 1) := by decide +kernel
theorem dX6_sky_39 : decode cX6_sky 39 = .ok (.bipush 6, 2) := by decide +kernel
theorem dX6_sky_41 : decode cX6_sky 41 = .ok (.if_icmp .ne 15, 3) := by decide +kernel
theorem dX6_sky_44 : decode cX6_sky 44 = .ok (.aload_n 0, 1) := by decide +kernel
theorem dX6_sky_45 : decode cX6_sky 45 = .ok (.getfield 89, 3) := by decide +kernel
theorem dX6_sky_48 : decode cX6_sky 48 = .ok (.istore_n 3, 1) := by decide +kernel
theorem dX6_sky_49 : decode cX6_sky 49 = .ok (.aload_n 0, 1) := by decide +kernel
theorem dX6_sky_50 : decode cX6_sky 50 = .ok (.iload_n 2, 1) := by decide +kernel
theorem dX6_sky_51 : decode cX6_sky 51 = .ok (.putfield 89, 3) := by decide +kernel
theorem dX6_sky_54 : decode cX6_sky 54 = .ok (.iload_n 3, 1) := by decide +kernel
theorem dX6_sky_55 : decode cX6_sky 55 = .ok (.ireturn, 1) := by decide +kernel
theorem dX6_sky_56 : decode cX6_sky 56 = .ok (.aload_n 0, 1) := by decide +kernel
theorem dX6_sky_57 : decode cX6_sky 57 = .ok (.getfield 22, 3) := by decide +kernel
theorem dX6_sky_60 : decode cX6_sky 60 = .ok (.iload_n 1, 1) := by decide +kernel
theorem dX6_sky_61 : decode cX6_sky 61 = .ok (.iaload, 1) := by decide +kernel
theorem dX6_sky_62 : decode cX6_sky 62 = .ok (.istore_n 3, 1) := by decide +kernel
theorem dX6_sky_63 : decode cX6_sky 63 = .ok (.aload_n 0, 1) := by decide +kernel
theorem dX6_sky_64 : decode cX6_sky 64 = .ok (.getfield 22, 3) := by decide +kernel
theorem dX6_sky_67 : decode cX6_sky 67 = .ok (.iload_n 1, 1) := by decide +kernel
theorem dX6_sky_68 : decode cX6_sky 68 = .ok (.iload_n 2, 1) := by decide +kernel
theorem dX6_sky_69 : decode cX6_sky 69 = .ok (.iastore, 1) := by decide +kernel
theorem dX6_sky_70 : decode cX6_sky 70 = .ok (.iload_n 3, 1) := by decide +kernel
theorem dX6_sky_71 : decode cX6_sky 71 = .ok (.ireturn, 1) := by decide +kernel
theorem dX6_isByte_0 : decode cX6_isByte 0 = .ok (.iload_n 0, 1) := by decide +kernel
theorem dX6_isByte_1 : decode cX6_isByte 1 = .ok (.iconst 0, 1) := by decide +kernel
theorem dX6_isByte_2 : decode cX6_isByte 2 = .ok (.sipush 255, 3) := by decide +kernel
theorem dX6_isByte_5 : decode cX6_isByte 5 = .ok (.invokestatic 78, 3) := by decide +kernel
theorem dX6_isByte_8 : decode cX6_isByte 8 = .ok (.ireturn, 1) := by decide +kernel
theorem dX6_feed_0 : decode cX6_feed 0 = .ok (.iload_n 1, 1) := by decide +kernel
theorem dX6_feed_1 : decode cX6_feed 1 = .ok (.iconst 1, 1) := by decide +kernel
theorem dX6_feed_2 : decode cX6_feed 2 = .ok (.iconst 5, 1) := by decide +kernel
theorem dX6_feed_3 : decode cX6_feed 3 = .ok (.invokestatic 78, 3) := by decide +kernel
theorem dX6_feed_6 : decode cX6_feed 6 = .ok (.ifCond .eq 41, 3) := by decide +kernel
theorem dX6_feed_9 : decode cX6_feed 9 = .ok (.iload_n 2, 1) := by decide +kernel
theorem dX6_feed_10 : decode cX6_feed 10 = .ok (.invokestatic 102, 3) := by decide +kernel
theorem dX6_feed_13 : decode cX6_feed 13 = .ok (.ifCond .eq 34, 3) := by decide +kernel
theorem dX6_feed_16 : decode cX6_feed 16 = .ok (.iload_n 3, 1) := by decide +kernel
theorem dX6_feed_17 : decode cX6_feed 17 = .ok (.invokestatic 102, 3) := by decide +kernel
theorem dX6_feed_20 : decode cX6_feed 20 = .ok (.ifCond .eq 27, 3) := by decide +kernel
theorem dX6_feed_23 : decode cX6_feed 23 = .ok (.iload 4, 2) := by decide +kernel
theorem dX6_feed_25 : decode cX6_feed 25 = .ok (.invokestatic 102, 3) := by decide +kernel
theorem dX6_feed_28 : decode cX6_feed 28 = .ok (.ifCond .eq 19, 3) := by decide +kernel
theorem dX6_feed_31 : decode cX6_feed 31 = .ok (.iload 5, 2) := by decide +kernel
theorem dX6_feed_33 : decode cX6_feed 33 = .ok (.invokestatic 102, 3) := by decide +kernel
theorem dX6_feed_36 : decode cX6_feed 36 = .ok (.ifCond .eq 11, 3) := by decide +kernel
theorem dX6_feed_39 : decode cX6_feed 39 = .ok (.iload 6, 2) := by decide +kernel
theorem dX6_feed_41 : decode cX6_feed 41 = .ok (.invokestatic 102, 3) := by decide +kernel
theorem dX6_feed_44 : decode cX6_feed 44 = .ok (.ifCond .ne 6, 3) := by decide +kernel
theorem dX6_feed_47 : decode cX6_feed 47 = .ok (.bipush (-2), 2) := by decide +kernel
theorem dX6_feed_49 : decode cX6_feed 49 = .ok (.ireturn, 1) := by decide +kernel
theorem dX6_feed_50 : decode cX6_feed 50 = .ok (.aload_n 0, 1) := by decide +kernel
theorem dX6_feed_51 : decode cX6_feed 51 = .ok (.getfield 67, 3) := by decide +kernel
theorem dX6_feed_54 : decode cX6_feed 54 = .ok (.iload_n 1, 1) := by decide +kernel
theorem dX6_feed_55 : decode cX6_feed 55 = .ok (.iadd, 1) := by decide +kernel
theorem dX6_feed_56 : decode cX6_feed 56 = .ok (.sipush 160, 3) := by decide +kernel
theorem dX6_feed_59 : decode cX6_feed 59 = .ok (.if_icmp .le 6, 3) := by decide +kernel
theorem dX6_feed_62 : decode cX6_feed 62 = .ok (.bipush (-4), 2) := by decide +kernel
theorem dX6_feed_64 : decode cX6_feed 64 = .ok (.ireturn, 1) := by decide +kernel
theorem dX6_feed_65 : decode cX6_feed 65 = .ok (.iconst 0, 1) := by decide +kernel
theorem dX6_feed_66 : decode cX6_feed 66 = .ok (.istore 7, 2) := by decide +kernel
theorem dX6_feed_68 : decode cX6_feed 68 = .ok (.iload 7, 2) := by decide +kernel
theorem dX6_feed_70 : decode cX6_feed 70 = .ok (.iload_n 1, 1) := by decide +kernel
theorem dX6_feed_71 : decode cX6_feed 71 = .ok (.if_icmp .ge 71, 3) := by decide +kernel
theorem dX6_feed_74 : decode cX6_feed 74 = .ok (.aload_n 0, 1) := by decide +kernel
theorem dX6_feed_75 : decode cX6_feed 75 = .ok (.getfield 25, 3) := by decide +kernel
theorem dX6_feed_78 : decode cX6_feed 78 = .ok (.aload_n 0, 1) := by decide +kernel
theorem dX6_feed_79 : decode cX6_feed 79 = .ok (.getfield 67, 3) := by decide +kernel
theorem dX6_feed_82 : decode cX6_feed 82 = .ok (.iload 7, 2) := by decide +kernel
theorem dX6_feed_84 : decode cX6_feed 84 = .ok (.ifCond .ne 7, 3) := by decide +kernel
theorem dX6_feed_87 : decode cX6_feed 87 = .ok (.iload_n 2, 1) := by decide +kernel
theorem dX6_feed_88 : decode cX6_feed 88 = .ok (.goto 37, 3) := by decide +kernel
theorem dX6_feed_91 : decode cX6_feed 91 = .ok (.iload 7, 2) := by decide +kernel
theorem dX6_feed_93 : decode cX6_feed 93 = .ok (.iconst 1, 1) := by decide +kernel
theorem dX6_feed_94 : decode cX6_feed 94 = .ok (.if_icmp .ne 7, 3) := by decide +kernel
theorem dX6_feed_97 : decode cX6_feed 97 = .ok (.iload_n 3, 1) := by decide +kernel
theorem dX6_feed_98 : decode cX6_feed 98 = .ok (.goto 27, 3) := by decide +kernel
theorem dX6_feed_101 : decode cX6_feed 101 = .ok (.iload 7, 2) := by decide +kernel
theorem dX6_feed_103 : decode cX6_feed 103 = .ok (.iconst 2, 1) := by decide +kernel
theorem dX6_feed_104 : decode cX6_feed 104 = .ok (.if_icmp .ne 8, 3) := by decide +kernel
theorem dX6_feed_107 : decode cX6_feed 107 = .ok (.iload 4, 2) := by decide +kernel
theorem dX6_feed_109 : decode cX6_feed 109 = .ok (.goto 16, 3) := by decide +kernel
theorem dX6_feed_112 : decode cX6_feed 112 = .ok (.iload 7, 2) := by decide +kernel
theorem dX6_feed_114 : decode cX6_feed 114 = .ok (.iconst 3, 1) := by decide +kernel
theorem dX6_feed_115 : decode cX6_feed 115 = .ok (.if_icmp .ne 8, 3) := by decide +kernel
theorem dX6_feed_118 : decode cX6_feed 118 = .ok (.iload 5, 2) := by decide +kernel
theorem dX6_feed_120 : decode cX6_feed 120 = .ok (.goto 5, 3) := by decide +kernel
theorem dX6_feed_123 : decode cX6_feed 123 = .ok (.iload 6, 2) := by decide +kernel
theorem dX6_feed_125 : decode cX6_feed 125 = .ok (.iastore, 1) := by decide +kernel
theorem dX6_feed_126 : decode cX6_feed 126 = .ok (.aload_n 0, 1) := by decide +kernel
theorem dX6_feed_127 : decode cX6_feed 127 = .ok (.dup, 1) := by decide +kernel
theorem dX6_feed_128 : decode cX6_feed 128 = .ok (.getfield 67, 3) := by decide +kernel
theorem dX6_feed_131 : decode cX6_feed 131 = .ok (.iconst 1, 1) := by decide +kernel
theorem dX6_feed_132 : decode cX6_feed 132 = .ok (.iadd, 1) := by decide +kernel
theorem dX6_feed_133 : decode cX6_feed 133 = .ok (.putfield 67, 3) := by decide +kernel
theorem dX6_feed_136 : decode cX6_feed 136 = .ok (.iinc 7 1, 3) := by decide +kernel
theorem dX6_feed_139 : decode cX6_feed 139 = .ok (.goto (-71), 3) := by decide +kernel
theorem dX6_feed_142 : decode cX6_feed 142 = .ok (.aload_n 0, 1) := by decide +kernel
theorem dX6_feed_143 : decode cX6_feed 143 = .ok (.getfield 67, 3) := by decide +kernel
theorem dX6_feed_146 : decode cX6_feed 146 = .ok (.ireturn, 1) := by decide +kernel
theorem dX6_wordFrom_0 : decode cX6_wordFrom 0 = .ok (.iconst 0, 1) := by decide +kernel
theorem dX6_wordFrom_1 : decode cX6_wordFrom 1 = .ok (.istore_n 3, 1) := by decide +kernel
theorem dX6_wordFrom_2 : decode cX6_wordFrom 2 = .ok (.iload_n 3, 1) := by decide +kernel
theorem dX6_wordFrom_3 : decode cX6_wordFrom 3 = .ok (.bipush 12, 2) := by decide +kernel
theorem dX6_wordFrom_5 : decode cX6_wordFrom 5 = .ok (.if_icmp .ge 96, 3) := by decide +kernel
theorem dX6_wordFrom_8 : decode cX6_wordFrom 8 = .ok (.iload_n 2, 1) := by decide +kernel
theorem dX6_wordFrom_9 : decode cX6_wordFrom 9 = .ok (.iload_n 1, 1) := by decide +kernel
theorem dX6_wordFrom_10 : decode cX6_wordFrom 10 = .ok (.isub, 1) := by decide +kernel
theorem dX6_wordFrom_11 : decode cX6_wordFrom 11 = .ok (.bipush 8, 2) := by decide +kernel
theorem dX6_wordFrom_13 : decode cX6_wordFrom 13 = .ok (.if_icmp .gt 7, 3) := by decide +kernel
theorem dX6_wordFrom_16 : decode cX6_wordFrom 16 = .ok (.iconst 1, 1) := by decide +kernel
theorem dX6_wordFrom_17 : decode cX6_wordFrom 17 = .ok (.goto 4, 3) := by decide +kernel
theorem dX6_wordFrom_20 : decode cX6_wordFrom 20 = .ok (.iconst 0, 1) := by decide +kernel
theorem dX6_wordFrom_21 : decode cX6_wordFrom 21 = .ok (.istore 4, 2) := by decide +kernel
theorem dX6_wordFrom_23 : decode cX6_wordFrom 23 = .ok (.iconst 0, 1) := by decide +kernel
theorem dX6_wordFrom_24 : decode cX6_wordFrom 24 = .ok (.istore 5, 2) := by decide +kernel
theorem dX6_wordFrom_26 : decode cX6_wordFrom 26 = .ok (.iload 5, 2) := by decide +kernel
theorem dX6_wordFrom_28 : decode cX6_wordFrom 28 = .ok (.bipush 8, 2) := by decide +kernel
theorem dX6_wordFrom_30 : decode cX6_wordFrom 30 = .ok (.if_icmp .ge 58, 3) := by decide +kernel
theorem dX6_wordFrom_33 : decode cX6_wordFrom 33 = .ok (.iload 4, 2) := by decide +kernel
theorem dX6_wordFrom_35 : decode cX6_wordFrom 35 = .ok (.ifCond .eq 53, 3) := by decide +kernel
theorem dX6_wordFrom_38 : decode cX6_wordFrom 38 = .ok (.aload_n 0, 1) := by decide +kernel
theorem dX6_wordFrom_39 : decode cX6_wordFrom 39 = .ok (.getfield 52, 3) := by decide +kernel
theorem dX6_wordFrom_42 : decode cX6_wordFrom 42 = .ok (.bipush 8, 2) := by decide +kernel
theorem dX6_wordFrom_44 : decode cX6_wordFrom 44 = .ok (.iload_n 3, 1) := by decide +kernel
theorem dX6_wordFrom_45 : decode cX6_wordFrom 45 = .ok (.imul, 1) := by decide +kernel
theorem dX6_wordFrom_46 : decode cX6_wordFrom 46 = .ok (.iload 5, 2) := by decide +kernel
theorem dX6_wordFrom_48 : decode cX6_wordFrom 48 = .ok (.iadd, 1) := by decide +kernel
theorem dX6_wordFrom_49 : decode cX6_wordFrom 49 = .ok (.iaload, 1) := by decide +kernel
theorem dX6_wordFrom_50 : decode cX6_wordFrom 50 = .ok (.iload_n 1, 1) := by decide +kernel
theorem dX6_wordFrom_51 : decode cX6_wordFrom 51 = .ok (.iload 5, 2) := by decide +kernel
theorem dX6_wordFrom_53 : decode cX6_wordFrom 53 = .ok (.iadd, 1) := by decide +kernel
theorem dX6_wordFrom_54 : decode cX6_wordFrom 54 = .ok (.iload_n 2, 1) := by decide +kernel
theorem dX6_wordFrom_55 : decode cX6_wordFrom 55 = .ok (.if_icmp .ge 15, 3) := by decide +kernel
theorem dX6_wordFrom_58 : decode cX6_wordFrom 58 = .ok (.aload_n 0, 1) := by decide +kernel
theorem dX6_wordFrom_59 : decode cX6_wordFrom 59 = .ok (.getfield 25, 3) := by decide +kernel
theorem dX6_wordFrom_62 : decode cX6_wordFrom 62 = .ok (.iload_n 1, 1) := by decide +kernel
theorem dX6_wordFrom_63 : decode cX6_wordFrom 63 = .ok (.iload 5, 2) := by decide +kernel
theorem dX6_wordFrom_65 : decode cX6_wordFrom 65 = .ok (.iadd, 1) := by decide +kernel
theorem dX6_wordFrom_66 : decode cX6_wordFrom 66 = .ok (.iaload, 1) := by decide +kernel
theorem dX6_wordFrom_67 : decode cX6_wordFrom 67 = .ok (.goto 5, 3) := by decide +kernel
theorem dX6_wordFrom_70 : decode cX6_wordFrom 70 = .ok (.bipush 32, 2) := by decide +kernel
theorem dX6_wordFrom_72 : decode cX6_wordFrom 72 = .ok (.if_icmp .ne 7, 3) := by decide +kernel
theorem dX6_wordFrom_75 : decode cX6_wordFrom 75 = .ok (.iconst 1, 1) := by decide +kernel
theorem dX6_wordFrom_76 : decode cX6_wordFrom 76 = .ok (.goto 4, 3) := by decide +kernel
theorem dX6_wordFrom_79 : decode cX6_wordFrom 79 = .ok (.iconst 0, 1) := by decide +kernel
theorem dX6_wordFrom_80 : decode cX6_wordFrom 80 = .ok (.istore 4, 2) := by decide +kernel
theorem dX6_wordFrom_82 : decode cX6_wordFrom 82 = .ok (.iinc 5 1, 3) := by decide +kernel
theorem dX6_wordFrom_85 : decode cX6_wordFrom 85 = .ok (.goto (-59), 3) := by decide +kernel
theorem dX6_wordFrom_88 : decode cX6_wordFrom 88 = .ok (.iload 4, 2) := by decide +kernel
theorem dX6_wordFrom_90 : decode cX6_wordFrom 90 = .ok (.ifCond .eq 5, 3) := by decide +kernel
theorem dX6_wordFrom_93 : decode cX6_wordFrom 93 = .ok (.iload_n 3, 1) := by decide +kernel
theorem dX6_wordFrom_94 : decode cX6_wordFrom 94 = .ok (.ireturn, 1) := by decide +kernel
theorem dX6_wordFrom_95 : decode cX6_wordFrom 95 = .ok (.iinc 3 1, 3) := by decide +kernel
theorem dX6_wordFrom_98 : decode cX6_wordFrom 98 = .ok (.goto (-96), 3) := by decide +kernel
theorem dX6_wordFrom_101 : decode cX6_wordFrom 101 = .ok (.bipush 12, 2) := by decide +kernel
theorem dX6_wordFrom_103 : decode cX6_wordFrom 103 = .ok (.ireturn, 1) := by decide +kernel
theorem dX6_next_0 : decode cX6_next 0 = .ok (.aload_n 0, 1) := by decide +kernel
theorem dX6_next_1 : decode cX6_next 1 = .ok (.getfield 105, 3) := by decide +kernel
theorem dX6_next_4 : decode cX6_next 4 = .ok (.aload_n 0, 1) := by decide +kernel
theorem dX6_next_5 : decode cX6_next 5 = .ok (.getfield 67, 3) := by decide +kernel
theorem dX6_next_8 : decode cX6_next 8 = .ok (.if_icmp .ge 44, 3) := by decide +kernel
theorem dX6_next_11 : decode cX6_next 11 = .ok (.aload_n 0, 1) := by decide +kernel
theorem dX6_next_12 : decode cX6_next 12 = .ok (.getfield 25, 3) := by decide +kernel
theorem dX6_next_15 : decode cX6_next 15 = .ok (.aload_n 0, 1) := by decide +kernel
theorem dX6_next_16 : decode cX6_next 16 = .ok (.getfield 105, 3) := by decide +kernel
theorem dX6_next_19 : decode cX6_next 19 = .ok (.iaload, 1) := by decide +kernel
theorem dX6_next_20 : decode cX6_next 20 = .ok (.bipush 32, 2) := by decide +kernel
theorem dX6_next_22 : decode cX6_next 22 = .ok (.if_icmp .eq 17, 3) := by decide +kernel
theorem dX6_next_25 : decode cX6_next 25 = .ok (.aload_n 0, 1) := by decide +kernel
theorem dX6_next_26 : decode cX6_next 26 = .ok (.getfield 25, 3) := by decide +kernel
theorem dX6_next_29 : decode cX6_next 29 = .ok (.aload_n 0, 1) := by decide +kernel
theorem dX6_next_30 : decode cX6_next 30 = .ok (.getfield 105, 3) := by decide +kernel
theorem dX6_next_33 : decode cX6_next 33 = .ok (.iaload, 1) := by decide +kernel
theorem dX6_next_34 : decode cX6_next 34 = .ok (.bipush 10, 2) := by decide +kernel
theorem dX6_next_36 : decode cX6_next 36 = .ok (.if_icmp .ne 16, 3) := by decide +kernel
theorem dX6_next_39 : decode cX6_next 39 = .ok (.aload_n 0, 1) := by decide +kernel
theorem dX6_next_40 : decode cX6_next 40 = .ok (.dup, 1) := by decide +kernel
theorem dX6_next_41 : decode cX6_next 41 = .ok (.getfield 105, 3) := by decide +kernel
theorem dX6_next_44 : decode cX6_next 44 = .ok (.iconst 1, 1) := by decide +kernel
theorem dX6_next_45 : decode cX6_next 45 = .ok (.iadd, 1) := by decide +kernel
theorem dX6_next_46 : decode cX6_next 46 = .ok (.putfield 105, 3) := by decide +kernel
theorem dX6_next_49 : decode cX6_next 49 = .ok (.goto (-49), 3) := by decide +kernel
theorem dX6_next_52 : decode cX6_next 52 = .ok (.aload_n 0, 1) := by decide +kernel
theorem dX6_next_53 : decode cX6_next 53 = .ok (.aload_n 0, 1) := by decide +kernel
theorem dX6_next_54 : decode cX6_next 54 = .ok (.getfield 105, 3) := by decide +kernel
theorem dX6_next_57 : decode cX6_next 57 = .ok (.putfield 108, 3) := by decide +kernel
theorem dX6_next_60 : decode cX6_next 60 = .ok (.aload_n 0, 1) := by decide +kernel
theorem dX6_next_61 : decode cX6_next 61 = .ok (.iconst 0, 1) := by decide +kernel
theorem dX6_next_62 : decode cX6_next 62 = .ok (.putfield 111, 3) := by decide +kernel
theorem dX6_next_65 : decode cX6_next 65 = .ok (.aload_n 0, 1) := by decide +kernel
theorem dX6_next_66 : decode cX6_next 66 = .ok (.iconst 0, 1) := by decide +kernel
theorem dX6_next_67 : decode cX6_next 67 = .ok (.putfield 114, 3) := by decide +kernel
theorem dX6_next_70 : decode cX6_next 70 = .ok (.aload_n 0, 1) := by decide +kernel
theorem dX6_next_71 : decode cX6_next 71 = .ok (.getfield 105, 3) := by decide +kernel
theorem dX6_next_74 : decode cX6_next 74 = .ok (.aload_n 0, 1) := by decide +kernel
theorem dX6_next_75 : decode cX6_next 75 = .ok (.getfield 67, 3) := by decide +kernel
theorem dX6_next_78 : decode cX6_next 78 = .ok (.if_icmp .ne 4, 3) := by decide +kernel
theorem dX6_next_81 : decode cX6_next 81 = .ok (.return_, 1) := by decide +kernel
theorem dX6_next_82 : decode cX6_next 82 = .ok (.aload_n 0, 1) := by decide +kernel
theorem dX6_next_83 : decode cX6_next 83 = .ok (.getfield 25, 3) := by decide +kernel
theorem dX6_next_86 : decode cX6_next 86 = .ok (.aload_n 0, 1) := by decide +kernel
theorem dX6_next_87 : decode cX6_next 87 = .ok (.getfield 105, 3) := by decide +kernel
theorem dX6_next_90 : decode cX6_next 90 = .ok (.iaload, 1) := by decide +kernel
theorem dX6_next_91 : decode cX6_next 91 = .ok (.istore_n 1, 1) := by decide +kernel
theorem dX6_next_92 : decode cX6_next 92 = .ok (.iload_n 1, 1) := by decide +kernel
theorem dX6_next_93 : decode cX6_next 93 = .ok (.bipush 97, 2) := by decide +kernel
theorem dX6_next_95 : decode cX6_next 95 = .ok (.bipush 122, 2) := by decide +kernel
theorem dX6_next_97 : decode cX6_next 97 = .ok (.invokestatic 78, 3) := by decide +kernel
theorem dX6_next_100 : decode cX6_next 100 = .ok (.ifCond .eq 117, 3) := by decide +kernel
theorem dX6_next_103 : decode cX6_next 103 = .ok (.aload_n 0, 1) := by decide +kernel
theorem dX6_next_104 : decode cX6_next 104 = .ok (.getfield 105, 3) := by decide +kernel
theorem dX6_next_107 : decode cX6_next 107 = .ok (.aload_n 0, 1) := by decide +kernel
theorem dX6_next_108 : decode cX6_next 108 = .ok (.getfield 67, 3) := by decide +kernel
theorem dX6_next_111 : decode cX6_next 111 = .ok (.if_icmp .ge 35, 3) := by decide +kernel
theorem dX6_next_114 : decode cX6_next 114 = .ok (.aload_n 0, 1) := by decide +kernel
theorem dX6_next_115 : decode cX6_next 115 = .ok (.getfield 25, 3) := by decide +kernel
theorem dX6_next_118 : decode cX6_next 118 = .ok (.aload_n 0, 1) := by decide +kernel
theorem dX6_next_119 : decode cX6_next 119 = .ok (.getfield 105, 3) := by decide +kernel
theorem dX6_next_122 : decode cX6_next 122 = .ok (.iaload, 1) := by decide +kernel
theorem dX6_next_123 : decode cX6_next 123 = .ok (.bipush 97, 2) := by decide +kernel
theorem dX6_next_125 : decode cX6_next 125 = .ok (.bipush 122, 2) := by decide +kernel
theorem dX6_next_127 : decode cX6_next 127 = .ok (.invokestatic 78, 3) := by decide +kernel
theorem dX6_next_130 : decode cX6_next 130 = .ok (.ifCond .eq 16, 3) := by decide +kernel
theorem dX6_next_133 : decode cX6_next 133 = .ok (.aload_n 0, 1) := by decide +kernel
theorem dX6_next_134 : decode cX6_next 134 = .ok (.dup, 1) := by decide +kernel
theorem dX6_next_135 : decode cX6_next 135 = .ok (.getfield 105, 3) := by decide +kernel
theorem dX6_next_138 : decode cX6_next 138 = .ok (.iconst 1, 1) := by decide +kernel
theorem dX6_next_139 : decode cX6_next 139 = .ok (.iadd, 1) := by decide +kernel
theorem dX6_next_140 : decode cX6_next 140 = .ok (.putfield 105, 3) := by decide +kernel
theorem dX6_next_143 : decode cX6_next 143 = .ok (.goto (-40), 3) := by decide +kernel
theorem dX6_next_146 : decode cX6_next 146 = .ok (.aload_n 0, 1) := by decide +kernel
theorem dX6_next_147 : decode cX6_next 147 = .ok (.aload_n 0, 1) := by decide +kernel
theorem dX6_next_148 : decode cX6_next 148 = .ok (.getfield 108, 3) := by decide +kernel
theorem dX6_next_151 : decode cX6_next 151 = .ok (.aload_n 0, 1) := by decide +kernel
theorem dX6_next_152 : decode cX6_next 152 = .ok (.getfield 105, 3) := by decide +kernel
theorem dX6_next_155 : decode cX6_next 155 = .ok (.invokevirtual 117, 3) := by decide +kernel
theorem dX6_next_158 : decode cX6_next 158 = .ok (.istore_n 2, 1) := by decide +kernel
theorem dX6_next_159 : decode cX6_next 159 = .ok (.aload_n 0, 1) := by decide +kernel
theorem dX6_next_160 : decode cX6_next 160 = .ok (.iload_n 2, 1) := by decide +kernel
theorem dX6_next_161 : decode cX6_next 161 = .ok (.iconst 3, 1) := by decide +kernel
theorem dX6_next_162 : decode cX6_next 162 = .ok (.if_icmp .ge 7, 3) := by decide +kernel
theorem dX6_next_165 : decode cX6_next 165 = .ok (.iconst 3, 1) := by decide +kernel
theorem dX6_next_166 : decode cX6_next 166 = .ok (.goto 29, 3) := by decide +kernel
theorem dX6_next_169 : decode cX6_next 169 = .ok (.iload_n 2, 1) := by decide +kernel
theorem dX6_next_170 : decode cX6_next 170 = .ok (.bipush 9, 2) := by decide +kernel
theorem dX6_next_172 : decode cX6_next 172 = .ok (.if_icmp .ge 7, 3) := by decide +kernel
theorem dX6_next_175 : decode cX6_next 175 = .ok (.iconst 2, 1) := by decide +kernel
theorem dX6_next_176 : decode cX6_next 176 = .ok (.goto 19, 3) := by decide +kernel
theorem dX6_next_179 : decode cX6_next 179 = .ok (.iload_n 2, 1) := by decide +kernel
theorem dX6_next_180 : decode cX6_next 180 = .ok (.bipush 12, 2) := by decide +kernel
theorem dX6_next_182 : decode cX6_next 182 = .ok (.if_icmp .ne 7, 3) := by decide +kernel
theorem dX6_next_185 : decode cX6_next 185 = .ok (.iconst (-1), 1) := by decide +kernel
theorem dX6_next_186 : decode cX6_next 186 = .ok (.goto 9, 3) := by decide +kernel
theorem dX6_next_189 : decode cX6_next 189 = .ok (.iconst 4, 1) := by decide +kernel
theorem dX6_next_190 : decode cX6_next 190 = .ok (.iload_n 2, 1) := by decide +kernel
theorem dX6_next_191 : decode cX6_next 191 = .ok (.iadd, 1) := by decide +kernel
theorem dX6_next_192 : decode cX6_next 192 = .ok (.bipush 9, 2) := by decide +kernel
theorem dX6_next_194 : decode cX6_next 194 = .ok (.isub, 1) := by decide +kernel
theorem dX6_next_195 : decode cX6_next 195 = .ok (.putfield 111, 3) := by decide +kernel
theorem dX6_next_198 : decode cX6_next 198 = .ok (.aload_n 0, 1) := by decide +kernel
theorem dX6_next_199 : decode cX6_next 199 = .ok (.iload_n 2, 1) := by decide +kernel
theorem dX6_next_200 : decode cX6_next 200 = .ok (.iconst 3, 1) := by decide +kernel
theorem dX6_next_201 : decode cX6_next 201 = .ok (.if_icmp .ge 7, 3) := by decide +kernel
theorem dX6_next_204 : decode cX6_next 204 = .ok (.iload_n 2, 1) := by decide +kernel
theorem dX6_next_205 : decode cX6_next 205 = .ok (.goto 6, 3) := by decide +kernel
theorem dX6_next_208 : decode cX6_next 208 = .ok (.iload_n 2, 1) := by decide +kernel
theorem dX6_next_209 : decode cX6_next 209 = .ok (.iconst 3, 1) := by decide +kernel
theorem dX6_next_210 : decode cX6_next 210 = .ok (.isub, 1) := by decide +kernel
theorem dX6_next_211 : decode cX6_next 211 = .ok (.putfield 114, 3) := by decide +kernel
theorem dX6_next_214 : decode cX6_next 214 = .ok (.goto 189, 3) := by decide +kernel
theorem dX6_next_217 : decode cX6_next 217 = .ok (.iload_n 1, 1) := by decide +kernel
theorem dX6_next_218 : decode cX6_next 218 = .ok (.bipush 48, 2) := by decide +kernel
theorem dX6_next_220 : decode cX6_next 220 = .ok (.bipush 57, 2) := by decide +kernel
theorem dX6_next_222 : decode cX6_next 222 = .ok (.invokestatic 78, 3) := by decide +kernel
theorem dX6_next_225 : decode cX6_next 225 = .ok (.ifCond .eq 101, 3) := by decide +kernel
theorem dX6_next_228 : decode cX6_next 228 = .ok (.iconst 0, 1) := by decide +kernel
theorem dX6_next_229 : decode cX6_next 229 = .ok (.istore_n 2, 1) := by decide +kernel
theorem dX6_next_230 : decode cX6_next 230 = .ok (.aload_n 0, 1) := by decide +kernel
theorem dX6_next_231 : decode cX6_next 231 = .ok (.getfield 105, 3) := by decide +kernel
theorem dX6_next_234 : decode cX6_next 234 = .ok (.aload_n 0, 1) := by decide +kernel
theorem dX6_next_235 : decode cX6_next 235 = .ok (.getfield 67, 3) := by decide +kernel
theorem dX6_next_238 : decode cX6_next 238 = .ok (.if_icmp .ge 71, 3) := by decide +kernel
theorem dX6_next_241 : decode cX6_next 241 = .ok (.aload_n 0, 1) := by decide +kernel
theorem dX6_next_242 : decode cX6_next 242 = .ok (.getfield 25, 3) := by decide +kernel
theorem dX6_next_245 : decode cX6_next 245 = .ok (.aload_n 0, 1) := by decide +kernel
theorem dX6_next_246 : decode cX6_next 246 = .ok (.getfield 105, 3) := by decide +kernel
theorem dX6_next_249 : decode cX6_next 249 = .ok (.iaload, 1) := by decide +kernel
theorem dX6_next_250 : decode cX6_next 250 = .ok (.bipush 48, 2) := by decide +kernel
theorem dX6_next_252 : decode cX6_next 252 = .ok (.bipush 57, 2) := by decide +kernel
theorem dX6_next_254 : decode cX6_next 254 = .ok (.invokestatic 78, 3) := by decide +kernel
theorem dX6_next_257 : decode cX6_next 257 = .ok (.ifCond .eq 52, 3) := by decide +kernel
theorem dX6_next_260 : decode cX6_next 260 = .ok (.aload_n 0, 1) := by decide +kernel
theorem dX6_next_261 : decode cX6_next 261 = .ok (.iload_n 2, 1) := by decide +kernel
theorem dX6_next_262 : decode cX6_next 262 = .ok (.iconst 4, 1) := by decide +kernel
theorem dX6_next_263 : decode cX6_next 263 = .ok (.if_icmp .ge 26, 3) := by decide +kernel
theorem dX6_next_266 : decode cX6_next 266 = .ok (.bipush 10, 2) := by decide +kernel
theorem dX6_next_268 : decode cX6_next 268 = .ok (.aload_n 0, 1) := by decide +kernel
theorem dX6_next_269 : decode cX6_next 269 = .ok (.getfield 114, 3) := by decide +kernel
theorem dX6_next_272 : decode cX6_next 272 = .ok (.imul, 1) := by decide +kernel
theorem dX6_next_273 : decode cX6_next 273 = .ok (.aload_n 0, 1) := by decide +kernel
theorem dX6_next_274 : decode cX6_next 274 = .ok (.getfield 25, 3) := by decide +kernel
theorem dX6_next_277 : decode cX6_next 277 = .ok (.aload_n 0, 1) := by decide +kernel
theorem dX6_next_278 : decode cX6_next 278 = .ok (.getfield 105, 3) := by decide +kernel
theorem dX6_next_281 : decode cX6_next 281 = .ok (.iaload, 1) := by decide +kernel
theorem dX6_next_282 : decode cX6_next 282 = .ok (.iadd, 1) := by decide +kernel
theorem dX6_next_283 : decode cX6_next 283 = .ok (.bipush 48, 2) := by decide +kernel
theorem dX6_next_285 : decode cX6_next 285 = .ok (.isub, 1) := by decide +kernel
theorem dX6_next_286 : decode cX6_next 286 = .ok (.goto 4, 3) := by decide +kernel
theorem dX6_next_289 : decode cX6_next 289 = .ok (.iconst 0, 1) := by decide +kernel
theorem dX6_next_290 : decode cX6_next 290 = .ok (.putfield 114, 3) := by decide +kernel
theorem dX6_next_293 : decode cX6_next 293 = .ok (.iinc 2 1, 3) := by decide +kernel
theorem dX6_next_296 : decode cX6_next 296 = .ok (.aload_n 0, 1) := by decide +kernel
theorem dX6_next_297 : decode cX6_next 297 = .ok (.dup, 1) := by decide +kernel
theorem dX6_next_298 : decode cX6_next 298 = .ok (.getfield 105, 3) := by decide +kernel
theorem dX6_next_301 : decode cX6_next 301 = .ok (.iconst 1, 1) := by decide +kernel
theorem dX6_next_302 : decode cX6_next 302 = .ok (.iadd, 1) := by decide +kernel
theorem dX6_next_303 : decode cX6_next 303 = .ok (.putfield 105, 3) := by decide +kernel
theorem dX6_next_306 : decode cX6_next 306 = .ok (.goto (-76), 3) := by decide +kernel
theorem dX6_next_309 : decode cX6_next 309 = .ok (.aload_n 0, 1) := by decide +kernel
theorem dX6_next_310 : decode cX6_next 310 = .ok (.iload_n 2, 1) := by decide +kernel
theorem dX6_next_311 : decode cX6_next 311 = .ok (.iconst 4, 1) := by decide +kernel
theorem dX6_next_312 : decode cX6_next 312 = .ok (.if_icmp .le 7, 3) := by decide +kernel
theorem dX6_next_315 : decode cX6_next 315 = .ok (.iconst (-1), 1) := by decide +kernel
theorem dX6_next_316 : decode cX6_next 316 = .ok (.goto 4, 3) := by decide +kernel
theorem dX6_next_319 : decode cX6_next 319 = .ok (.iconst 1, 1) := by decide +kernel
theorem dX6_next_320 : decode cX6_next 320 = .ok (.putfield 111, 3) := by decide +kernel
theorem dX6_next_323 : decode cX6_next 323 = .ok (.goto 80, 3) := by decide +kernel
theorem dX6_next_326 : decode cX6_next 326 = .ok (.iload_n 1, 1) := by decide +kernel
theorem dX6_next_327 : decode cX6_next 327 = .ok (.bipush 40, 2) := by decide +kernel
theorem dX6_next_329 : decode cX6_next 329 = .ok (.if_icmp .eq 45, 3) := by decide +kernel
theorem dX6_next_332 : decode cX6_next 332 = .ok (.iload_n 1, 1) := by decide +kernel
theorem dX6_next_333 : decode cX6_next 333 = .ok (.bipush 41, 2) := by decide +kernel
theorem dX6_next_335 : decode cX6_next 335 = .ok (.if_icmp .eq 39, 3) := by decide +kernel
theorem dX6_next_338 : decode cX6_next 338 = .ok (.iload_n 1, 1) := by decide +kernel
theorem dX6_next_339 : decode cX6_next 339 = .ok (.bipush 59, 2) := by decide +kernel
theorem dX6_next_341 : decode cX6_next 341 = .ok (.if_icmp .eq 33, 3) := by decide +kernel
theorem dX6_next_344 : decode cX6_next 344 = .ok (.iload_n 1, 1) := by decide +kernel
theorem dX6_next_345 : decode cX6_next 345 = .ok (.bipush 43, 2) := by decide +kernel
theorem dX6_next_347 : decode cX6_next 347 = .ok (.if_icmp .eq 27, 3) := by decide +kernel
theorem dX6_next_350 : decode cX6_next 350 = .ok (.iload_n 1, 1) := by decide +kernel
theorem dX6_next_351 : decode cX6_next 351 = .ok (.bipush 45, 2) := by decide +kernel
theorem dX6_next_353 : decode cX6_next 353 = .ok (.if_icmp .eq 21, 3) := by decide +kernel
theorem dX6_next_356 : decode cX6_next 356 = .ok (.iload_n 1, 1) := by decide +kernel
theorem dX6_next_357 : decode cX6_next 357 = .ok (.bipush 42, 2) := by decide +kernel
theorem dX6_next_359 : decode cX6_next 359 = .ok (.if_icmp .eq 15, 3) := by decide +kernel
theorem dX6_next_362 : decode cX6_next 362 = .ok (.iload_n 1, 1) := by decide +kernel
theorem dX6_next_363 : decode cX6_next 363 = .ok (.bipush 60, 2) := by decide +kernel
theorem dX6_next_365 : decode cX6_next 365 = .ok (.if_icmp .eq 9, 3) := by decide +kernel
theorem dX6_next_368 : decode cX6_next 368 = .ok (.iload_n 1, 1) := by decide +kernel
theorem dX6_next_369 : decode cX6_next 369 = .ok (.bipush 61, 2) := by decide +kernel
theorem dX6_next_371 : decode cX6_next 371 = .ok (.if_icmp .ne 7, 3) := by decide +kernel
theorem dX6_next_374 : decode cX6_next 374 = .ok (.iconst 1, 1) := by decide +kernel
theorem dX6_next_375 : decode cX6_next 375 = .ok (.goto 4, 3) := by decide +kernel
theorem dX6_next_378 : decode cX6_next 378 = .ok (.iconst 0, 1) := by decide +kernel
theorem dX6_next_379 : decode cX6_next 379 = .ok (.istore_n 2, 1) := by decide +kernel
theorem dX6_next_380 : decode cX6_next 380 = .ok (.aload_n 0, 1) := by decide +kernel
theorem dX6_next_381 : decode cX6_next 381 = .ok (.iload_n 2, 1) := by decide +kernel
theorem dX6_next_382 : decode cX6_next 382 = .ok (.ifCond .eq 7, 3) := by decide +kernel
theorem dX6_next_385 : decode cX6_next 385 = .ok (.iload_n 1, 1) := by decide +kernel
theorem dX6_next_386 : decode cX6_next 386 = .ok (.goto 4, 3) := by decide +kernel
theorem dX6_next_389 : decode cX6_next 389 = .ok (.iconst (-1), 1) := by decide +kernel
theorem dX6_next_390 : decode cX6_next 390 = .ok (.putfield 111, 3) := by decide +kernel
theorem dX6_next_393 : decode cX6_next 393 = .ok (.aload_n 0, 1) := by decide +kernel
theorem dX6_next_394 : decode cX6_next 394 = .ok (.dup, 1) := by decide +kernel
theorem dX6_next_395 : decode cX6_next 395 = .ok (.getfield 105, 3) := by decide +kernel
theorem dX6_next_398 : decode cX6_next 398 = .ok (.iconst 1, 1) := by decide +kernel
theorem dX6_next_399 : decode cX6_next 399 = .ok (.iadd, 1) := by decide +kernel
theorem dX6_next_400 : decode cX6_next 400 = .ok (.putfield 105, 3) := by decide +kernel
theorem dX6_next_403 : decode cX6_next 403 = .ok (.return_, 1) := by decide +kernel
theorem dX6_rank_0 : decode cX6_rank 0 = .ok (.iload_n 0, 1) := by decide +kernel
theorem dX6_rank_1 : decode cX6_rank 1 = .ok (.ifCond .ne 7, 3) := by decide +kernel
theorem dX6_rank_4 : decode cX6_rank 4 = .ok (.iconst 0, 1) := by decide +kernel
theorem dX6_rank_5 : decode cX6_rank 5 = .ok (.goto 66, 3) := by decide +kernel
theorem dX6_rank_8 : decode cX6_rank 8 = .ok (.iload_n 0, 1) := by decide +kernel
theorem dX6_rank_9 : decode cX6_rank 9 = .ok (.bipush 11, 2) := by decide +kernel
theorem dX6_rank_11 : decode cX6_rank 11 = .ok (.if_icmp .ne 7, 3) := by decide +kernel
theorem dX6_rank_14 : decode cX6_rank 14 = .ok (.iconst 1, 1) := by decide +kernel
theorem dX6_rank_15 : decode cX6_rank 15 = .ok (.goto 56, 3) := by decide +kernel
theorem dX6_rank_18 : decode cX6_rank 18 = .ok (.iload_n 0, 1) := by decide +kernel
theorem dX6_rank_19 : decode cX6_rank 19 = .ok (.bipush 12, 2) := by decide +kernel
theorem dX6_rank_21 : decode cX6_rank 21 = .ok (.if_icmp .ne 7, 3) := by decide +kernel
theorem dX6_rank_24 : decode cX6_rank 24 = .ok (.iconst 2, 1) := by decide +kernel
theorem dX6_rank_25 : decode cX6_rank 25 = .ok (.goto 46, 3) := by decide +kernel
theorem dX6_rank_28 : decode cX6_rank 28 = .ok (.iload_n 0, 1) := by decide +kernel
theorem dX6_rank_29 : decode cX6_rank 29 = .ok (.bipush 13, 2) := by decide +kernel
theorem dX6_rank_31 : decode cX6_rank 31 = .ok (.if_icmp .ne 7, 3) := by decide +kernel
theorem dX6_rank_34 : decode cX6_rank 34 = .ok (.iconst 3, 1) := by decide +kernel
theorem dX6_rank_35 : decode cX6_rank 35 = .ok (.goto 36, 3) := by decide +kernel
theorem dX6_rank_38 : decode cX6_rank 38 = .ok (.iload_n 0, 1) := by decide +kernel
theorem dX6_rank_39 : decode cX6_rank 39 = .ok (.bipush 15, 2) := by decide +kernel
theorem dX6_rank_41 : decode cX6_rank 41 = .ok (.if_icmp .gt 7, 3) := by decide +kernel
theorem dX6_rank_44 : decode cX6_rank 44 = .ok (.iconst 4, 1) := by decide +kernel
theorem dX6_rank_45 : decode cX6_rank 45 = .ok (.goto 26, 3) := by decide +kernel
theorem dX6_rank_48 : decode cX6_rank 48 = .ok (.iload_n 0, 1) := by decide +kernel
theorem dX6_rank_49 : decode cX6_rank 49 = .ok (.bipush 17, 2) := by decide +kernel
theorem dX6_rank_51 : decode cX6_rank 51 = .ok (.if_icmp .gt 7, 3) := by decide +kernel
theorem dX6_rank_54 : decode cX6_rank 54 = .ok (.iconst 5, 1) := by decide +kernel
theorem dX6_rank_55 : decode cX6_rank 55 = .ok (.goto 16, 3) := by decide +kernel
theorem dX6_rank_58 : decode cX6_rank 58 = .ok (.iload_n 0, 1) := by decide +kernel
theorem dX6_rank_59 : decode cX6_rank 59 = .ok (.bipush 18, 2) := by decide +kernel
theorem dX6_rank_61 : decode cX6_rank 61 = .ok (.if_icmp .ne 8, 3) := by decide +kernel
theorem dX6_rank_64 : decode cX6_rank 64 = .ok (.bipush 6, 2) := by decide +kernel
theorem dX6_rank_66 : decode cX6_rank 66 = .ok (.goto 5, 3) := by decide +kernel
theorem dX6_rank_69 : decode cX6_rank 69 = .ok (.bipush 7, 2) := by decide +kernel
theorem dX6_rank_71 : decode cX6_rank 71 = .ok (.ireturn, 1) := by decide +kernel
theorem dX6_puts_0 : decode cX6_puts 0 = .ok (.aload_n 0, 1) := by decide +kernel
theorem dX6_puts_1 : decode cX6_puts 1 = .ok (.getfield 28, 3) := by decide +kernel
theorem dX6_puts_4 : decode cX6_puts 4 = .ok (.sipush 200, 3) := by decide +kernel
theorem dX6_puts_7 : decode cX6_puts 7 = .ok (.aload_n 0, 1) := by decide +kernel
theorem dX6_puts_8 : decode cX6_puts 8 = .ok (.getfield 92, 3) := by decide +kernel
theorem dX6_puts_11 : decode cX6_puts 11 = .ok (.imul, 1) := by decide +kernel
theorem dX6_puts_12 : decode cX6_puts 12 = .ok (.aload_n 0, 1) := by decide +kernel
theorem dX6_puts_13 : decode cX6_puts 13 = .ok (.getfield 121, 3) := by decide +kernel
theorem dX6_puts_16 : decode cX6_puts 16 = .ok (.iadd, 1) := by decide +kernel
theorem dX6_puts_17 : decode cX6_puts 17 = .ok (.iload_n 1, 1) := by decide +kernel
theorem dX6_puts_18 : decode cX6_puts 18 = .ok (.iastore, 1) := by decide +kernel
theorem dX6_puts_19 : decode cX6_puts 19 = .ok (.aload_n 0, 1) := by decide +kernel
theorem dX6_puts_20 : decode cX6_puts 20 = .ok (.dup, 1) := by decide +kernel
theorem dX6_puts_21 : decode cX6_puts 21 = .ok (.getfield 121, 3) := by decide +kernel
theorem dX6_puts_24 : decode cX6_puts 24 = .ok (.iconst 1, 1) := by decide +kernel
theorem dX6_puts_25 : decode cX6_puts 25 = .ok (.iadd, 1) := by decide +kernel
theorem dX6_puts_26 : decode cX6_puts 26 = .ok (.putfield 121, 3) := by decide +kernel
theorem dX6_puts_29 : decode cX6_puts 29 = .ok (.return_, 1) := by decide +kernel
theorem dX6_unwinds_0 : decode cX6_unwinds 0 = .ok (.aload_n 0, 1) := by decide +kernel
theorem dX6_unwinds_1 : decode cX6_unwinds 1 = .ok (.getfield 124, 3) := by decide +kernel
theorem dX6_unwinds_4 : decode cX6_unwinds 4 = .ok (.ifCond .le 75, 3) := by decide +kernel
theorem dX6_unwinds_7 : decode cX6_unwinds 7 = .ok (.aload_n 0, 1) := by decide +kernel
theorem dX6_unwinds_8 : decode cX6_unwinds 8 = .ok (.getfield 55, 3) := by decide +kernel
theorem dX6_unwinds_11 : decode cX6_unwinds 11 = .ok (.aload_n 0, 1) := by decide +kernel
theorem dX6_unwinds_12 : decode cX6_unwinds 12 = .ok (.getfield 124, 3) := by decide +kernel
theorem dX6_unwinds_15 : decode cX6_unwinds 15 = .ok (.iconst 1, 1) := by decide +kernel
theorem dX6_unwinds_16 : decode cX6_unwinds 16 = .ok (.isub, 1) := by decide +kernel
theorem dX6_unwinds_17 : decode cX6_unwinds 17 = .ok (.iaload, 1) := by decide +kernel
theorem dX6_unwinds_18 : decode cX6_unwinds 18 = .ok (.invokestatic 127, 3) := by decide +kernel
theorem dX6_unwinds_21 : decode cX6_unwinds 21 = .ok (.iload_n 1, 1) := by decide +kernel
theorem dX6_unwinds_22 : decode cX6_unwinds 22 = .ok (.if_icmp .lt 57, 3) := by decide +kernel
theorem dX6_unwinds_25 : decode cX6_unwinds 25 = .ok (.aload_n 0, 1) := by decide +kernel
theorem dX6_unwinds_26 : decode cX6_unwinds 26 = .ok (.dup, 1) := by decide +kernel
theorem dX6_unwinds_27 : decode cX6_unwinds 27 = .ok (.getfield 124, 3) := by decide +kernel
theorem dX6_unwinds_30 : decode cX6_unwinds 30 = .ok (.iconst 1, 1) := by decide +kernel
theorem dX6_unwinds_31 : decode cX6_unwinds 31 = .ok (.isub, 1) := by decide +kernel
theorem dX6_unwinds_32 : decode cX6_unwinds 32 = .ok (.putfield 124, 3) := by decide +kernel
theorem dX6_unwinds_35 : decode cX6_unwinds 35 = .ok (.aload_n 0, 1) := by decide +kernel
theorem dX6_unwinds_36 : decode cX6_unwinds 36 = .ok (.getfield 55, 3) := by decide +kernel
theorem dX6_unwinds_39 : decode cX6_unwinds 39 = .ok (.aload_n 0, 1) := by decide +kernel
theorem dX6_unwinds_40 : decode cX6_unwinds 40 = .ok (.getfield 124, 3) := by decide +kernel
theorem dX6_unwinds_43 : decode cX6_unwinds 43 = .ok (.iaload, 1) := by decide +kernel
theorem dX6_unwinds_44 : decode cX6_unwinds 44 = .ok (.istore_n 2, 1) := by decide +kernel
theorem dX6_unwinds_45 : decode cX6_unwinds 45 = .ok (.aload_n 0, 1) := by decide +kernel
theorem dX6_unwinds_46 : decode cX6_unwinds 46 = .ok (.dup, 1) := by decide +kernel
theorem dX6_unwinds_47 : decode cX6_unwinds 47 = .ok (.getfield 130, 3) := by decide +kernel
theorem dX6_unwinds_50 : decode cX6_unwinds 50 = .ok (.iload_n 2, 1) := by decide +kernel
theorem dX6_unwinds_51 : decode cX6_unwinds 51 = .ok (.bipush 13, 2) := by decide +kernel
theorem dX6_unwinds_53 : decode cX6_unwinds 53 = .ok (.if_icmp .eq 9, 3) := by decide +kernel
theorem dX6_unwinds_56 : decode cX6_unwinds 56 = .ok (.iload_n 2, 1) := by decide +kernel
theorem dX6_unwinds_57 : decode cX6_unwinds 57 = .ok (.bipush 19, 2) := by decide +kernel
theorem dX6_unwinds_59 : decode cX6_unwinds 59 = .ok (.if_icmp .ne 7, 3) := by decide +kernel
theorem dX6_unwinds_62 : decode cX6_unwinds 62 = .ok (.iconst 1, 1) := by decide +kernel
theorem dX6_unwinds_63 : decode cX6_unwinds 63 = .ok (.goto 4, 3) := by decide +kernel
theorem dX6_unwinds_66 : decode cX6_unwinds 66 = .ok (.iconst 0, 1) := by decide +kernel
theorem dX6_unwinds_67 : decode cX6_unwinds 67 = .ok (.isub, 1) := by decide +kernel
theorem dX6_unwinds_68 : decode cX6_unwinds 68 = .ok (.putfield 130, 3) := by decide +kernel
theorem dX6_unwinds_71 : decode cX6_unwinds 71 = .ok (.aload_n 0, 1) := by decide +kernel
theorem dX6_unwinds_72 : decode cX6_unwinds 72 = .ok (.iload_n 2, 1) := by decide +kernel
theorem dX6_unwinds_73 : decode cX6_unwinds 73 = .ok (.invokevirtual 133, 3) := by decide +kernel
theorem dX6_unwinds_76 : decode cX6_unwinds 76 = .ok (.goto (-76), 3) := by decide +kernel
theorem dX6_unwinds_79 : decode cX6_unwinds 79 = .ok (.return_, 1) := by decide +kernel
theorem dX6_holds_0 : decode cX6_holds 0 = .ok (.aload_n 0, 1) := by decide +kernel
theorem dX6_holds_1 : decode cX6_holds 1 = .ok (.getfield 55, 3) := by decide +kernel
theorem dX6_holds_4 : decode cX6_holds 4 = .ok (.aload_n 0, 1) := by decide +kernel
theorem dX6_holds_5 : decode cX6_holds 5 = .ok (.getfield 124, 3) := by decide +kernel
theorem dX6_holds_8 : decode cX6_holds 8 = .ok (.iload_n 1, 1) := by decide +kernel
theorem dX6_holds_9 : decode cX6_holds 9 = .ok (.iastore, 1) := by decide +kernel
theorem dX6_holds_10 : decode cX6_holds 10 = .ok (.aload_n 0, 1) := by decide +kernel
theorem dX6_holds_11 : decode cX6_holds 11 = .ok (.dup, 1) := by decide +kernel
theorem dX6_holds_12 : decode cX6_holds 12 = .ok (.getfield 124, 3) := by decide +kernel
theorem dX6_holds_15 : decode cX6_holds 15 = .ok (.iconst 1, 1) := by decide +kernel
theorem dX6_holds_16 : decode cX6_holds 16 = .ok (.iadd, 1) := by decide +kernel
theorem dX6_holds_17 : decode cX6_holds 17 = .ok (.putfield 124, 3) := by decide +kernel
theorem dX6_holds_20 : decode cX6_holds 20 = .ok (.return_, 1) := by decide +kernel
theorem dX6_opensOne_0 : decode cX6_opensOne 0 = .ok (.aload_n 0, 1) := by decide +kernel
theorem dX6_opensOne_1 : decode cX6_opensOne 1 = .ok (.getfield 130, 3) := by decide +kernel
theorem dX6_opensOne_4 : decode cX6_opensOne 4 = .ok (.iconst 5, 1) := by decide +kernel
theorem dX6_opensOne_5 : decode cX6_opensOne 5 = .ok (.if_icmp .ne 5, 3) := by decide +kernel
theorem dX6_opensOne_8 : decode cX6_opensOne 8 = .ok (.iconst 0, 1) := by decide +kernel
theorem dX6_opensOne_9 : decode cX6_opensOne 9 = .ok (.ireturn, 1) := by decide +kernel
theorem dX6_opensOne_10 : decode cX6_opensOne 10 = .ok (.aload_n 0, 1) := by decide +kernel
theorem dX6_opensOne_11 : decode cX6_opensOne 11 = .ok (.dup, 1) := by decide +kernel
theorem dX6_opensOne_12 : decode cX6_opensOne 12 = .ok (.getfield 130, 3) := by decide +kernel
theorem dX6_opensOne_15 : decode cX6_opensOne 15 = .ok (.iconst 1, 1) := by decide +kernel
theorem dX6_opensOne_16 : decode cX6_opensOne 16 = .ok (.iadd, 1) := by decide +kernel
theorem dX6_opensOne_17 : decode cX6_opensOne 17 = .ok (.putfield 130, 3) := by decide +kernel
theorem dX6_opensOne_20 : decode cX6_opensOne 20 = .ok (.aload_n 0, 1) := by decide +kernel
theorem dX6_opensOne_21 : decode cX6_opensOne 21 = .ok (.iload_n 1, 1) := by decide +kernel
theorem dX6_opensOne_22 : decode cX6_opensOne 22 = .ok (.invokevirtual 137, 3) := by decide +kernel
theorem dX6_opensOne_25 : decode cX6_opensOne 25 = .ok (.iconst 1, 1) := by decide +kernel
theorem dX6_opensOne_26 : decode cX6_opensOne 26 = .ok (.ireturn, 1) := by decide +kernel
theorem dX6_between_0 : decode cX6_between 0 = .ok (.aload_n 0, 1) := by decide +kernel
theorem dX6_between_1 : decode cX6_between 1 = .ok (.iload_n 1, 1) := by decide +kernel
theorem dX6_between_2 : decode cX6_between 2 = .ok (.invokestatic 127, 3) := by decide +kernel
theorem dX6_between_5 : decode cX6_between 5 = .ok (.iconst 4, 1) := by decide +kernel
theorem dX6_between_6 : decode cX6_between 6 = .ok (.if_icmp .ne 7, 3) := by decide +kernel
theorem dX6_between_9 : decode cX6_between 9 = .ok (.iconst 5, 1) := by decide +kernel
theorem dX6_between_10 : decode cX6_between 10 = .ok (.goto 7, 3) := by decide +kernel
theorem dX6_between_13 : decode cX6_between 13 = .ok (.iload_n 1, 1) := by decide +kernel
theorem dX6_between_14 : decode cX6_between 14 = .ok (.invokestatic 127, 3) := by decide +kernel
theorem dX6_between_17 : decode cX6_between 17 = .ok (.invokevirtual 140, 3) := by decide +kernel
theorem dX6_between_20 : decode cX6_between 20 = .ok (.iload_n 1, 1) := by decide +kernel
theorem dX6_between_21 : decode cX6_between 21 = .ok (.invokestatic 127, 3) := by decide +kernel
theorem dX6_between_24 : decode cX6_between 24 = .ok (.iconst 4, 1) := by decide +kernel
theorem dX6_between_25 : decode cX6_between 25 = .ok (.if_icmp .ne 30, 3) := by decide +kernel
theorem dX6_between_28 : decode cX6_between 28 = .ok (.aload_n 0, 1) := by decide +kernel
theorem dX6_between_29 : decode cX6_between 29 = .ok (.getfield 124, 3) := by decide +kernel
theorem dX6_between_32 : decode cX6_between 32 = .ok (.ifCond .le 23, 3) := by decide +kernel
theorem dX6_between_35 : decode cX6_between 35 = .ok (.aload_n 0, 1) := by decide +kernel
theorem dX6_between_36 : decode cX6_between 36 = .ok (.getfield 55, 3) := by decide +kernel
theorem dX6_between_39 : decode cX6_between 39 = .ok (.aload_n 0, 1) := by decide +kernel
theorem dX6_between_40 : decode cX6_between 40 = .ok (.getfield 124, 3) := by decide +kernel
theorem dX6_between_43 : decode cX6_between 43 = .ok (.iconst 1, 1) := by decide +kernel
theorem dX6_between_44 : decode cX6_between 44 = .ok (.isub, 1) := by decide +kernel
theorem dX6_between_45 : decode cX6_between 45 = .ok (.iaload, 1) := by decide +kernel
theorem dX6_between_46 : decode cX6_between 46 = .ok (.invokestatic 127, 3) := by decide +kernel
theorem dX6_between_49 : decode cX6_between 49 = .ok (.iconst 4, 1) := by decide +kernel
theorem dX6_between_50 : decode cX6_between 50 = .ok (.if_icmp .ne 5, 3) := by decide +kernel
theorem dX6_between_53 : decode cX6_between 53 = .ok (.iconst 0, 1) := by decide +kernel
theorem dX6_between_54 : decode cX6_between 54 = .ok (.ireturn, 1) := by decide +kernel
theorem dX6_between_55 : decode cX6_between 55 = .ok (.aload_n 0, 1) := by decide +kernel
theorem dX6_between_56 : decode cX6_between 56 = .ok (.iload_n 1, 1) := by decide +kernel
theorem dX6_between_57 : decode cX6_between 57 = .ok (.invokevirtual 137, 3) := by decide +kernel
theorem dX6_between_60 : decode cX6_between 60 = .ok (.iconst 1, 1) := by decide +kernel
theorem dX6_between_61 : decode cX6_between 61 = .ok (.ireturn, 1) := by decide +kernel
theorem dX6_signOf_0 : decode cX6_signOf 0 = .ok (.aload_n 0, 1) := by decide +kernel
theorem dX6_signOf_1 : decode cX6_signOf 1 = .ok (.getfield 111, 3) := by decide +kernel
theorem dX6_signOf_4 : decode cX6_signOf 4 = .ok (.iconst 4, 1) := by decide +kernel
theorem dX6_signOf_5 : decode cX6_signOf 5 = .ok (.if_icmp .ne 8, 3) := by decide +kernel
theorem dX6_signOf_8 : decode cX6_signOf 8 = .ok (.bipush 11, 2) := by decide +kernel
theorem dX6_signOf_10 : decode cX6_signOf 10 = .ok (.goto 87, 3) := by decide +kernel
theorem dX6_signOf_13 : decode cX6_signOf 13 = .ok (.aload_n 0, 1) := by decide +kernel
theorem dX6_signOf_14 : decode cX6_signOf 14 = .ok (.getfield 111, 3) := by decide +kernel
theorem dX6_signOf_17 : decode cX6_signOf 17 = .ok (.iconst 5, 1) := by decide +kernel
theorem dX6_signOf_18 : decode cX6_signOf 18 = .ok (.if_icmp .ne 8, 3) := by decide +kernel
theorem dX6_signOf_21 : decode cX6_signOf 21 = .ok (.bipush 12, 2) := by decide +kernel
theorem dX6_signOf_23 : decode cX6_signOf 23 = .ok (.goto 74, 3) := by decide +kernel
theorem dX6_signOf_26 : decode cX6_signOf 26 = .ok (.aload_n 0, 1) := by decide +kernel
theorem dX6_signOf_27 : decode cX6_signOf 27 = .ok (.getfield 111, 3) := by decide +kernel
theorem dX6_signOf_30 : decode cX6_signOf 30 = .ok (.bipush 60, 2) := by decide +kernel
theorem dX6_signOf_32 : decode cX6_signOf 32 = .ok (.if_icmp .ne 8, 3) := by decide +kernel
theorem dX6_signOf_35 : decode cX6_signOf 35 = .ok (.bipush 14, 2) := by decide +kernel
theorem dX6_signOf_37 : decode cX6_signOf 37 = .ok (.goto 60, 3) := by decide +kernel
theorem dX6_signOf_40 : decode cX6_signOf 40 = .ok (.aload_n 0, 1) := by decide +kernel
theorem dX6_signOf_41 : decode cX6_signOf 41 = .ok (.getfield 111, 3) := by decide +kernel
theorem dX6_signOf_44 : decode cX6_signOf 44 = .ok (.bipush 61, 2) := by decide +kernel
theorem dX6_signOf_46 : decode cX6_signOf 46 = .ok (.if_icmp .ne 8, 3) := by decide +kernel
theorem dX6_signOf_49 : decode cX6_signOf 49 = .ok (.bipush 15, 2) := by decide +kernel
theorem dX6_signOf_51 : decode cX6_signOf 51 = .ok (.goto 46, 3) := by decide +kernel
theorem dX6_signOf_54 : decode cX6_signOf 54 = .ok (.aload_n 0, 1) := by decide +kernel
theorem dX6_signOf_55 : decode cX6_signOf 55 = .ok (.getfield 111, 3) := by decide +kernel
theorem dX6_signOf_58 : decode cX6_signOf 58 = .ok (.bipush 43, 2) := by decide +kernel
theorem dX6_signOf_60 : decode cX6_signOf 60 = .ok (.if_icmp .ne 8, 3) := by decide +kernel
theorem dX6_signOf_63 : decode cX6_signOf 63 = .ok (.bipush 16, 2) := by decide +kernel
theorem dX6_signOf_65 : decode cX6_signOf 65 = .ok (.goto 32, 3) := by decide +kernel
theorem dX6_signOf_68 : decode cX6_signOf 68 = .ok (.aload_n 0, 1) := by decide +kernel
theorem dX6_signOf_69 : decode cX6_signOf 69 = .ok (.getfield 111, 3) := by decide +kernel
theorem dX6_signOf_72 : decode cX6_signOf 72 = .ok (.bipush 45, 2) := by decide +kernel
theorem dX6_signOf_74 : decode cX6_signOf 74 = .ok (.if_icmp .ne 8, 3) := by decide +kernel
theorem dX6_signOf_77 : decode cX6_signOf 77 = .ok (.bipush 17, 2) := by decide +kernel
theorem dX6_signOf_79 : decode cX6_signOf 79 = .ok (.goto 18, 3) := by decide +kernel
theorem dX6_signOf_82 : decode cX6_signOf 82 = .ok (.aload_n 0, 1) := by decide +kernel
theorem dX6_signOf_83 : decode cX6_signOf 83 = .ok (.getfield 111, 3) := by decide +kernel
theorem dX6_signOf_86 : decode cX6_signOf 86 = .ok (.bipush 42, 2) := by decide +kernel
theorem dX6_signOf_88 : decode cX6_signOf 88 = .ok (.if_icmp .ne 8, 3) := by decide +kernel
theorem dX6_signOf_91 : decode cX6_signOf 91 = .ok (.bipush 18, 2) := by decide +kernel
theorem dX6_signOf_93 : decode cX6_signOf 93 = .ok (.goto 4, 3) := by decide +kernel
theorem dX6_signOf_96 : decode cX6_signOf 96 = .ok (.iconst (-1), 1) := by decide +kernel
theorem dX6_signOf_97 : decode cX6_signOf 97 = .ok (.ireturn, 1) := by decide +kernel
theorem dX6_eRead_0 : decode cX6_eRead 0 = .ok (.aload_n 0, 1) := by decide +kernel
theorem dX6_eRead_1 : decode cX6_eRead 1 = .ok (.iconst 0, 1) := by decide +kernel
theorem dX6_eRead_2 : decode cX6_eRead 2 = .ok (.putfield 124, 3) := by decide +kernel
theorem dX6_eRead_5 : decode cX6_eRead 5 = .ok (.aload_n 0, 1) := by decide +kernel
theorem dX6_eRead_6 : decode cX6_eRead 6 = .ok (.iconst 0, 1) := by decide +kernel
theorem dX6_eRead_7 : decode cX6_eRead 7 = .ok (.putfield 130, 3) := by decide +kernel
theorem dX6_eRead_10 : decode cX6_eRead 10 = .ok (.iconst 1, 1) := by decide +kernel
theorem dX6_eRead_11 : decode cX6_eRead 11 = .ok (.istore_n 1, 1) := by decide +kernel
theorem dX6_eRead_12 : decode cX6_eRead 12 = .ok (.iconst 1, 1) := by decide +kernel
theorem dX6_eRead_13 : decode cX6_eRead 13 = .ok (.istore_n 2, 1) := by decide +kernel
theorem dX6_eRead_14 : decode cX6_eRead 14 = .ok (.aload_n 0, 1) := by decide +kernel
theorem dX6_eRead_15 : decode cX6_eRead 15 = .ok (.invokevirtual 143, 3) := by decide +kernel
theorem dX6_eRead_18 : decode cX6_eRead 18 = .ok (.iload_n 1, 1) := by decide +kernel
theorem dX6_eRead_19 : decode cX6_eRead 19 = .ok (.ifCond .eq 131, 3) := by decide +kernel
theorem dX6_eRead_22 : decode cX6_eRead 22 = .ok (.aload_n 0, 1) := by decide +kernel
theorem dX6_eRead_23 : decode cX6_eRead 23 = .ok (.getfield 111, 3) := by decide +kernel
theorem dX6_eRead_26 : decode cX6_eRead 26 = .ok (.iconst 1, 1) := by decide +kernel
theorem dX6_eRead_27 : decode cX6_eRead 27 = .ok (.if_icmp .eq 11, 3) := by decide +kernel
theorem dX6_eRead_30 : decode cX6_eRead 30 = .ok (.aload_n 0, 1) := by decide +kernel
theorem dX6_eRead_31 : decode cX6_eRead 31 = .ok (.getfield 111, 3) := by decide +kernel
theorem dX6_eRead_34 : decode cX6_eRead 34 = .ok (.iconst 2, 1) := by decide +kernel
theorem dX6_eRead_35 : decode cX6_eRead 35 = .ok (.if_icmp .ne 40, 3) := by decide +kernel
theorem dX6_eRead_38 : decode cX6_eRead 38 = .ok (.aload_n 0, 1) := by decide +kernel
theorem dX6_eRead_39 : decode cX6_eRead 39 = .ok (.aload_n 0, 1) := by decide +kernel
theorem dX6_eRead_40 : decode cX6_eRead 40 = .ok (.getfield 111, 3) := by decide +kernel
theorem dX6_eRead_43 : decode cX6_eRead 43 = .ok (.iconst 1, 1) := by decide +kernel
theorem dX6_eRead_44 : decode cX6_eRead 44 = .ok (.if_icmp .ne 13, 3) := by decide +kernel
theorem dX6_eRead_47 : decode cX6_eRead 47 = .ok (.ldc 146, 2) := by decide +kernel
theorem dX6_eRead_49 : decode cX6_eRead 49 = .ok (.aload_n 0, 1) := by decide +kernel
theorem dX6_eRead_50 : decode cX6_eRead 50 = .ok (.getfield 114, 3) := by decide +kernel
theorem dX6_eRead_53 : decode cX6_eRead 53 = .ok (.iadd, 1) := by decide +kernel
theorem dX6_eRead_54 : decode cX6_eRead 54 = .ok (.goto 7, 3) := by decide +kernel
theorem dX6_eRead_57 : decode cX6_eRead 57 = .ok (.aload_n 0, 1) := by decide +kernel
theorem dX6_eRead_58 : decode cX6_eRead 58 = .ok (.getfield 114, 3) := by decide +kernel
theorem dX6_eRead_61 : decode cX6_eRead 61 = .ok (.invokevirtual 133, 3) := by decide +kernel
theorem dX6_eRead_64 : decode cX6_eRead 64 = .ok (.aload_n 0, 1) := by decide +kernel
theorem dX6_eRead_65 : decode cX6_eRead 65 = .ok (.bipush 7, 2) := by decide +kernel
theorem dX6_eRead_67 : decode cX6_eRead 67 = .ok (.invokevirtual 140, 3) := by decide +kernel
theorem dX6_eRead_70 : decode cX6_eRead 70 = .ok (.iconst 0, 1) := by decide +kernel
theorem dX6_eRead_71 : decode cX6_eRead 71 = .ok (.istore_n 1, 1) := by decide +kernel
theorem dX6_eRead_72 : decode cX6_eRead 72 = .ok (.goto (-58), 3) := by decide +kernel
theorem dX6_eRead_75 : decode cX6_eRead 75 = .ok (.aload_n 0, 1) := by decide +kernel
theorem dX6_eRead_76 : decode cX6_eRead 76 = .ok (.getfield 111, 3) := by decide +kernel
theorem dX6_eRead_79 : decode cX6_eRead 79 = .ok (.bipush 6, 2) := by decide +kernel
theorem dX6_eRead_81 : decode cX6_eRead 81 = .ok (.if_icmp .ne 18, 3) := by decide +kernel
theorem dX6_eRead_84 : decode cX6_eRead 84 = .ok (.iload_n 2, 1) := by decide +kernel
theorem dX6_eRead_85 : decode cX6_eRead 85 = .ok (.ifCond .eq 14, 3) := by decide +kernel
theorem dX6_eRead_88 : decode cX6_eRead 88 = .ok (.aload_n 0, 1) := by decide +kernel
theorem dX6_eRead_89 : decode cX6_eRead 89 = .ok (.bipush 13, 2) := by decide +kernel
theorem dX6_eRead_91 : decode cX6_eRead 91 = .ok (.invokevirtual 147, 3) := by decide +kernel
theorem dX6_eRead_94 : decode cX6_eRead 94 = .ok (.ifCond .ne (-80), 3) := by decide +kernel
theorem dX6_eRead_97 : decode cX6_eRead 97 = .ok (.iconst 0, 1) := by decide +kernel
theorem dX6_eRead_98 : decode cX6_eRead 98 = .ok (.ireturn, 1) := by decide +kernel
theorem dX6_eRead_99 : decode cX6_eRead 99 = .ok (.aload_n 0, 1) := by decide +kernel
theorem dX6_eRead_100 : decode cX6_eRead 100 = .ok (.getfield 111, 3) := by decide +kernel
theorem dX6_eRead_103 : decode cX6_eRead 103 = .ok (.bipush 45, 2) := by decide +kernel
theorem dX6_eRead_105 : decode cX6_eRead 105 = .ok (.if_icmp .ne 19, 3) := by decide +kernel
theorem dX6_eRead_108 : decode cX6_eRead 108 = .ok (.aload_n 0, 1) := by decide +kernel
theorem dX6_eRead_109 : decode cX6_eRead 109 = .ok (.bipush 19, 2) := by decide +kernel
theorem dX6_eRead_111 : decode cX6_eRead 111 = .ok (.invokevirtual 147, 3) := by decide +kernel
theorem dX6_eRead_114 : decode cX6_eRead 114 = .ok (.ifCond .ne 5, 3) := by decide +kernel
theorem dX6_eRead_117 : decode cX6_eRead 117 = .ok (.iconst 0, 1) := by decide +kernel
theorem dX6_eRead_118 : decode cX6_eRead 118 = .ok (.ireturn, 1) := by decide +kernel
theorem dX6_eRead_119 : decode cX6_eRead 119 = .ok (.iconst 0, 1) := by decide +kernel
theorem dX6_eRead_120 : decode cX6_eRead 120 = .ok (.istore_n 2, 1) := by decide +kernel
theorem dX6_eRead_121 : decode cX6_eRead 121 = .ok (.goto (-107), 3) := by decide +kernel
theorem dX6_eRead_124 : decode cX6_eRead 124 = .ok (.aload_n 0, 1) := by decide +kernel
theorem dX6_eRead_125 : decode cX6_eRead 125 = .ok (.getfield 111, 3) := by decide +kernel
theorem dX6_eRead_128 : decode cX6_eRead 128 = .ok (.bipush 40, 2) := by decide +kernel
theorem dX6_eRead_130 : decode cX6_eRead 130 = .ok (.if_icmp .ne 18, 3) := by decide +kernel
theorem dX6_eRead_133 : decode cX6_eRead 133 = .ok (.aload_n 0, 1) := by decide +kernel
theorem dX6_eRead_134 : decode cX6_eRead 134 = .ok (.iconst 0, 1) := by decide +kernel
theorem dX6_eRead_135 : decode cX6_eRead 135 = .ok (.invokevirtual 147, 3) := by decide +kernel
theorem dX6_eRead_138 : decode cX6_eRead 138 = .ok (.ifCond .ne 5, 3) := by decide +kernel
theorem dX6_eRead_141 : decode cX6_eRead 141 = .ok (.iconst 0, 1) := by decide +kernel
theorem dX6_eRead_142 : decode cX6_eRead 142 = .ok (.ireturn, 1) := by decide +kernel
theorem dX6_eRead_143 : decode cX6_eRead 143 = .ok (.iconst 1, 1) := by decide +kernel
theorem dX6_eRead_144 : decode cX6_eRead 144 = .ok (.istore_n 2, 1) := by decide +kernel
theorem dX6_eRead_145 : decode cX6_eRead 145 = .ok (.goto (-131), 3) := by decide +kernel
theorem dX6_eRead_148 : decode cX6_eRead 148 = .ok (.iconst 0, 1) := by decide +kernel
theorem dX6_eRead_149 : decode cX6_eRead 149 = .ok (.ireturn, 1) := by decide +kernel
theorem dX6_eRead_150 : decode cX6_eRead 150 = .ok (.aload_n 0, 1) := by decide +kernel
theorem dX6_eRead_151 : decode cX6_eRead 151 = .ok (.getfield 111, 3) := by decide +kernel
theorem dX6_eRead_154 : decode cX6_eRead 154 = .ok (.bipush 59, 2) := by decide +kernel
theorem dX6_eRead_156 : decode cX6_eRead 156 = .ok (.if_icmp .ne 21, 3) := by decide +kernel
theorem dX6_eRead_159 : decode cX6_eRead 159 = .ok (.aload_n 0, 1) := by decide +kernel
theorem dX6_eRead_160 : decode cX6_eRead 160 = .ok (.iconst 1, 1) := by decide +kernel
theorem dX6_eRead_161 : decode cX6_eRead 161 = .ok (.invokevirtual 140, 3) := by decide +kernel
theorem dX6_eRead_164 : decode cX6_eRead 164 = .ok (.aload_n 0, 1) := by decide +kernel
theorem dX6_eRead_165 : decode cX6_eRead 165 = .ok (.getfield 124, 3) := by decide +kernel
theorem dX6_eRead_168 : decode cX6_eRead 168 = .ok (.ifCond .ne 7, 3) := by decide +kernel
theorem dX6_eRead_171 : decode cX6_eRead 171 = .ok (.iconst 1, 1) := by decide +kernel
theorem dX6_eRead_172 : decode cX6_eRead 172 = .ok (.goto 4, 3) := by decide +kernel
theorem dX6_eRead_175 : decode cX6_eRead 175 = .ok (.iconst 0, 1) := by decide +kernel
theorem dX6_eRead_176 : decode cX6_eRead 176 = .ok (.ireturn, 1) := by decide +kernel
theorem dX6_eRead_177 : decode cX6_eRead 177 = .ok (.aload_n 0, 1) := by decide +kernel
theorem dX6_eRead_178 : decode cX6_eRead 178 = .ok (.getfield 111, 3) := by decide +kernel
theorem dX6_eRead_181 : decode cX6_eRead 181 = .ok (.bipush 41, 2) := by decide +kernel
theorem dX6_eRead_183 : decode cX6_eRead 183 = .ok (.if_icmp .ne 46, 3) := by decide +kernel
theorem dX6_eRead_186 : decode cX6_eRead 186 = .ok (.aload_n 0, 1) := by decide +kernel
theorem dX6_eRead_187 : decode cX6_eRead 187 = .ok (.iconst 1, 1) := by decide +kernel
theorem dX6_eRead_188 : decode cX6_eRead 188 = .ok (.invokevirtual 140, 3) := by decide +kernel
theorem dX6_eRead_191 : decode cX6_eRead 191 = .ok (.aload_n 0, 1) := by decide +kernel
theorem dX6_eRead_192 : decode cX6_eRead 192 = .ok (.getfield 124, 3) := by decide +kernel
theorem dX6_eRead_195 : decode cX6_eRead 195 = .ok (.ifCond .ne 5, 3) := by decide +kernel
theorem dX6_eRead_198 : decode cX6_eRead 198 = .ok (.iconst 0, 1) := by decide +kernel
theorem dX6_eRead_199 : decode cX6_eRead 199 = .ok (.ireturn, 1) := by decide +kernel
theorem dX6_eRead_200 : decode cX6_eRead 200 = .ok (.aload_n 0, 1) := by decide +kernel
theorem dX6_eRead_201 : decode cX6_eRead 201 = .ok (.dup, 1) := by decide +kernel
theorem dX6_eRead_202 : decode cX6_eRead 202 = .ok (.getfield 124, 3) := by decide +kernel
theorem dX6_eRead_205 : decode cX6_eRead 205 = .ok (.iconst 1, 1) := by decide +kernel
theorem dX6_eRead_206 : decode cX6_eRead 206 = .ok (.isub, 1) := by decide +kernel
theorem dX6_eRead_207 : decode cX6_eRead 207 = .ok (.putfield 124, 3) := by decide +kernel
theorem dX6_eRead_210 : decode cX6_eRead 210 = .ok (.aload_n 0, 1) := by decide +kernel
theorem dX6_eRead_211 : decode cX6_eRead 211 = .ok (.dup, 1) := by decide +kernel
theorem dX6_eRead_212 : decode cX6_eRead 212 = .ok (.getfield 130, 3) := by decide +kernel
theorem dX6_eRead_215 : decode cX6_eRead 215 = .ok (.iconst 1, 1) := by decide +kernel
theorem dX6_eRead_216 : decode cX6_eRead 216 = .ok (.isub, 1) := by decide +kernel
theorem dX6_eRead_217 : decode cX6_eRead 217 = .ok (.putfield 130, 3) := by decide +kernel
theorem dX6_eRead_220 : decode cX6_eRead 220 = .ok (.aload_n 0, 1) := by decide +kernel
theorem dX6_eRead_221 : decode cX6_eRead 221 = .ok (.bipush 7, 2) := by decide +kernel
theorem dX6_eRead_223 : decode cX6_eRead 223 = .ok (.invokevirtual 140, 3) := by decide +kernel
theorem dX6_eRead_226 : decode cX6_eRead 226 = .ok (.goto (-212), 3) := by decide +kernel
theorem dX6_eRead_229 : decode cX6_eRead 229 = .ok (.aload_n 0, 1) := by decide +kernel
theorem dX6_eRead_230 : decode cX6_eRead 230 = .ok (.invokevirtual 150, 3) := by decide +kernel
theorem dX6_eRead_233 : decode cX6_eRead 233 = .ok (.istore_n 3, 1) := by decide +kernel
theorem dX6_eRead_234 : decode cX6_eRead 234 = .ok (.iload_n 3, 1) := by decide +kernel
theorem dX6_eRead_235 : decode cX6_eRead 235 = .ok (.iconst (-1), 1) := by decide +kernel
theorem dX6_eRead_236 : decode cX6_eRead 236 = .ok (.if_icmp .eq 11, 3) := by decide +kernel
theorem dX6_eRead_239 : decode cX6_eRead 239 = .ok (.aload_n 0, 1) := by decide +kernel
theorem dX6_eRead_240 : decode cX6_eRead 240 = .ok (.iload_n 3, 1) := by decide +kernel
theorem dX6_eRead_241 : decode cX6_eRead 241 = .ok (.invokevirtual 153, 3) := by decide +kernel
theorem dX6_eRead_244 : decode cX6_eRead 244 = .ok (.ifCond .ne 5, 3) := by decide +kernel
theorem dX6_eRead_247 : decode cX6_eRead 247 = .ok (.iconst 0, 1) := by decide +kernel
theorem dX6_eRead_248 : decode cX6_eRead 248 = .ok (.ireturn, 1) := by decide +kernel
theorem dX6_eRead_249 : decode cX6_eRead 249 = .ok (.iconst 1, 1) := by decide +kernel
theorem dX6_eRead_250 : decode cX6_eRead 250 = .ok (.istore_n 1, 1) := by decide +kernel
theorem dX6_eRead_251 : decode cX6_eRead 251 = .ok (.iload_n 3, 1) := by decide +kernel
theorem dX6_eRead_252 : decode cX6_eRead 252 = .ok (.bipush 12, 2) := by decide +kernel
theorem dX6_eRead_254 : decode cX6_eRead 254 = .ok (.if_icmp .gt 7, 3) := by decide +kernel
theorem dX6_eRead_257 : decode cX6_eRead 257 = .ok (.iconst 1, 1) := by decide +kernel
theorem dX6_eRead_258 : decode cX6_eRead 258 = .ok (.goto 4, 3) := by decide +kernel
theorem dX6_eRead_261 : decode cX6_eRead 261 = .ok (.iconst 0, 1) := by decide +kernel
theorem dX6_eRead_262 : decode cX6_eRead 262 = .ok (.istore_n 2, 1) := by decide +kernel
theorem dX6_eRead_263 : decode cX6_eRead 263 = .ok (.goto (-249), 3) := by decide +kernel
theorem dX6_text_0 : decode cX6_text 0 = .ok (.aload_n 0, 1) := by decide +kernel
theorem dX6_text_1 : decode cX6_text 1 = .ok (.getfield 92, 3) := by decide +kernel
theorem dX6_text_4 : decode cX6_text 4 = .ok (.bipush 6, 2) := by decide +kernel
theorem dX6_text_6 : decode cX6_text 6 = .ok (.if_icmp .ne 6, 3) := by decide +kernel
theorem dX6_text_9 : decode cX6_text 9 = .ok (.bipush (-4), 2) := by decide +kernel
theorem dX6_text_11 : decode cX6_text 11 = .ok (.ireturn, 1) := by decide +kernel
theorem dX6_text_12 : decode cX6_text 12 = .ok (.aload_n 0, 1) := by decide +kernel
theorem dX6_text_13 : decode cX6_text 13 = .ok (.iconst 0, 1) := by decide +kernel
theorem dX6_text_14 : decode cX6_text 14 = .ok (.putfield 105, 3) := by decide +kernel
theorem dX6_text_17 : decode cX6_text 17 = .ok (.aload_n 0, 1) := by decide +kernel
theorem dX6_text_18 : decode cX6_text 18 = .ok (.iconst 0, 1) := by decide +kernel
theorem dX6_text_19 : decode cX6_text 19 = .ok (.putfield 121, 3) := by decide +kernel
theorem dX6_text_22 : decode cX6_text 22 = .ok (.iconst 1, 1) := by decide +kernel
theorem dX6_text_23 : decode cX6_text 23 = .ok (.istore_n 1, 1) := by decide +kernel
theorem dX6_text_24 : decode cX6_text 24 = .ok (.iconst 0, 1) := by decide +kernel
theorem dX6_text_25 : decode cX6_text 25 = .ok (.istore_n 2, 1) := by decide +kernel
theorem dX6_text_26 : decode cX6_text 26 = .ok (.iload_n 2, 1) := by decide +kernel
theorem dX6_text_27 : decode cX6_text 27 = .ok (.iconst 3, 1) := by decide +kernel
theorem dX6_text_28 : decode cX6_text 28 = .ok (.if_icmp .ge 73, 3) := by decide +kernel
theorem dX6_text_31 : decode cX6_text 31 = .ok (.iload_n 1, 1) := by decide +kernel
theorem dX6_text_32 : decode cX6_text 32 = .ok (.ifCond .eq 69, 3) := by decide +kernel
theorem dX6_text_35 : decode cX6_text 35 = .ok (.aload_n 0, 1) := by decide +kernel
theorem dX6_text_36 : decode cX6_text 36 = .ok (.invokevirtual 143, 3) := by decide +kernel
theorem dX6_text_39 : decode cX6_text 39 = .ok (.aload_n 0, 1) := by decide +kernel
theorem dX6_text_40 : decode cX6_text 40 = .ok (.getfield 111, 3) := by decide +kernel
theorem dX6_text_43 : decode cX6_text 43 = .ok (.iconst 3, 1) := by decide +kernel
theorem dX6_text_44 : decode cX6_text 44 = .ok (.if_icmp .ne 15, 3) := by decide +kernel
theorem dX6_text_47 : decode cX6_text 47 = .ok (.aload_n 0, 1) := by decide +kernel
theorem dX6_text_48 : decode cX6_text 48 = .ok (.getfield 114, 3) := by decide +kernel
theorem dX6_text_51 : decode cX6_text 51 = .ok (.iload_n 2, 1) := by decide +kernel
theorem dX6_text_52 : decode cX6_text 52 = .ok (.if_icmp .ne 7, 3) := by decide +kernel
theorem dX6_text_55 : decode cX6_text 55 = .ok (.iconst 1, 1) := by decide +kernel
theorem dX6_text_56 : decode cX6_text 56 = .ok (.goto 4, 3) := by decide +kernel
theorem dX6_text_59 : decode cX6_text 59 = .ok (.iconst 0, 1) := by decide +kernel
theorem dX6_text_60 : decode cX6_text 60 = .ok (.istore_n 1, 1) := by decide +kernel
theorem dX6_text_61 : decode cX6_text 61 = .ok (.aload_n 0, 1) := by decide +kernel
theorem dX6_text_62 : decode cX6_text 62 = .ok (.getfield 31, 3) := by decide +kernel
theorem dX6_text_65 : decode cX6_text 65 = .ok (.iconst 4, 1) := by decide +kernel
theorem dX6_text_66 : decode cX6_text 66 = .ok (.aload_n 0, 1) := by decide +kernel
theorem dX6_text_67 : decode cX6_text 67 = .ok (.getfield 92, 3) := by decide +kernel
theorem dX6_text_70 : decode cX6_text 70 = .ok (.imul, 1) := by decide +kernel
theorem dX6_text_71 : decode cX6_text 71 = .ok (.iload_n 2, 1) := by decide +kernel
theorem dX6_text_72 : decode cX6_text 72 = .ok (.iadd, 1) := by decide +kernel
theorem dX6_text_73 : decode cX6_text 73 = .ok (.aload_n 0, 1) := by decide +kernel
theorem dX6_text_74 : decode cX6_text 74 = .ok (.getfield 121, 3) := by decide +kernel
theorem dX6_text_77 : decode cX6_text 77 = .ok (.iastore, 1) := by decide +kernel
theorem dX6_text_78 : decode cX6_text 78 = .ok (.iload_n 1, 1) := by decide +kernel
theorem dX6_text_79 : decode cX6_text 79 = .ok (.ifCond .eq 14, 3) := by decide +kernel
theorem dX6_text_82 : decode cX6_text 82 = .ok (.aload_n 0, 1) := by decide +kernel
theorem dX6_text_83 : decode cX6_text 83 = .ok (.invokevirtual 156, 3) := by decide +kernel
theorem dX6_text_86 : decode cX6_text 86 = .ok (.ifCond .eq 7, 3) := by decide +kernel
theorem dX6_text_89 : decode cX6_text 89 = .ok (.iconst 1, 1) := by decide +kernel
theorem dX6_text_90 : decode cX6_text 90 = .ok (.goto 4, 3) := by decide +kernel
theorem dX6_text_93 : decode cX6_text 93 = .ok (.iconst 0, 1) := by decide +kernel
theorem dX6_text_94 : decode cX6_text 94 = .ok (.istore_n 1, 1) := by decide +kernel
theorem dX6_text_95 : decode cX6_text 95 = .ok (.iinc 2 1, 3) := by decide +kernel
theorem dX6_text_98 : decode cX6_text 98 = .ok (.goto (-72), 3) := by decide +kernel
theorem dX6_text_101 : decode cX6_text 101 = .ok (.iload_n 1, 1) := by decide +kernel
theorem dX6_text_102 : decode cX6_text 102 = .ok (.ifCond .eq 20, 3) := by decide +kernel
theorem dX6_text_105 : decode cX6_text 105 = .ok (.aload_n 0, 1) := by decide +kernel
theorem dX6_text_106 : decode cX6_text 106 = .ok (.invokevirtual 143, 3) := by decide +kernel
theorem dX6_text_109 : decode cX6_text 109 = .ok (.aload_n 0, 1) := by decide +kernel
theorem dX6_text_110 : decode cX6_text 110 = .ok (.getfield 111, 3) := by decide +kernel
theorem dX6_text_113 : decode cX6_text 113 = .ok (.ifCond .ne 7, 3) := by decide +kernel
theorem dX6_text_116 : decode cX6_text 116 = .ok (.iconst 1, 1) := by decide +kernel
theorem dX6_text_117 : decode cX6_text 117 = .ok (.goto 4, 3) := by decide +kernel
theorem dX6_text_120 : decode cX6_text 120 = .ok (.iconst 0, 1) := by decide +kernel
theorem dX6_text_121 : decode cX6_text 121 = .ok (.istore_n 1, 1) := by decide +kernel
theorem dX6_text_122 : decode cX6_text 122 = .ok (.aload_n 0, 1) := by decide +kernel
theorem dX6_text_123 : decode cX6_text 123 = .ok (.getfield 31, 3) := by decide +kernel
theorem dX6_text_126 : decode cX6_text 126 = .ok (.iconst 4, 1) := by decide +kernel
theorem dX6_text_127 : decode cX6_text 127 = .ok (.aload_n 0, 1) := by decide +kernel
theorem dX6_text_128 : decode cX6_text 128 = .ok (.getfield 92, 3) := by decide +kernel
theorem dX6_text_131 : decode cX6_text 131 = .ok (.imul, 1) := by decide +kernel
theorem dX6_text_132 : decode cX6_text 132 = .ok (.iconst 3, 1) := by decide +kernel
theorem dX6_text_133 : decode cX6_text 133 = .ok (.iadd, 1) := by decide +kernel
theorem dX6_text_134 : decode cX6_text 134 = .ok (.aload_n 0, 1) := by decide +kernel
theorem dX6_text_135 : decode cX6_text 135 = .ok (.getfield 121, 3) := by decide +kernel
theorem dX6_text_138 : decode cX6_text 138 = .ok (.iastore, 1) := by decide +kernel
theorem dX6_text_139 : decode cX6_text 139 = .ok (.aload_n 0, 1) := by decide +kernel
theorem dX6_text_140 : decode cX6_text 140 = .ok (.iconst 0, 1) := by decide +kernel
theorem dX6_text_141 : decode cX6_text 141 = .ok (.putfield 67, 3) := by decide +kernel
theorem dX6_text_144 : decode cX6_text 144 = .ok (.iload_n 1, 1) := by decide +kernel
theorem dX6_text_145 : decode cX6_text 145 = .ok (.ifCond .ne 11, 3) := by decide +kernel
theorem dX6_text_148 : decode cX6_text 148 = .ok (.bipush (-100), 2) := by decide +kernel
theorem dX6_text_150 : decode cX6_text 150 = .ok (.aload_n 0, 1) := by decide +kernel
theorem dX6_text_151 : decode cX6_text 151 = .ok (.getfield 108, 3) := by decide +kernel
theorem dX6_text_154 : decode cX6_text 154 = .ok (.isub, 1) := by decide +kernel
theorem dX6_text_155 : decode cX6_text 155 = .ok (.ireturn, 1) := by decide +kernel
theorem dX6_text_156 : decode cX6_text 156 = .ok (.aload_n 0, 1) := by decide +kernel
theorem dX6_text_157 : decode cX6_text 157 = .ok (.dup, 1) := by decide +kernel
theorem dX6_text_158 : decode cX6_text 158 = .ok (.getfield 92, 3) := by decide +kernel
theorem dX6_text_161 : decode cX6_text 161 = .ok (.iconst 1, 1) := by decide +kernel
theorem dX6_text_162 : decode cX6_text 162 = .ok (.iadd, 1) := by decide +kernel
theorem dX6_text_163 : decode cX6_text 163 = .ok (.putfield 92, 3) := by decide +kernel
theorem dX6_text_166 : decode cX6_text 166 = .ok (.aload_n 0, 1) := by decide +kernel
theorem dX6_text_167 : decode cX6_text 167 = .ok (.getfield 92, 3) := by decide +kernel
theorem dX6_text_170 : decode cX6_text 170 = .ok (.iconst 1, 1) := by decide +kernel
theorem dX6_text_171 : decode cX6_text 171 = .ok (.isub, 1) := by decide +kernel
theorem dX6_text_172 : decode cX6_text 172 = .ok (.ireturn, 1) := by decide +kernel
theorem dX6_two_0 : decode cX6_two 0 = .ok (.iload_n 0, 1) := by decide +kernel
theorem dX6_two_1 : decode cX6_two 1 = .ok (.tableswitch 101 11 17 #[43, 57, 101, 71, 82, 93, 97], 43) := by decide +kernel
theorem dX6_two_44 : decode cX6_two 44 = .ok (.iload_n 1, 1) := by decide +kernel
theorem dX6_two_45 : decode cX6_two 45 = .ok (.ifCond .ne 7, 3) := by decide +kernel
theorem dX6_two_48 : decode cX6_two 48 = .ok (.iload_n 2, 1) := by decide +kernel
theorem dX6_two_49 : decode cX6_two 49 = .ok (.ifCond .eq 7, 3) := by decide +kernel
theorem dX6_two_52 : decode cX6_two 52 = .ok (.iconst 1, 1) := by decide +kernel
theorem dX6_two_53 : decode cX6_two 53 = .ok (.goto 4, 3) := by decide +kernel
theorem dX6_two_56 : decode cX6_two 56 = .ok (.iconst 0, 1) := by decide +kernel
theorem dX6_two_57 : decode cX6_two 57 = .ok (.ireturn, 1) := by decide +kernel
theorem dX6_two_58 : decode cX6_two 58 = .ok (.iload_n 1, 1) := by decide +kernel
theorem dX6_two_59 : decode cX6_two 59 = .ok (.ifCond .eq 11, 3) := by decide +kernel
theorem dX6_two_62 : decode cX6_two 62 = .ok (.iload_n 2, 1) := by decide +kernel
theorem dX6_two_63 : decode cX6_two 63 = .ok (.ifCond .eq 7, 3) := by decide +kernel
theorem dX6_two_66 : decode cX6_two 66 = .ok (.iconst 1, 1) := by decide +kernel
theorem dX6_two_67 : decode cX6_two 67 = .ok (.goto 4, 3) := by decide +kernel
theorem dX6_two_70 : decode cX6_two 70 = .ok (.iconst 0, 1) := by decide +kernel
theorem dX6_two_71 : decode cX6_two 71 = .ok (.ireturn, 1) := by decide +kernel
theorem dX6_two_72 : decode cX6_two 72 = .ok (.iload_n 1, 1) := by decide +kernel
theorem dX6_two_73 : decode cX6_two 73 = .ok (.iload_n 2, 1) := by decide +kernel
theorem dX6_two_74 : decode cX6_two 74 = .ok (.if_icmp .ge 7, 3) := by decide +kernel
theorem dX6_two_77 : decode cX6_two 77 = .ok (.iconst 1, 1) := by decide +kernel
theorem dX6_two_78 : decode cX6_two 78 = .ok (.goto 4, 3) := by decide +kernel
theorem dX6_two_81 : decode cX6_two 81 = .ok (.iconst 0, 1) := by decide +kernel
theorem dX6_two_82 : decode cX6_two 82 = .ok (.ireturn, 1) := by decide +kernel
theorem dX6_two_83 : decode cX6_two 83 = .ok (.iload_n 1, 1) := by decide +kernel
theorem dX6_two_84 : decode cX6_two 84 = .ok (.iload_n 2, 1) := by decide +kernel
theorem dX6_two_85 : decode cX6_two 85 = .ok (.if_icmp .ne 7, 3) := by decide +kernel
theorem dX6_two_88 : decode cX6_two 88 = .ok (.iconst 1, 1) := by decide +kernel
theorem dX6_two_89 : decode cX6_two 89 = .ok (.goto 4, 3) := by decide +kernel
theorem dX6_two_92 : decode cX6_two 92 = .ok (.iconst 0, 1) := by decide +kernel
theorem dX6_two_93 : decode cX6_two 93 = .ok (.ireturn, 1) := by decide +kernel
theorem dX6_two_94 : decode cX6_two 94 = .ok (.iload_n 1, 1) := by decide +kernel
theorem dX6_two_95 : decode cX6_two 95 = .ok (.iload_n 2, 1) := by decide +kernel
theorem dX6_two_96 : decode cX6_two 96 = .ok (.iadd, 1) := by decide +kernel
theorem dX6_two_97 : decode cX6_two 97 = .ok (.ireturn, 1) := by decide +kernel
theorem dX6_two_98 : decode cX6_two 98 = .ok (.iload_n 1, 1) := by decide +kernel
theorem dX6_two_99 : decode cX6_two 99 = .ok (.iload_n 2, 1) := by decide +kernel
theorem dX6_two_100 : decode cX6_two 100 = .ok (.isub, 1) := by decide +kernel
theorem dX6_two_101 : decode cX6_two 101 = .ok (.ireturn, 1) := by decide +kernel
theorem dX6_two_102 : decode cX6_two 102 = .ok (.iload_n 1, 1) := by decide +kernel
theorem dX6_two_103 : decode cX6_two 103 = .ok (.iload_n 2, 1) := by decide +kernel
theorem dX6_two_104 : decode cX6_two 104 = .ok (.imul, 1) := by decide +kernel
theorem dX6_two_105 : decode cX6_two 105 = .ok (.ireturn, 1) := by decide +kernel
theorem dX6_says_0 : decode cX6_says 0 = .ok (.iconst 0, 1) := by decide +kernel
theorem dX6_says_1 : decode cX6_says 1 = .ok (.istore_n 2, 1) := by decide +kernel
theorem dX6_says_2 : decode cX6_says 2 = .ok (.aload_n 0, 1) := by decide +kernel
theorem dX6_says_3 : decode cX6_says 3 = .ok (.getfield 31, 3) := by decide +kernel
theorem dX6_says_6 : decode cX6_says 6 = .ok (.iconst 4, 1) := by decide +kernel
theorem dX6_says_7 : decode cX6_says 7 = .ok (.aload_n 0, 1) := by decide +kernel
theorem dX6_says_8 : decode cX6_says 8 = .ok (.getfield 95, 3) := by decide +kernel
theorem dX6_says_11 : decode cX6_says 11 = .ok (.imul, 1) := by decide +kernel
theorem dX6_says_12 : decode cX6_says 12 = .ok (.iload_n 1, 1) := by decide +kernel
theorem dX6_says_13 : decode cX6_says 13 = .ok (.iadd, 1) := by decide +kernel
theorem dX6_says_14 : decode cX6_says 14 = .ok (.iaload, 1) := by decide +kernel
theorem dX6_says_15 : decode cX6_says 15 = .ok (.istore_n 3, 1) := by decide +kernel
theorem dX6_says_16 : decode cX6_says 16 = .ok (.iload_n 3, 1) := by decide +kernel
theorem dX6_says_17 : decode cX6_says 17 = .ok (.aload_n 0, 1) := by decide +kernel
theorem dX6_says_18 : decode cX6_says 18 = .ok (.getfield 31, 3) := by decide +kernel
theorem dX6_says_21 : decode cX6_says 21 = .ok (.iconst 4, 1) := by decide +kernel
theorem dX6_says_22 : decode cX6_says 22 = .ok (.aload_n 0, 1) := by decide +kernel
theorem dX6_says_23 : decode cX6_says 23 = .ok (.getfield 95, 3) := by decide +kernel
theorem dX6_says_26 : decode cX6_says 26 = .ok (.imul, 1) := by decide +kernel
theorem dX6_says_27 : decode cX6_says 27 = .ok (.iload_n 1, 1) := by decide +kernel
theorem dX6_says_28 : decode cX6_says 28 = .ok (.iadd, 1) := by decide +kernel
theorem dX6_says_29 : decode cX6_says 29 = .ok (.iconst 1, 1) := by decide +kernel
theorem dX6_says_30 : decode cX6_says 30 = .ok (.iadd, 1) := by decide +kernel
theorem dX6_says_31 : decode cX6_says 31 = .ok (.iaload, 1) := by decide +kernel
theorem dX6_says_32 : decode cX6_says 32 = .ok (.if_icmp .ge 165, 3) := by decide +kernel
theorem dX6_says_35 : decode cX6_says 35 = .ok (.aload_n 0, 1) := by decide +kernel
theorem dX6_says_36 : decode cX6_says 36 = .ok (.getfield 28, 3) := by decide +kernel
theorem dX6_says_39 : decode cX6_says 39 = .ok (.sipush 200, 3) := by decide +kernel
theorem dX6_says_42 : decode cX6_says 42 = .ok (.aload_n 0, 1) := by decide +kernel
theorem dX6_says_43 : decode cX6_says 43 = .ok (.getfield 95, 3) := by decide +kernel
theorem dX6_says_46 : decode cX6_says 46 = .ok (.imul, 1) := by decide +kernel
theorem dX6_says_47 : decode cX6_says 47 = .ok (.iload_n 3, 1) := by decide +kernel
theorem dX6_says_48 : decode cX6_says 48 = .ok (.iadd, 1) := by decide +kernel
theorem dX6_says_49 : decode cX6_says 49 = .ok (.iaload, 1) := by decide +kernel
theorem dX6_says_50 : decode cX6_says 50 = .ok (.istore 4, 2) := by decide +kernel
theorem dX6_says_52 : decode cX6_says 52 = .ok (.iload 4, 2) := by decide +kernel
theorem dX6_says_54 : decode cX6_says 54 = .ok (.ldc 146, 2) := by decide +kernel
theorem dX6_says_56 : decode cX6_says 56 = .ok (.if_icmp .ge 10, 3) := by decide +kernel
theorem dX6_says_59 : decode cX6_says 59 = .ok (.iload 4, 2) := by decide +kernel
theorem dX6_says_61 : decode cX6_says 61 = .ok (.bipush 11, 2) := by decide +kernel
theorem dX6_says_63 : decode cX6_says 63 = .ok (.if_icmp .ge 37, 3) := by decide +kernel
theorem dX6_says_66 : decode cX6_says 66 = .ok (.aload_n 0, 1) := by decide +kernel
theorem dX6_says_67 : decode cX6_says 67 = .ok (.getfield 58, 3) := by decide +kernel
theorem dX6_says_70 : decode cX6_says 70 = .ok (.iload_n 2, 1) := by decide +kernel
theorem dX6_says_71 : decode cX6_says 71 = .ok (.iload 4, 2) := by decide +kernel
theorem dX6_says_73 : decode cX6_says 73 = .ok (.bipush 11, 2) := by decide +kernel
theorem dX6_says_75 : decode cX6_says 75 = .ok (.if_icmp .ge 13, 3) := by decide +kernel
theorem dX6_says_78 : decode cX6_says 78 = .ok (.aload_n 0, 1) := by decide +kernel
theorem dX6_says_79 : decode cX6_says 79 = .ok (.getfield 61, 3) := by decide +kernel
theorem dX6_says_82 : decode cX6_says 82 = .ok (.iload 4, 2) := by decide +kernel
theorem dX6_says_84 : decode cX6_says 84 = .ok (.iaload, 1) := by decide +kernel
theorem dX6_says_85 : decode cX6_says 85 = .ok (.goto 8, 3) := by decide +kernel
theorem dX6_says_88 : decode cX6_says 88 = .ok (.iload 4, 2) := by decide +kernel
theorem dX6_says_90 : decode cX6_says 90 = .ok (.ldc 146, 2) := by decide +kernel
theorem dX6_says_92 : decode cX6_says 92 = .ok (.isub, 1) := by decide +kernel
theorem dX6_says_93 : decode cX6_says 93 = .ok (.iastore, 1) := by decide +kernel
theorem dX6_says_94 : decode cX6_says 94 = .ok (.iinc 2 1, 3) := by decide +kernel
theorem dX6_says_97 : decode cX6_says 97 = .ok (.goto 94, 3) := by decide +kernel
theorem dX6_says_100 : decode cX6_says 100 = .ok (.iload 4, 2) := by decide +kernel
theorem dX6_says_102 : decode cX6_says 102 = .ok (.bipush 13, 2) := by decide +kernel
theorem dX6_says_104 : decode cX6_says 104 = .ok (.if_icmp .ne 30, 3) := by decide +kernel
theorem dX6_says_107 : decode cX6_says 107 = .ok (.aload_n 0, 1) := by decide +kernel
theorem dX6_says_108 : decode cX6_says 108 = .ok (.getfield 58, 3) := by decide +kernel
theorem dX6_says_111 : decode cX6_says 111 = .ok (.iload_n 2, 1) := by decide +kernel
theorem dX6_says_112 : decode cX6_says 112 = .ok (.iconst 1, 1) := by decide +kernel
theorem dX6_says_113 : decode cX6_says 113 = .ok (.isub, 1) := by decide +kernel
theorem dX6_says_114 : decode cX6_says 114 = .ok (.aload_n 0, 1) := by decide +kernel
theorem dX6_says_115 : decode cX6_says 115 = .ok (.getfield 58, 3) := by decide +kernel
theorem dX6_says_118 : decode cX6_says 118 = .ok (.iload_n 2, 1) := by decide +kernel
theorem dX6_says_119 : decode cX6_says 119 = .ok (.iconst 1, 1) := by decide +kernel
theorem dX6_says_120 : decode cX6_says 120 = .ok (.isub, 1) := by decide +kernel
theorem dX6_says_121 : decode cX6_says 121 = .ok (.iaload, 1) := by decide +kernel
theorem dX6_says_122 : decode cX6_says 122 = .ok (.ifCond .ne 7, 3) := by decide +kernel
theorem dX6_says_125 : decode cX6_says 125 = .ok (.iconst 1, 1) := by decide +kernel
theorem dX6_says_126 : decode cX6_says 126 = .ok (.goto 4, 3) := by decide +kernel
theorem dX6_says_129 : decode cX6_says 129 = .ok (.iconst 0, 1) := by decide +kernel
theorem dX6_says_130 : decode cX6_says 130 = .ok (.iastore, 1) := by decide +kernel
theorem dX6_says_131 : decode cX6_says 131 = .ok (.goto 60, 3) := by decide +kernel
theorem dX6_says_134 : decode cX6_says 134 = .ok (.iload 4, 2) := by decide +kernel
theorem dX6_says_136 : decode cX6_says 136 = .ok (.bipush 19, 2) := by decide +kernel
theorem dX6_says_138 : decode cX6_says 138 = .ok (.if_icmp .ne 23, 3) := by decide +kernel
theorem dX6_says_141 : decode cX6_says 141 = .ok (.aload_n 0, 1) := by decide +kernel
theorem dX6_says_142 : decode cX6_says 142 = .ok (.getfield 58, 3) := by decide +kernel
theorem dX6_says_145 : decode cX6_says 145 = .ok (.iload_n 2, 1) := by decide +kernel
theorem dX6_says_146 : decode cX6_says 146 = .ok (.iconst 1, 1) := by decide +kernel
theorem dX6_says_147 : decode cX6_says 147 = .ok (.isub, 1) := by decide +kernel
theorem dX6_says_148 : decode cX6_says 148 = .ok (.aload_n 0, 1) := by decide +kernel
theorem dX6_says_149 : decode cX6_says 149 = .ok (.getfield 58, 3) := by decide +kernel
theorem dX6_says_152 : decode cX6_says 152 = .ok (.iload_n 2, 1) := by decide +kernel
theorem dX6_says_153 : decode cX6_says 153 = .ok (.iconst 1, 1) := by decide +kernel
theorem dX6_says_154 : decode cX6_says 154 = .ok (.isub, 1) := by decide +kernel
theorem dX6_says_155 : decode cX6_says 155 = .ok (.iaload, 1) := by decide +kernel
theorem dX6_says_156 : decode cX6_says 156 = .ok (.ineg, 1) := by decide +kernel
theorem dX6_says_157 : decode cX6_says 157 = .ok (.iastore, 1) := by decide +kernel
theorem dX6_says_158 : decode cX6_says 158 = .ok (.goto 33, 3) := by decide +kernel
theorem dX6_says_161 : decode cX6_says 161 = .ok (.iinc 2 (-1), 3) := by decide +kernel
theorem dX6_says_164 : decode cX6_says 164 = .ok (.aload_n 0, 1) := by decide +kernel
theorem dX6_says_165 : decode cX6_says 165 = .ok (.getfield 58, 3) := by decide +kernel
theorem dX6_says_168 : decode cX6_says 168 = .ok (.iload_n 2, 1) := by decide +kernel
theorem dX6_says_169 : decode cX6_says 169 = .ok (.iconst 1, 1) := by decide +kernel
theorem dX6_says_170 : decode cX6_says 170 = .ok (.isub, 1) := by decide +kernel
theorem dX6_says_171 : decode cX6_says 171 = .ok (.iload 4, 2) := by decide +kernel
theorem dX6_says_173 : decode cX6_says 173 = .ok (.aload_n 0, 1) := by decide +kernel
theorem dX6_says_174 : decode cX6_says 174 = .ok (.getfield 58, 3) := by decide +kernel
theorem dX6_says_177 : decode cX6_says 177 = .ok (.iload_n 2, 1) := by decide +kernel
theorem dX6_says_178 : decode cX6_says 178 = .ok (.iconst 1, 1) := by decide +kernel
theorem dX6_says_179 : decode cX6_says 179 = .ok (.isub, 1) := by decide +kernel
theorem dX6_says_180 : decode cX6_says 180 = .ok (.iaload, 1) := by decide +kernel
theorem dX6_says_181 : decode cX6_says 181 = .ok (.aload_n 0, 1) := by decide +kernel
theorem dX6_says_182 : decode cX6_says 182 = .ok (.getfield 58, 3) := by decide +kernel
theorem dX6_says_185 : decode cX6_says 185 = .ok (.iload_n 2, 1) := by decide +kernel
theorem dX6_says_186 : decode cX6_says 186 = .ok (.iaload, 1) := by decide +kernel
theorem dX6_says_187 : decode cX6_says 187 = .ok (.invokestatic 160, 3) := by decide +kernel
theorem dX6_says_190 : decode cX6_says 190 = .ok (.iastore, 1) := by decide +kernel
theorem dX6_says_191 : decode cX6_says 191 = .ok (.iinc 3 1, 3) := by decide +kernel
theorem dX6_says_194 : decode cX6_says 194 = .ok (.goto (-178), 3) := by decide +kernel
theorem dX6_says_197 : decode cX6_says 197 = .ok (.aload_n 0, 1) := by decide +kernel
theorem dX6_says_198 : decode cX6_says 198 = .ok (.getfield 58, 3) := by decide +kernel
theorem dX6_says_201 : decode cX6_says 201 = .ok (.iconst 0, 1) := by decide +kernel
theorem dX6_says_202 : decode cX6_says 202 = .ok (.iaload, 1) := by decide +kernel
theorem dX6_says_203 : decode cX6_says 203 = .ok (.ireturn, 1) := by decide +kernel
theorem dX6_force_0 : decode cX6_force 0 = .ok (.iload_n 1, 1) := by decide +kernel
theorem dX6_force_1 : decode cX6_force 1 = .ok (.iconst 0, 1) := by decide +kernel
theorem dX6_force_2 : decode cX6_force 2 = .ok (.aload_n 0, 1) := by decide +kernel
theorem dX6_force_3 : decode cX6_force 3 = .ok (.getfield 92, 3) := by decide +kernel
theorem dX6_force_6 : decode cX6_force 6 = .ok (.iconst 1, 1) := by decide +kernel
theorem dX6_force_7 : decode cX6_force 7 = .ok (.isub, 1) := by decide +kernel
theorem dX6_force_8 : decode cX6_force 8 = .ok (.invokestatic 78, 3) := by decide +kernel
theorem dX6_force_11 : decode cX6_force 11 = .ok (.ifCond .ne 6, 3) := by decide +kernel
theorem dX6_force_14 : decode cX6_force 14 = .ok (.bipush (-2), 2) := by decide +kernel
theorem dX6_force_16 : decode cX6_force 16 = .ok (.ireturn, 1) := by decide +kernel
theorem dX6_force_17 : decode cX6_force 17 = .ok (.aload_n 0, 1) := by decide +kernel
theorem dX6_force_18 : decode cX6_force 18 = .ok (.getfield 95, 3) := by decide +kernel
theorem dX6_force_21 : decode cX6_force 21 = .ok (.istore_n 2, 1) := by decide +kernel
theorem dX6_force_22 : decode cX6_force 22 = .ok (.aload_n 0, 1) := by decide +kernel
theorem dX6_force_23 : decode cX6_force 23 = .ok (.iload_n 1, 1) := by decide +kernel
theorem dX6_force_24 : decode cX6_force 24 = .ok (.putfield 95, 3) := by decide +kernel
theorem dX6_force_27 : decode cX6_force 27 = .ok (.iload_n 2, 1) := by decide +kernel
theorem dX6_force_28 : decode cX6_force 28 = .ok (.ireturn, 1) := by decide +kernel
theorem dX6_asksOf_0 : decode cX6_asksOf 0 = .ok (.iload_n 1, 1) := by decide +kernel
theorem dX6_asksOf_1 : decode cX6_asksOf 1 = .ok (.iconst 2, 1) := by decide +kernel
theorem dX6_asksOf_2 : decode cX6_asksOf 2 = .ok (.if_icmp .ne 46, 3) := by decide +kernel
theorem dX6_asksOf_5 : decode cX6_asksOf 5 = .ok (.aload_n 0, 1) := by decide +kernel
theorem dX6_asksOf_6 : decode cX6_asksOf 6 = .ok (.getfield 61, 3) := by decide +kernel
theorem dX6_asksOf_9 : decode cX6_asksOf 9 = .ok (.iconst 0, 1) := by decide +kernel
theorem dX6_asksOf_10 : decode cX6_asksOf 10 = .ok (.iconst 0, 1) := by decide +kernel
theorem dX6_asksOf_11 : decode cX6_asksOf 11 = .ok (.iastore, 1) := by decide +kernel
theorem dX6_asksOf_12 : decode cX6_asksOf 12 = .ok (.aload_n 0, 1) := by decide +kernel
theorem dX6_asksOf_13 : decode cX6_asksOf 13 = .ok (.getfield 61, 3) := by decide +kernel
theorem dX6_asksOf_16 : decode cX6_asksOf 16 = .ok (.iconst 1, 1) := by decide +kernel
theorem dX6_asksOf_17 : decode cX6_asksOf 17 = .ok (.iconst 0, 1) := by decide +kernel
theorem dX6_asksOf_18 : decode cX6_asksOf 18 = .ok (.iastore, 1) := by decide +kernel
theorem dX6_asksOf_19 : decode cX6_asksOf 19 = .ok (.aload_n 0, 1) := by decide +kernel
theorem dX6_asksOf_20 : decode cX6_asksOf 20 = .ok (.getfield 61, 3) := by decide +kernel
theorem dX6_asksOf_23 : decode cX6_asksOf 23 = .ok (.iconst 2, 1) := by decide +kernel
theorem dX6_asksOf_24 : decode cX6_asksOf 24 = .ok (.aload_n 0, 1) := by decide +kernel
theorem dX6_asksOf_25 : decode cX6_asksOf 25 = .ok (.getfield 22, 3) := by decide +kernel
theorem dX6_asksOf_28 : decode cX6_asksOf 28 = .ok (.iload_n 3, 1) := by decide +kernel
theorem dX6_asksOf_29 : decode cX6_asksOf 29 = .ok (.iaload, 1) := by decide +kernel
theorem dX6_asksOf_30 : decode cX6_asksOf 30 = .ok (.iastore, 1) := by decide +kernel
theorem dX6_asksOf_31 : decode cX6_asksOf 31 = .ok (.aload_n 0, 1) := by decide +kernel
theorem dX6_asksOf_32 : decode cX6_asksOf 32 = .ok (.getfield 61, 3) := by decide +kernel
theorem dX6_asksOf_35 : decode cX6_asksOf 35 = .ok (.iconst 3, 1) := by decide +kernel
theorem dX6_asksOf_36 : decode cX6_asksOf 36 = .ok (.iload_n 3, 1) := by decide +kernel
theorem dX6_asksOf_37 : decode cX6_asksOf 37 = .ok (.iastore, 1) := by decide +kernel
theorem dX6_asksOf_38 : decode cX6_asksOf 38 = .ok (.aload_n 0, 1) := by decide +kernel
theorem dX6_asksOf_39 : decode cX6_asksOf 39 = .ok (.getfield 61, 3) := by decide +kernel
theorem dX6_asksOf_42 : decode cX6_asksOf 42 = .ok (.iconst 5, 1) := by decide +kernel
theorem dX6_asksOf_43 : decode cX6_asksOf 43 = .ok (.iconst 0, 1) := by decide +kernel
theorem dX6_asksOf_44 : decode cX6_asksOf 44 = .ok (.iastore, 1) := by decide +kernel
theorem dX6_asksOf_45 : decode cX6_asksOf 45 = .ok (.goto 75, 3) := by decide +kernel
theorem dX6_asksOf_48 : decode cX6_asksOf 48 = .ok (.aload_n 0, 1) := by decide +kernel
theorem dX6_asksOf_49 : decode cX6_asksOf 49 = .ok (.getfield 61, 3) := by decide +kernel
theorem dX6_asksOf_52 : decode cX6_asksOf 52 = .ok (.iconst 0, 1) := by decide +kernel
theorem dX6_asksOf_53 : decode cX6_asksOf 53 = .ok (.aload_n 0, 1) := by decide +kernel
theorem dX6_asksOf_54 : decode cX6_asksOf 54 = .ok (.getfield 16, 3) := by decide +kernel
theorem dX6_asksOf_57 : decode cX6_asksOf 57 = .ok (.iconst 2, 1) := by decide +kernel
theorem dX6_asksOf_58 : decode cX6_asksOf 58 = .ok (.iload_n 2, 1) := by decide +kernel
theorem dX6_asksOf_59 : decode cX6_asksOf 59 = .ok (.imul, 1) := by decide +kernel
theorem dX6_asksOf_60 : decode cX6_asksOf 60 = .ok (.iaload, 1) := by decide +kernel
theorem dX6_asksOf_61 : decode cX6_asksOf 61 = .ok (.iastore, 1) := by decide +kernel
theorem dX6_asksOf_62 : decode cX6_asksOf 62 = .ok (.aload_n 0, 1) := by decide +kernel
theorem dX6_asksOf_63 : decode cX6_asksOf 63 = .ok (.getfield 61, 3) := by decide +kernel
theorem dX6_asksOf_66 : decode cX6_asksOf 66 = .ok (.iconst 1, 1) := by decide +kernel
theorem dX6_asksOf_67 : decode cX6_asksOf 67 = .ok (.aload_n 0, 1) := by decide +kernel
theorem dX6_asksOf_68 : decode cX6_asksOf 68 = .ok (.getfield 19, 3) := by decide +kernel
theorem dX6_asksOf_71 : decode cX6_asksOf 71 = .ok (.iconst 4, 1) := by decide +kernel
theorem dX6_asksOf_72 : decode cX6_asksOf 72 = .ok (.iload_n 3, 1) := by decide +kernel
theorem dX6_asksOf_73 : decode cX6_asksOf 73 = .ok (.imul, 1) := by decide +kernel
theorem dX6_asksOf_74 : decode cX6_asksOf 74 = .ok (.iconst 2, 1) := by decide +kernel
theorem dX6_asksOf_75 : decode cX6_asksOf 75 = .ok (.iadd, 1) := by decide +kernel
theorem dX6_asksOf_76 : decode cX6_asksOf 76 = .ok (.iaload, 1) := by decide +kernel
theorem dX6_asksOf_77 : decode cX6_asksOf 77 = .ok (.iastore, 1) := by decide +kernel
theorem dX6_asksOf_78 : decode cX6_asksOf 78 = .ok (.aload_n 0, 1) := by decide +kernel
theorem dX6_asksOf_79 : decode cX6_asksOf 79 = .ok (.getfield 61, 3) := by decide +kernel
theorem dX6_asksOf_82 : decode cX6_asksOf 82 = .ok (.iconst 2, 1) := by decide +kernel
theorem dX6_asksOf_83 : decode cX6_asksOf 83 = .ok (.aload_n 0, 1) := by decide +kernel
theorem dX6_asksOf_84 : decode cX6_asksOf 84 = .ok (.getfield 19, 3) := by decide +kernel
theorem dX6_asksOf_87 : decode cX6_asksOf 87 = .ok (.iconst 4, 1) := by decide +kernel
theorem dX6_asksOf_88 : decode cX6_asksOf 88 = .ok (.iload_n 3, 1) := by decide +kernel
theorem dX6_asksOf_89 : decode cX6_asksOf 89 = .ok (.imul, 1) := by decide +kernel
theorem dX6_asksOf_90 : decode cX6_asksOf 90 = .ok (.iconst 1, 1) := by decide +kernel
theorem dX6_asksOf_91 : decode cX6_asksOf 91 = .ok (.iadd, 1) := by decide +kernel
theorem dX6_asksOf_92 : decode cX6_asksOf 92 = .ok (.iaload, 1) := by decide +kernel
theorem dX6_asksOf_93 : decode cX6_asksOf 93 = .ok (.iastore, 1) := by decide +kernel
theorem dX6_asksOf_94 : decode cX6_asksOf 94 = .ok (.aload_n 0, 1) := by decide +kernel
theorem dX6_asksOf_95 : decode cX6_asksOf 95 = .ok (.getfield 61, 3) := by decide +kernel
theorem dX6_asksOf_98 : decode cX6_asksOf 98 = .ok (.iconst 3, 1) := by decide +kernel
theorem dX6_asksOf_99 : decode cX6_asksOf 99 = .ok (.aload_n 0, 1) := by decide +kernel
theorem dX6_asksOf_100 : decode cX6_asksOf 100 = .ok (.getfield 19, 3) := by decide +kernel
theorem dX6_asksOf_103 : decode cX6_asksOf 103 = .ok (.iconst 4, 1) := by decide +kernel
theorem dX6_asksOf_104 : decode cX6_asksOf 104 = .ok (.iload_n 3, 1) := by decide +kernel
theorem dX6_asksOf_105 : decode cX6_asksOf 105 = .ok (.imul, 1) := by decide +kernel
theorem dX6_asksOf_106 : decode cX6_asksOf 106 = .ok (.iaload, 1) := by decide +kernel
theorem dX6_asksOf_107 : decode cX6_asksOf 107 = .ok (.iastore, 1) := by decide +kernel
theorem dX6_asksOf_108 : decode cX6_asksOf 108 = .ok (.aload_n 0, 1) := by decide +kernel
theorem dX6_asksOf_109 : decode cX6_asksOf 109 = .ok (.getfield 61, 3) := by decide +kernel
theorem dX6_asksOf_112 : decode cX6_asksOf 112 = .ok (.iconst 5, 1) := by decide +kernel
theorem dX6_asksOf_113 : decode cX6_asksOf 113 = .ok (.aload_n 0, 1) := by decide +kernel
theorem dX6_asksOf_114 : decode cX6_asksOf 114 = .ok (.getfield 13, 3) := by decide +kernel
theorem dX6_asksOf_117 : decode cX6_asksOf 117 = .ok (.iload_n 2, 1) := by decide +kernel
theorem dX6_asksOf_118 : decode cX6_asksOf 118 = .ok (.iaload, 1) := by decide +kernel
theorem dX6_asksOf_119 : decode cX6_asksOf 119 = .ok (.iastore, 1) := by decide +kernel
theorem dX6_asksOf_120 : decode cX6_asksOf 120 = .ok (.aload_n 0, 1) := by decide +kernel
theorem dX6_asksOf_121 : decode cX6_asksOf 121 = .ok (.getfield 61, 3) := by decide +kernel
theorem dX6_asksOf_124 : decode cX6_asksOf 124 = .ok (.iconst 4, 1) := by decide +kernel
theorem dX6_asksOf_125 : decode cX6_asksOf 125 = .ok (.aload_n 0, 1) := by decide +kernel
theorem dX6_asksOf_126 : decode cX6_asksOf 126 = .ok (.getfield 89, 3) := by decide +kernel
theorem dX6_asksOf_129 : decode cX6_asksOf 129 = .ok (.iastore, 1) := by decide +kernel
theorem dX6_asksOf_130 : decode cX6_asksOf 130 = .ok (.aload_n 0, 1) := by decide +kernel
theorem dX6_asksOf_131 : decode cX6_asksOf 131 = .ok (.iload_n 1, 1) := by decide +kernel
theorem dX6_asksOf_132 : decode cX6_asksOf 132 = .ok (.invokevirtual 164, 3) := by decide +kernel
theorem dX6_asksOf_135 : decode cX6_asksOf 135 = .ok (.iconst 0, 1) := by decide +kernel
theorem dX6_asksOf_136 : decode cX6_asksOf 136 = .ok (.bipush 99, 2) := by decide +kernel
theorem dX6_asksOf_138 : decode cX6_asksOf 138 = .ok (.invokestatic 167, 3) := by decide +kernel
theorem dX6_asksOf_141 : decode cX6_asksOf 141 = .ok (.ireturn, 1) := by decide +kernel
theorem dX6_asks_0 : decode cX6_asks 0 = .ok (.iload_n 1, 1) := by decide +kernel
theorem dX6_asks_1 : decode cX6_asks 1 = .ok (.iconst 2, 1) := by decide +kernel
theorem dX6_asks_2 : decode cX6_asks 2 = .ok (.if_icmp .ne 10, 3) := by decide +kernel
theorem dX6_asks_5 : decode cX6_asks 5 = .ok (.iload_n 3, 1) := by decide +kernel
theorem dX6_asks_6 : decode cX6_asks 6 = .ok (.invokestatic 170, 3) := by decide +kernel
theorem dX6_asks_9 : decode cX6_asks 9 = .ok (.goto 32, 3) := by decide +kernel
theorem dX6_asks_12 : decode cX6_asks 12 = .ok (.iload_n 1, 1) := by decide +kernel
theorem dX6_asks_13 : decode cX6_asks 13 = .ok (.iconst 0, 1) := by decide +kernel
theorem dX6_asks_14 : decode cX6_asks 14 = .ok (.iconst 1, 1) := by decide +kernel
theorem dX6_asks_15 : decode cX6_asks 15 = .ok (.invokestatic 78, 3) := by decide +kernel
theorem dX6_asks_18 : decode cX6_asks 18 = .ok (.ifCond .eq 22, 3) := by decide +kernel
theorem dX6_asks_21 : decode cX6_asks 21 = .ok (.aload_n 0, 1) := by decide +kernel
theorem dX6_asks_22 : decode cX6_asks 22 = .ok (.iload_n 2, 1) := by decide +kernel
theorem dX6_asks_23 : decode cX6_asks 23 = .ok (.invokevirtual 173, 3) := by decide +kernel
theorem dX6_asks_26 : decode cX6_asks 26 = .ok (.ifCond .eq 14, 3) := by decide +kernel
theorem dX6_asks_29 : decode cX6_asks 29 = .ok (.iload_n 3, 1) := by decide +kernel
theorem dX6_asks_30 : decode cX6_asks 30 = .ok (.invokestatic 98, 3) := by decide +kernel
theorem dX6_asks_33 : decode cX6_asks 33 = .ok (.ifCond .eq 7, 3) := by decide +kernel
theorem dX6_asks_36 : decode cX6_asks 36 = .ok (.iconst 1, 1) := by decide +kernel
theorem dX6_asks_37 : decode cX6_asks 37 = .ok (.goto 4, 3) := by decide +kernel
theorem dX6_asks_40 : decode cX6_asks 40 = .ok (.iconst 0, 1) := by decide +kernel
theorem dX6_asks_41 : decode cX6_asks 41 = .ok (.istore 4, 2) := by decide +kernel
theorem dX6_asks_43 : decode cX6_asks 43 = .ok (.iload 4, 2) := by decide +kernel
theorem dX6_asks_45 : decode cX6_asks 45 = .ok (.ifCond .eq 13, 3) := by decide +kernel
theorem dX6_asks_48 : decode cX6_asks 48 = .ok (.aload_n 0, 1) := by decide +kernel
theorem dX6_asks_49 : decode cX6_asks 49 = .ok (.iload_n 1, 1) := by decide +kernel
theorem dX6_asks_50 : decode cX6_asks 50 = .ok (.iload_n 2, 1) := by decide +kernel
theorem dX6_asks_51 : decode cX6_asks 51 = .ok (.iload_n 3, 1) := by decide +kernel
theorem dX6_asks_52 : decode cX6_asks 52 = .ok (.invokevirtual 176, 3) := by decide +kernel
theorem dX6_asks_55 : decode cX6_asks 55 = .ok (.goto 6, 3) := by decide +kernel
theorem dX6_asks_58 : decode cX6_asks 58 = .ok (.sipush (-1000), 3) := by decide +kernel
theorem dX6_asks_61 : decode cX6_asks 61 = .ok (.ireturn, 1) := by decide +kernel
theorem dX6_diver_0 : decode cX6_diver 0 = .ok (.iload_n 1, 1) := by decide +kernel
theorem dX6_diver_1 : decode cX6_diver 1 = .ok (.iconst 0, 1) := by decide +kernel
theorem dX6_diver_2 : decode cX6_diver 2 = .ok (.bipush 59, 2) := by decide +kernel
theorem dX6_diver_4 : decode cX6_diver 4 = .ok (.invokestatic 78, 3) := by decide +kernel
theorem dX6_diver_7 : decode cX6_diver 7 = .ok (.ifCond .eq 13, 3) := by decide +kernel
theorem dX6_diver_10 : decode cX6_diver 10 = .ok (.iload_n 2, 1) := by decide +kernel
theorem dX6_diver_11 : decode cX6_diver 11 = .ok (.iconst 0, 1) := by decide +kernel
theorem dX6_diver_12 : decode cX6_diver 12 = .ok (.bipush 99, 2) := by decide +kernel
theorem dX6_diver_14 : decode cX6_diver 14 = .ok (.invokestatic 78, 3) := by decide +kernel
theorem dX6_diver_17 : decode cX6_diver 17 = .ok (.ifCond .ne 6, 3) := by decide +kernel
theorem dX6_diver_20 : decode cX6_diver 20 = .ok (.bipush (-2), 2) := by decide +kernel
theorem dX6_diver_22 : decode cX6_diver 22 = .ok (.ireturn, 1) := by decide +kernel
theorem dX6_diver_23 : decode cX6_diver 23 = .ok (.aload_n 0, 1) := by decide +kernel
theorem dX6_diver_24 : decode cX6_diver 24 = .ok (.getfield 75, 3) := by decide +kernel
theorem dX6_diver_27 : decode cX6_diver 27 = .ok (.bipush 6, 2) := by decide +kernel
theorem dX6_diver_29 : decode cX6_diver 29 = .ok (.if_icmp .ne 6, 3) := by decide +kernel
theorem dX6_diver_32 : decode cX6_diver 32 = .ok (.bipush (-4), 2) := by decide +kernel
theorem dX6_diver_34 : decode cX6_diver 34 = .ok (.ireturn, 1) := by decide +kernel
theorem dX6_diver_35 : decode cX6_diver 35 = .ok (.aload_n 0, 1) := by decide +kernel
theorem dX6_diver_36 : decode cX6_diver 36 = .ok (.getfield 7, 3) := by decide +kernel
theorem dX6_diver_39 : decode cX6_diver 39 = .ok (.aload_n 0, 1) := by decide +kernel
theorem dX6_diver_40 : decode cX6_diver 40 = .ok (.getfield 75, 3) := by decide +kernel
theorem dX6_diver_43 : decode cX6_diver 43 = .ok (.iload_n 1, 1) := by decide +kernel
theorem dX6_diver_44 : decode cX6_diver 44 = .ok (.bipush 10, 2) := by decide +kernel
theorem dX6_diver_46 : decode cX6_diver 46 = .ok (.idiv, 1) := by decide +kernel
theorem dX6_diver_47 : decode cX6_diver 47 = .ok (.iastore, 1) := by decide +kernel
theorem dX6_diver_48 : decode cX6_diver 48 = .ok (.aload_n 0, 1) := by decide +kernel
theorem dX6_diver_49 : decode cX6_diver 49 = .ok (.getfield 13, 3) := by decide +kernel
theorem dX6_diver_52 : decode cX6_diver 52 = .ok (.aload_n 0, 1) := by decide +kernel
theorem dX6_diver_53 : decode cX6_diver 53 = .ok (.getfield 75, 3) := by decide +kernel
theorem dX6_diver_56 : decode cX6_diver 56 = .ok (.iload_n 1, 1) := by decide +kernel
theorem dX6_diver_57 : decode cX6_diver 57 = .ok (.bipush 10, 2) := by decide +kernel
theorem dX6_diver_59 : decode cX6_diver 59 = .ok (.irem, 1) := by decide +kernel
theorem dX6_diver_60 : decode cX6_diver 60 = .ok (.iastore, 1) := by decide +kernel
theorem dX6_diver_61 : decode cX6_diver 61 = .ok (.aload_n 0, 1) := by decide +kernel
theorem dX6_diver_62 : decode cX6_diver 62 = .ok (.getfield 16, 3) := by decide +kernel
theorem dX6_diver_65 : decode cX6_diver 65 = .ok (.iconst 2, 1) := by decide +kernel
theorem dX6_diver_66 : decode cX6_diver 66 = .ok (.aload_n 0, 1) := by decide +kernel
theorem dX6_diver_67 : decode cX6_diver 67 = .ok (.getfield 75, 3) := by decide +kernel
theorem dX6_diver_70 : decode cX6_diver 70 = .ok (.imul, 1) := by decide +kernel
theorem dX6_diver_71 : decode cX6_diver 71 = .ok (.iload_n 2, 1) := by decide +kernel
theorem dX6_diver_72 : decode cX6_diver 72 = .ok (.iastore, 1) := by decide +kernel
theorem dX6_diver_73 : decode cX6_diver 73 = .ok (.aload_n 0, 1) := by decide +kernel
theorem dX6_diver_74 : decode cX6_diver 74 = .ok (.getfield 16, 3) := by decide +kernel
theorem dX6_diver_77 : decode cX6_diver 77 = .ok (.iconst 2, 1) := by decide +kernel
theorem dX6_diver_78 : decode cX6_diver 78 = .ok (.aload_n 0, 1) := by decide +kernel
theorem dX6_diver_79 : decode cX6_diver 79 = .ok (.getfield 75, 3) := by decide +kernel
theorem dX6_diver_82 : decode cX6_diver 82 = .ok (.imul, 1) := by decide +kernel
theorem dX6_diver_83 : decode cX6_diver 83 = .ok (.iconst 1, 1) := by decide +kernel
theorem dX6_diver_84 : decode cX6_diver 84 = .ok (.iadd, 1) := by decide +kernel
theorem dX6_diver_85 : decode cX6_diver 85 = .ok (.iconst 0, 1) := by decide +kernel
theorem dX6_diver_86 : decode cX6_diver 86 = .ok (.iastore, 1) := by decide +kernel
theorem dX6_diver_87 : decode cX6_diver 87 = .ok (.aload_n 0, 1) := by decide +kernel
theorem dX6_diver_88 : decode cX6_diver 88 = .ok (.dup, 1) := by decide +kernel
theorem dX6_diver_89 : decode cX6_diver 89 = .ok (.getfield 75, 3) := by decide +kernel
theorem dX6_diver_92 : decode cX6_diver 92 = .ok (.iconst 1, 1) := by decide +kernel
theorem dX6_diver_93 : decode cX6_diver 93 = .ok (.iadd, 1) := by decide +kernel
theorem dX6_diver_94 : decode cX6_diver 94 = .ok (.putfield 75, 3) := by decide +kernel
theorem dX6_diver_97 : decode cX6_diver 97 = .ok (.aload_n 0, 1) := by decide +kernel
theorem dX6_diver_98 : decode cX6_diver 98 = .ok (.getfield 75, 3) := by decide +kernel
theorem dX6_diver_101 : decode cX6_diver 101 = .ok (.iconst 1, 1) := by decide +kernel
theorem dX6_diver_102 : decode cX6_diver 102 = .ok (.isub, 1) := by decide +kernel
theorem dX6_diver_103 : decode cX6_diver 103 = .ok (.ireturn, 1) := by decide +kernel
theorem dX6_put_0 : decode cX6_put 0 = .ok (.aload_n 0, 1) := by decide +kernel
theorem dX6_put_1 : decode cX6_put 1 = .ok (.iload_n 1, 1) := by decide +kernel
theorem dX6_put_2 : decode cX6_put 2 = .ok (.invokevirtual 173, 3) := by decide +kernel
theorem dX6_put_5 : decode cX6_put 5 = .ok (.ifCond .ne 6, 3) := by decide +kernel
theorem dX6_put_8 : decode cX6_put 8 = .ok (.bipush (-5), 2) := by decide +kernel
theorem dX6_put_10 : decode cX6_put 10 = .ok (.ireturn, 1) := by decide +kernel
theorem dX6_put_11 : decode cX6_put 11 = .ok (.iload_n 2, 1) := by decide +kernel
theorem dX6_put_12 : decode cX6_put 12 = .ok (.iconst 0, 1) := by decide +kernel
theorem dX6_put_13 : decode cX6_put 13 = .ok (.bipush 99, 2) := by decide +kernel
theorem dX6_put_15 : decode cX6_put 15 = .ok (.invokestatic 78, 3) := by decide +kernel
theorem dX6_put_18 : decode cX6_put 18 = .ok (.ifCond .ne 6, 3) := by decide +kernel
theorem dX6_put_21 : decode cX6_put 21 = .ok (.bipush (-7), 2) := by decide +kernel
theorem dX6_put_23 : decode cX6_put 23 = .ok (.ireturn, 1) := by decide +kernel
theorem dX6_put_24 : decode cX6_put 24 = .ok (.aload_n 0, 1) := by decide +kernel
theorem dX6_put_25 : decode cX6_put 25 = .ok (.getfield 16, 3) := by decide +kernel
theorem dX6_put_28 : decode cX6_put 28 = .ok (.iconst 2, 1) := by decide +kernel
theorem dX6_put_29 : decode cX6_put 29 = .ok (.iload_n 1, 1) := by decide +kernel
theorem dX6_put_30 : decode cX6_put 30 = .ok (.imul, 1) := by decide +kernel
theorem dX6_put_31 : decode cX6_put 31 = .ok (.iaload, 1) := by decide +kernel
theorem dX6_put_32 : decode cX6_put 32 = .ok (.istore_n 3, 1) := by decide +kernel
theorem dX6_put_33 : decode cX6_put 33 = .ok (.aload_n 0, 1) := by decide +kernel
theorem dX6_put_34 : decode cX6_put 34 = .ok (.getfield 16, 3) := by decide +kernel
theorem dX6_put_37 : decode cX6_put 37 = .ok (.iconst 2, 1) := by decide +kernel
theorem dX6_put_38 : decode cX6_put 38 = .ok (.iload_n 1, 1) := by decide +kernel
theorem dX6_put_39 : decode cX6_put 39 = .ok (.imul, 1) := by decide +kernel
theorem dX6_put_40 : decode cX6_put 40 = .ok (.iload_n 2, 1) := by decide +kernel
theorem dX6_put_41 : decode cX6_put 41 = .ok (.iastore, 1) := by decide +kernel
theorem dX6_put_42 : decode cX6_put 42 = .ok (.iload_n 3, 1) := by decide +kernel
theorem dX6_put_43 : decode cX6_put 43 = .ok (.ireturn, 1) := by decide +kernel
theorem dX6_reachesOf_0 : decode cX6_reachesOf 0 = .ok (.aload_n 0, 1) := by decide +kernel
theorem dX6_reachesOf_1 : decode cX6_reachesOf 1 = .ok (.getfield 7, 3) := by decide +kernel
theorem dX6_reachesOf_4 : decode cX6_reachesOf 4 = .ok (.iload_n 1, 1) := by decide +kernel
theorem dX6_reachesOf_5 : decode cX6_reachesOf 5 = .ok (.iaload, 1) := by decide +kernel
theorem dX6_reachesOf_6 : decode cX6_reachesOf 6 = .ok (.iconst 5, 1) := by decide +kernel
theorem dX6_reachesOf_7 : decode cX6_reachesOf 7 = .ok (.if_icmp .ne 6, 3) := by decide +kernel
theorem dX6_reachesOf_10 : decode cX6_reachesOf 10 = .ok (.bipush 99, 2) := by decide +kernel
theorem dX6_reachesOf_12 : decode cX6_reachesOf 12 = .ok (.ireturn, 1) := by decide +kernel
theorem dX6_reachesOf_13 : decode cX6_reachesOf 13 = .ok (.aload_n 0, 1) := by decide +kernel
theorem dX6_reachesOf_14 : decode cX6_reachesOf 14 = .ok (.iconst 0, 1) := by decide +kernel
theorem dX6_reachesOf_15 : decode cX6_reachesOf 15 = .ok (.iload_n 1, 1) := by decide +kernel
theorem dX6_reachesOf_16 : decode cX6_reachesOf 16 = .ok (.iload_n 2, 1) := by decide +kernel
theorem dX6_reachesOf_17 : decode cX6_reachesOf 17 = .ok (.invokevirtual 176, 3) := by decide +kernel
theorem dX6_reachesOf_20 : decode cX6_reachesOf 20 = .ok (.istore_n 3, 1) := by decide +kernel
theorem dX6_reachesOf_21 : decode cX6_reachesOf 21 = .ok (.iload_n 3, 1) := by decide +kernel
theorem dX6_reachesOf_22 : decode cX6_reachesOf 22 = .ok (.iconst 2, 1) := by decide +kernel
theorem dX6_reachesOf_23 : decode cX6_reachesOf 23 = .ok (.idiv, 1) := by decide +kernel
theorem dX6_reachesOf_24 : decode cX6_reachesOf 24 = .ok (.aload_n 0, 1) := by decide +kernel
theorem dX6_reachesOf_25 : decode cX6_reachesOf 25 = .ok (.getfield 13, 3) := by decide +kernel
theorem dX6_reachesOf_28 : decode cX6_reachesOf 28 = .ok (.iload_n 1, 1) := by decide +kernel
theorem dX6_reachesOf_29 : decode cX6_reachesOf 29 = .ok (.iaload, 1) := by decide +kernel
theorem dX6_reachesOf_30 : decode cX6_reachesOf 30 = .ok (.iadd, 1) := by decide +kernel
theorem dX6_reachesOf_31 : decode cX6_reachesOf 31 = .ok (.istore 4, 2) := by decide +kernel
theorem dX6_reachesOf_33 : decode cX6_reachesOf 33 = .ok (.aload_n 0, 1) := by decide +kernel
theorem dX6_reachesOf_34 : decode cX6_reachesOf 34 = .ok (.getfield 7, 3) := by decide +kernel
theorem dX6_reachesOf_37 : decode cX6_reachesOf 37 = .ok (.iload_n 1, 1) := by decide +kernel
theorem dX6_reachesOf_38 : decode cX6_reachesOf 38 = .ok (.iaload, 1) := by decide +kernel
theorem dX6_reachesOf_39 : decode cX6_reachesOf 39 = .ok (.tableswitch 54 1 4 #[29, 32, 37, 47], 29) := by decide +kernel
theorem dX6_reachesOf_68 : decode cX6_reachesOf 68 = .ok (.iload 4, 2) := by decide +kernel
theorem dX6_reachesOf_70 : decode cX6_reachesOf 70 = .ok (.ireturn, 1) := by decide +kernel
theorem dX6_reachesOf_71 : decode cX6_reachesOf 71 = .ok (.iload_n 3, 1) := by decide +kernel
theorem dX6_reachesOf_72 : decode cX6_reachesOf 72 = .ok (.bipush 10, 2) := by decide +kernel
theorem dX6_reachesOf_74 : decode cX6_reachesOf 74 = .ok (.iadd, 1) := by decide +kernel
theorem dX6_reachesOf_75 : decode cX6_reachesOf 75 = .ok (.ireturn, 1) := by decide +kernel
theorem dX6_reachesOf_76 : decode cX6_reachesOf 76 = .ok (.iload 4, 2) := by decide +kernel
theorem dX6_reachesOf_78 : decode cX6_reachesOf 78 = .ok (.aload_n 0, 1) := by decide +kernel
theorem dX6_reachesOf_79 : decode cX6_reachesOf 79 = .ok (.getfield 13, 3) := by decide +kernel
theorem dX6_reachesOf_82 : decode cX6_reachesOf 82 = .ok (.iload_n 1, 1) := by decide +kernel
theorem dX6_reachesOf_83 : decode cX6_reachesOf 83 = .ok (.iaload, 1) := by decide +kernel
theorem dX6_reachesOf_84 : decode cX6_reachesOf 84 = .ok (.iadd, 1) := by decide +kernel
theorem dX6_reachesOf_85 : decode cX6_reachesOf 85 = .ok (.ireturn, 1) := by decide +kernel
theorem dX6_reachesOf_86 : decode cX6_reachesOf 86 = .ok (.aload_n 0, 1) := by decide +kernel
theorem dX6_reachesOf_87 : decode cX6_reachesOf 87 = .ok (.getfield 13, 3) := by decide +kernel
theorem dX6_reachesOf_90 : decode cX6_reachesOf 90 = .ok (.iload_n 1, 1) := by decide +kernel
theorem dX6_reachesOf_91 : decode cX6_reachesOf 91 = .ok (.iaload, 1) := by decide +kernel
theorem dX6_reachesOf_92 : decode cX6_reachesOf 92 = .ok (.ireturn, 1) := by decide +kernel
theorem dX6_reachesOf_93 : decode cX6_reachesOf 93 = .ok (.iload_n 3, 1) := by decide +kernel
theorem dX6_reachesOf_94 : decode cX6_reachesOf 94 = .ok (.ireturn, 1) := by decide +kernel
theorem dX6_costsOf_0 : decode cX6_costsOf 0 = .ok (.aload_n 0, 1) := by decide +kernel
theorem dX6_costsOf_1 : decode cX6_costsOf 1 = .ok (.iconst 1, 1) := by decide +kernel
theorem dX6_costsOf_2 : decode cX6_costsOf 2 = .ok (.iload_n 1, 1) := by decide +kernel
theorem dX6_costsOf_3 : decode cX6_costsOf 3 = .ok (.iload_n 2, 1) := by decide +kernel
theorem dX6_costsOf_4 : decode cX6_costsOf 4 = .ok (.invokevirtual 176, 3) := by decide +kernel
theorem dX6_costsOf_7 : decode cX6_costsOf 7 = .ok (.istore_n 3, 1) := by decide +kernel
theorem dX6_costsOf_8 : decode cX6_costsOf 8 = .ok (.aload_n 0, 1) := by decide +kernel
theorem dX6_costsOf_9 : decode cX6_costsOf 9 = .ok (.getfield 7, 3) := by decide +kernel
theorem dX6_costsOf_12 : decode cX6_costsOf 12 = .ok (.iload_n 1, 1) := by decide +kernel
theorem dX6_costsOf_13 : decode cX6_costsOf 13 = .ok (.iaload, 1) := by decide +kernel
theorem dX6_costsOf_14 : decode cX6_costsOf 14 = .ok (.tableswitch 67 2 4 #[26, 52, 26], 26) := by decide +kernel
theorem dX6_costsOf_40 : decode cX6_costsOf 40 = .ok (.aload_n 0, 1) := by decide +kernel
theorem dX6_costsOf_41 : decode cX6_costsOf 41 = .ok (.getfield 19, 3) := by decide +kernel
theorem dX6_costsOf_44 : decode cX6_costsOf 44 = .ok (.iconst 4, 1) := by decide +kernel
theorem dX6_costsOf_45 : decode cX6_costsOf 45 = .ok (.iload_n 2, 1) := by decide +kernel
theorem dX6_costsOf_46 : decode cX6_costsOf 46 = .ok (.imul, 1) := by decide +kernel
theorem dX6_costsOf_47 : decode cX6_costsOf 47 = .ok (.iaload, 1) := by decide +kernel
theorem dX6_costsOf_48 : decode cX6_costsOf 48 = .ok (.ifCond .ne 9, 3) := by decide +kernel
theorem dX6_costsOf_51 : decode cX6_costsOf 51 = .ok (.iload_n 3, 1) := by decide +kernel
theorem dX6_costsOf_52 : decode cX6_costsOf 52 = .ok (.iconst 2, 1) := by decide +kernel
theorem dX6_costsOf_53 : decode cX6_costsOf 53 = .ok (.idiv, 1) := by decide +kernel
theorem dX6_costsOf_54 : decode cX6_costsOf 54 = .ok (.goto 11, 3) := by decide +kernel
theorem dX6_costsOf_57 : decode cX6_costsOf 57 = .ok (.iload_n 3, 1) := by decide +kernel
theorem dX6_costsOf_58 : decode cX6_costsOf 58 = .ok (.aload_n 0, 1) := by decide +kernel
theorem dX6_costsOf_59 : decode cX6_costsOf 59 = .ok (.getfield 13, 3) := by decide +kernel
theorem dX6_costsOf_62 : decode cX6_costsOf 62 = .ok (.iload_n 1, 1) := by decide +kernel
theorem dX6_costsOf_63 : decode cX6_costsOf 63 = .ok (.iaload, 1) := by decide +kernel
theorem dX6_costsOf_64 : decode cX6_costsOf 64 = .ok (.iadd, 1) := by decide +kernel
theorem dX6_costsOf_65 : decode cX6_costsOf 65 = .ok (.ireturn, 1) := by decide +kernel
theorem dX6_costsOf_66 : decode cX6_costsOf 66 = .ok (.aload_n 0, 1) := by decide +kernel
theorem dX6_costsOf_67 : decode cX6_costsOf 67 = .ok (.getfield 89, 3) := by decide +kernel
theorem dX6_costsOf_70 : decode cX6_costsOf 70 = .ok (.iconst 4, 1) := by decide +kernel
theorem dX6_costsOf_71 : decode cX6_costsOf 71 = .ok (.irem, 1) := by decide +kernel
theorem dX6_costsOf_72 : decode cX6_costsOf 72 = .ok (.ifCond .ne 7, 3) := by decide +kernel
theorem dX6_costsOf_75 : decode cX6_costsOf 75 = .ok (.iconst 0, 1) := by decide +kernel
theorem dX6_costsOf_76 : decode cX6_costsOf 76 = .ok (.goto 4, 3) := by decide +kernel
theorem dX6_costsOf_79 : decode cX6_costsOf 79 = .ok (.iload_n 3, 1) := by decide +kernel
theorem dX6_costsOf_80 : decode cX6_costsOf 80 = .ok (.ireturn, 1) := by decide +kernel
theorem dX6_costsOf_81 : decode cX6_costsOf 81 = .ok (.iload_n 3, 1) := by decide +kernel
theorem dX6_costsOf_82 : decode cX6_costsOf 82 = .ok (.ireturn, 1) := by decide +kernel
theorem dX6_breathesOf_0 : decode cX6_breathesOf 0 = .ok (.aload_n 0, 1) := by decide +kernel
theorem dX6_breathesOf_1 : decode cX6_breathesOf 1 = .ok (.getfield 7, 3) := by decide +kernel
theorem dX6_breathesOf_4 : decode cX6_breathesOf 4 = .ok (.iload_n 1, 1) := by decide +kernel
theorem dX6_breathesOf_5 : decode cX6_breathesOf 5 = .ok (.iaload, 1) := by decide +kernel
theorem dX6_breathesOf_6 : decode cX6_breathesOf 6 = .ok (.tableswitch 48 1 5 #[34, 48, 34, 37, 46], 34) := by decide +kernel
theorem dX6_breathesOf_40 : decode cX6_breathesOf 40 = .ok (.bipush 10, 2) := by decide +kernel
theorem dX6_breathesOf_42 : decode cX6_breathesOf 42 = .ok (.ireturn, 1) := by decide +kernel
theorem dX6_breathesOf_43 : decode cX6_breathesOf 43 = .ok (.iconst 5, 1) := by decide +kernel
theorem dX6_breathesOf_44 : decode cX6_breathesOf 44 = .ok (.aload_n 0, 1) := by decide +kernel
theorem dX6_breathesOf_45 : decode cX6_breathesOf 45 = .ok (.getfield 13, 3) := by decide +kernel
theorem dX6_breathesOf_48 : decode cX6_breathesOf 48 = .ok (.iload_n 1, 1) := by decide +kernel
theorem dX6_breathesOf_49 : decode cX6_breathesOf 49 = .ok (.iaload, 1) := by decide +kernel
theorem dX6_breathesOf_50 : decode cX6_breathesOf 50 = .ok (.iadd, 1) := by decide +kernel
theorem dX6_breathesOf_51 : decode cX6_breathesOf 51 = .ok (.ireturn, 1) := by decide +kernel
theorem dX6_breathesOf_52 : decode cX6_breathesOf 52 = .ok (.iconst 0, 1) := by decide +kernel
theorem dX6_breathesOf_53 : decode cX6_breathesOf 53 = .ok (.ireturn, 1) := by decide +kernel
theorem dX6_breathesOf_54 : decode cX6_breathesOf 54 = .ok (.iconst 5, 1) := by decide +kernel
theorem dX6_breathesOf_55 : decode cX6_breathesOf 55 = .ok (.ireturn, 1) := by decide +kernel
theorem dX6_can_0 : decode cX6_can 0 = .ok (.aload_n 0, 1) := by decide +kernel
theorem dX6_can_1 : decode cX6_can 1 = .ok (.getfield 19, 3) := by decide +kernel
theorem dX6_can_4 : decode cX6_can 4 = .ok (.iconst 4, 1) := by decide +kernel
theorem dX6_can_5 : decode cX6_can 5 = .ok (.iload_n 2, 1) := by decide +kernel
theorem dX6_can_6 : decode cX6_can 6 = .ok (.imul, 1) := by decide +kernel
theorem dX6_can_7 : decode cX6_can 7 = .ok (.iconst 3, 1) := by decide +kernel
theorem dX6_can_8 : decode cX6_can 8 = .ok (.iadd, 1) := by decide +kernel
theorem dX6_can_9 : decode cX6_can 9 = .ok (.iaload, 1) := by decide +kernel
theorem dX6_can_10 : decode cX6_can 10 = .ok (.ifCond .eq 5, 3) := by decide +kernel
theorem dX6_can_13 : decode cX6_can 13 = .ok (.iconst 0, 1) := by decide +kernel
theorem dX6_can_14 : decode cX6_can 14 = .ok (.ireturn, 1) := by decide +kernel
theorem dX6_can_15 : decode cX6_can 15 = .ok (.aload_n 0, 1) := by decide +kernel
theorem dX6_can_16 : decode cX6_can 16 = .ok (.iload_n 1, 1) := by decide +kernel
theorem dX6_can_17 : decode cX6_can 17 = .ok (.iload_n 2, 1) := by decide +kernel
theorem dX6_can_18 : decode cX6_can 18 = .ok (.invokevirtual 179, 3) := by decide +kernel
theorem dX6_can_21 : decode cX6_can 21 = .ok (.aload_n 0, 1) := by decide +kernel
theorem dX6_can_22 : decode cX6_can 22 = .ok (.getfield 19, 3) := by decide +kernel
theorem dX6_can_25 : decode cX6_can 25 = .ok (.iconst 4, 1) := by decide +kernel
theorem dX6_can_26 : decode cX6_can 26 = .ok (.iload_n 2, 1) := by decide +kernel
theorem dX6_can_27 : decode cX6_can 27 = .ok (.imul, 1) := by decide +kernel
theorem dX6_can_28 : decode cX6_can 28 = .ok (.iconst 2, 1) := by decide +kernel
theorem dX6_can_29 : decode cX6_can 29 = .ok (.iadd, 1) := by decide +kernel
theorem dX6_can_30 : decode cX6_can 30 = .ok (.iaload, 1) := by decide +kernel
theorem dX6_can_31 : decode cX6_can 31 = .ok (.if_icmp .lt 24, 3) := by decide +kernel
theorem dX6_can_34 : decode cX6_can 34 = .ok (.aload_n 0, 1) := by decide +kernel
theorem dX6_can_35 : decode cX6_can 35 = .ok (.iload_n 1, 1) := by decide +kernel
theorem dX6_can_36 : decode cX6_can 36 = .ok (.iload_n 2, 1) := by decide +kernel
theorem dX6_can_37 : decode cX6_can 37 = .ok (.invokevirtual 182, 3) := by decide +kernel
theorem dX6_can_40 : decode cX6_can 40 = .ok (.aload_n 0, 1) := by decide +kernel
theorem dX6_can_41 : decode cX6_can 41 = .ok (.getfield 16, 3) := by decide +kernel
theorem dX6_can_44 : decode cX6_can 44 = .ok (.iconst 2, 1) := by decide +kernel
theorem dX6_can_45 : decode cX6_can 45 = .ok (.iload_n 1, 1) := by decide +kernel
theorem dX6_can_46 : decode cX6_can 46 = .ok (.imul, 1) := by decide +kernel
theorem dX6_can_47 : decode cX6_can 47 = .ok (.iaload, 1) := by decide +kernel
theorem dX6_can_48 : decode cX6_can 48 = .ok (.if_icmp .gt 7, 3) := by decide +kernel
theorem dX6_can_51 : decode cX6_can 51 = .ok (.iconst 1, 1) := by decide +kernel
theorem dX6_can_52 : decode cX6_can 52 = .ok (.goto 4, 3) := by decide +kernel
theorem dX6_can_55 : decode cX6_can 55 = .ok (.iconst 0, 1) := by decide +kernel
theorem dX6_can_56 : decode cX6_can 56 = .ok (.ireturn, 1) := by decide +kernel
theorem dX6_canSet_0 : decode cX6_canSet 0 = .ok (.iconst 0, 1) := by decide +kernel
theorem dX6_canSet_1 : decode cX6_canSet 1 = .ok (.istore_n 2, 1) := by decide +kernel
theorem dX6_canSet_2 : decode cX6_canSet 2 = .ok (.iconst 0, 1) := by decide +kernel
theorem dX6_canSet_3 : decode cX6_canSet 3 = .ok (.istore_n 3, 1) := by decide +kernel
theorem dX6_canSet_4 : decode cX6_canSet 4 = .ok (.iload_n 3, 1) := by decide +kernel
theorem dX6_canSet_5 : decode cX6_canSet 5 = .ok (.bipush 12, 2) := by decide +kernel
theorem dX6_canSet_7 : decode cX6_canSet 7 = .ok (.if_icmp .ge 28, 3) := by decide +kernel
theorem dX6_canSet_10 : decode cX6_canSet 10 = .ok (.iload_n 2, 1) := by decide +kernel
theorem dX6_canSet_11 : decode cX6_canSet 11 = .ok (.aload_n 0, 1) := by decide +kernel
theorem dX6_canSet_12 : decode cX6_canSet 12 = .ok (.iload_n 1, 1) := by decide +kernel
theorem dX6_canSet_13 : decode cX6_canSet 13 = .ok (.iload_n 3, 1) := by decide +kernel
theorem dX6_canSet_14 : decode cX6_canSet 14 = .ok (.invokevirtual 185, 3) := by decide +kernel
theorem dX6_canSet_17 : decode cX6_canSet 17 = .ok (.ifCond .eq 9, 3) := by decide +kernel
theorem dX6_canSet_20 : decode cX6_canSet 20 = .ok (.iconst 1, 1) := by decide +kernel
theorem dX6_canSet_21 : decode cX6_canSet 21 = .ok (.iload_n 3, 1) := by decide +kernel
theorem dX6_canSet_22 : decode cX6_canSet 22 = .ok (.ishl, 1) := by decide +kernel
theorem dX6_canSet_23 : decode cX6_canSet 23 = .ok (.goto 4, 3) := by decide +kernel
theorem dX6_canSet_26 : decode cX6_canSet 26 = .ok (.iconst 0, 1) := by decide +kernel
theorem dX6_canSet_27 : decode cX6_canSet 27 = .ok (.ior, 1) := by decide +kernel
theorem dX6_canSet_28 : decode cX6_canSet 28 = .ok (.istore_n 2, 1) := by decide +kernel
theorem dX6_canSet_29 : decode cX6_canSet 29 = .ok (.iinc 3 1, 3) := by decide +kernel
theorem dX6_canSet_32 : decode cX6_canSet 32 = .ok (.goto (-28), 3) := by decide +kernel
theorem dX6_canSet_35 : decode cX6_canSet 35 = .ok (.iload_n 2, 1) := by decide +kernel
theorem dX6_canSet_36 : decode cX6_canSet 36 = .ok (.ireturn, 1) := by decide +kernel
theorem dX6_told_0 : decode cX6_told 0 = .ok (.aload_n 0, 1) := by decide +kernel
theorem dX6_told_1 : decode cX6_told 1 = .ok (.iload_n 1, 1) := by decide +kernel
theorem dX6_told_2 : decode cX6_told 2 = .ok (.invokevirtual 173, 3) := by decide +kernel
theorem dX6_told_5 : decode cX6_told 5 = .ok (.ifCond .ne 6, 3) := by decide +kernel
theorem dX6_told_8 : decode cX6_told 8 = .ok (.bipush (-5), 2) := by decide +kernel
theorem dX6_told_10 : decode cX6_told 10 = .ok (.ireturn, 1) := by decide +kernel
theorem dX6_told_11 : decode cX6_told 11 = .ok (.iload_n 2, 1) := by decide +kernel
theorem dX6_told_12 : decode cX6_told 12 = .ok (.tableswitch 77 0 5 #[40, 40, 51, 58, 65, 71], 40) := by decide +kernel
theorem dX6_told_52 : decode cX6_told 52 = .ok (.aload_n 0, 1) := by decide +kernel
theorem dX6_told_53 : decode cX6_told 53 = .ok (.getfield 16, 3) := by decide +kernel
theorem dX6_told_56 : decode cX6_told 56 = .ok (.iconst 2, 1) := by decide +kernel
theorem dX6_told_57 : decode cX6_told 57 = .ok (.iload_n 1, 1) := by decide +kernel
theorem dX6_told_58 : decode cX6_told 58 = .ok (.imul, 1) := by decide +kernel
theorem dX6_told_59 : decode cX6_told 59 = .ok (.iload_n 2, 1) := by decide +kernel
theorem dX6_told_60 : decode cX6_told 60 = .ok (.iadd, 1) := by decide +kernel
theorem dX6_told_61 : decode cX6_told 61 = .ok (.iaload, 1) := by decide +kernel
theorem dX6_told_62 : decode cX6_told 62 = .ok (.ireturn, 1) := by decide +kernel
theorem dX6_told_63 : decode cX6_told 63 = .ok (.aload_n 0, 1) := by decide +kernel
theorem dX6_told_64 : decode cX6_told 64 = .ok (.getfield 7, 3) := by decide +kernel
theorem dX6_told_67 : decode cX6_told 67 = .ok (.iload_n 1, 1) := by decide +kernel
theorem dX6_told_68 : decode cX6_told 68 = .ok (.iaload, 1) := by decide +kernel
theorem dX6_told_69 : decode cX6_told 69 = .ok (.ireturn, 1) := by decide +kernel
theorem dX6_told_70 : decode cX6_told 70 = .ok (.aload_n 0, 1) := by decide +kernel
theorem dX6_told_71 : decode cX6_told 71 = .ok (.getfield 13, 3) := by decide +kernel
theorem dX6_told_74 : decode cX6_told 74 = .ok (.iload_n 1, 1) := by decide +kernel
theorem dX6_told_75 : decode cX6_told 75 = .ok (.iaload, 1) := by decide +kernel
theorem dX6_told_76 : decode cX6_told 76 = .ok (.ireturn, 1) := by decide +kernel
theorem dX6_told_77 : decode cX6_told 77 = .ok (.aload_n 0, 1) := by decide +kernel
theorem dX6_told_78 : decode cX6_told 78 = .ok (.iload_n 1, 1) := by decide +kernel
theorem dX6_told_79 : decode cX6_told 79 = .ok (.invokevirtual 189, 3) := by decide +kernel
theorem dX6_told_82 : decode cX6_told 82 = .ok (.ireturn, 1) := by decide +kernel
theorem dX6_told_83 : decode cX6_told 83 = .ok (.aload_n 0, 1) := by decide +kernel
theorem dX6_told_84 : decode cX6_told 84 = .ok (.iload_n 1, 1) := by decide +kernel
theorem dX6_told_85 : decode cX6_told 85 = .ok (.invokevirtual 192, 3) := by decide +kernel
theorem dX6_told_88 : decode cX6_told 88 = .ok (.ireturn, 1) := by decide +kernel
theorem dX6_told_89 : decode cX6_told 89 = .ok (.bipush (-7), 2) := by decide +kernel
theorem dX6_told_91 : decode cX6_told 91 = .ok (.ireturn, 1) := by decide +kernel
theorem dX6_dives_0 : decode cX6_dives 0 = .ok (.aload_n 0, 1) := by decide +kernel
theorem dX6_dives_1 : decode cX6_dives 1 = .ok (.iload_n 1, 1) := by decide +kernel
theorem dX6_dives_2 : decode cX6_dives 2 = .ok (.invokevirtual 173, 3) := by decide +kernel
theorem dX6_dives_5 : decode cX6_dives 5 = .ok (.ifCond .eq 10, 3) := by decide +kernel
theorem dX6_dives_8 : decode cX6_dives 8 = .ok (.iload_n 2, 1) := by decide +kernel
theorem dX6_dives_9 : decode cX6_dives 9 = .ok (.invokestatic 98, 3) := by decide +kernel
theorem dX6_dives_12 : decode cX6_dives 12 = .ok (.ifCond .ne 6, 3) := by decide +kernel
theorem dX6_dives_15 : decode cX6_dives 15 = .ok (.bipush (-5), 2) := by decide +kernel
theorem dX6_dives_17 : decode cX6_dives 17 = .ok (.ireturn, 1) := by decide +kernel
theorem dX6_dives_18 : decode cX6_dives 18 = .ok (.iload_n 3, 1) := by decide +kernel
theorem dX6_dives_19 : decode cX6_dives 19 = .ok (.iconst 0, 1) := by decide +kernel
theorem dX6_dives_20 : decode cX6_dives 20 = .ok (.iconst 2, 1) := by decide +kernel
theorem dX6_dives_21 : decode cX6_dives 21 = .ok (.invokestatic 78, 3) := by decide +kernel
theorem dX6_dives_24 : decode cX6_dives 24 = .ok (.ifCond .ne 6, 3) := by decide +kernel
theorem dX6_dives_27 : decode cX6_dives 27 = .ok (.bipush (-7), 2) := by decide +kernel
theorem dX6_dives_29 : decode cX6_dives 29 = .ok (.ireturn, 1) := by decide +kernel
theorem dX6_dives_30 : decode cX6_dives 30 = .ok (.iload_n 3, 1) := by decide +kernel
theorem dX6_dives_31 : decode cX6_dives 31 = .ok (.ifCond .ne 12, 3) := by decide +kernel
theorem dX6_dives_34 : decode cX6_dives 34 = .ok (.aload_n 0, 1) := by decide +kernel
theorem dX6_dives_35 : decode cX6_dives 35 = .ok (.iload_n 1, 1) := by decide +kernel
theorem dX6_dives_36 : decode cX6_dives 36 = .ok (.iload_n 2, 1) := by decide +kernel
theorem dX6_dives_37 : decode cX6_dives 37 = .ok (.invokevirtual 179, 3) := by decide +kernel
theorem dX6_dives_40 : decode cX6_dives 40 = .ok (.goto 31, 3) := by decide +kernel
theorem dX6_dives_43 : decode cX6_dives 43 = .ok (.iload_n 3, 1) := by decide +kernel
theorem dX6_dives_44 : decode cX6_dives 44 = .ok (.iconst 1, 1) := by decide +kernel
theorem dX6_dives_45 : decode cX6_dives 45 = .ok (.if_icmp .ne 12, 3) := by decide +kernel
theorem dX6_dives_48 : decode cX6_dives 48 = .ok (.aload_n 0, 1) := by decide +kernel
theorem dX6_dives_49 : decode cX6_dives 49 = .ok (.iload_n 1, 1) := by decide +kernel
theorem dX6_dives_50 : decode cX6_dives 50 = .ok (.iload_n 2, 1) := by decide +kernel
theorem dX6_dives_51 : decode cX6_dives 51 = .ok (.invokevirtual 182, 3) := by decide +kernel
theorem dX6_dives_54 : decode cX6_dives 54 = .ok (.goto 17, 3) := by decide +kernel
theorem dX6_dives_57 : decode cX6_dives 57 = .ok (.aload_n 0, 1) := by decide +kernel
theorem dX6_dives_58 : decode cX6_dives 58 = .ok (.iload_n 1, 1) := by decide +kernel
theorem dX6_dives_59 : decode cX6_dives 59 = .ok (.iload_n 2, 1) := by decide +kernel
theorem dX6_dives_60 : decode cX6_dives 60 = .ok (.invokevirtual 185, 3) := by decide +kernel
theorem dX6_dives_63 : decode cX6_dives 63 = .ok (.ifCond .eq 7, 3) := by decide +kernel
theorem dX6_dives_66 : decode cX6_dives 66 = .ok (.iconst 1, 1) := by decide +kernel
theorem dX6_dives_67 : decode cX6_dives 67 = .ok (.goto 4, 3) := by decide +kernel
theorem dX6_dives_70 : decode cX6_dives 70 = .ok (.iconst 0, 1) := by decide +kernel
theorem dX6_dives_71 : decode cX6_dives 71 = .ok (.ireturn, 1) := by decide +kernel
theorem dX6_diveOf_0 : decode cX6_diveOf 0 = .ok (.aload_n 0, 1) := by decide +kernel
theorem dX6_diveOf_1 : decode cX6_diveOf 1 = .ok (.getfield 16, 3) := by decide +kernel
theorem dX6_diveOf_4 : decode cX6_diveOf 4 = .ok (.iconst 2, 1) := by decide +kernel
theorem dX6_diveOf_5 : decode cX6_diveOf 5 = .ok (.iload_n 1, 1) := by decide +kernel
theorem dX6_diveOf_6 : decode cX6_diveOf 6 = .ok (.imul, 1) := by decide +kernel
theorem dX6_diveOf_7 : decode cX6_diveOf 7 = .ok (.dup2, 1) := by decide +kernel
theorem dX6_diveOf_8 : decode cX6_diveOf 8 = .ok (.iaload, 1) := by decide +kernel
theorem dX6_diveOf_9 : decode cX6_diveOf 9 = .ok (.aload_n 0, 1) := by decide +kernel
theorem dX6_diveOf_10 : decode cX6_diveOf 10 = .ok (.iload_n 1, 1) := by decide +kernel
theorem dX6_diveOf_11 : decode cX6_diveOf 11 = .ok (.iload_n 2, 1) := by decide +kernel
theorem dX6_diveOf_12 : decode cX6_diveOf 12 = .ok (.invokevirtual 182, 3) := by decide +kernel
theorem dX6_diveOf_15 : decode cX6_diveOf 15 = .ok (.isub, 1) := by decide +kernel
theorem dX6_diveOf_16 : decode cX6_diveOf 16 = .ok (.iastore, 1) := by decide +kernel
theorem dX6_diveOf_17 : decode cX6_diveOf 17 = .ok (.aload_n 0, 1) := by decide +kernel
theorem dX6_diveOf_18 : decode cX6_diveOf 18 = .ok (.getfield 19, 3) := by decide +kernel
theorem dX6_diveOf_21 : decode cX6_diveOf 21 = .ok (.iconst 4, 1) := by decide +kernel
theorem dX6_diveOf_22 : decode cX6_diveOf 22 = .ok (.iload_n 2, 1) := by decide +kernel
theorem dX6_diveOf_23 : decode cX6_diveOf 23 = .ok (.imul, 1) := by decide +kernel
theorem dX6_diveOf_24 : decode cX6_diveOf 24 = .ok (.iconst 3, 1) := by decide +kernel
theorem dX6_diveOf_25 : decode cX6_diveOf 25 = .ok (.iadd, 1) := by decide +kernel
theorem dX6_diveOf_26 : decode cX6_diveOf 26 = .ok (.iconst 1, 1) := by decide +kernel
theorem dX6_diveOf_27 : decode cX6_diveOf 27 = .ok (.iastore, 1) := by decide +kernel
theorem dX6_diveOf_28 : decode cX6_diveOf 28 = .ok (.aload_n 0, 1) := by decide +kernel
theorem dX6_diveOf_29 : decode cX6_diveOf 29 = .ok (.getfield 16, 3) := by decide +kernel
theorem dX6_diveOf_32 : decode cX6_diveOf 32 = .ok (.iconst 2, 1) := by decide +kernel
theorem dX6_diveOf_33 : decode cX6_diveOf 33 = .ok (.iload_n 1, 1) := by decide +kernel
theorem dX6_diveOf_34 : decode cX6_diveOf 34 = .ok (.imul, 1) := by decide +kernel
theorem dX6_diveOf_35 : decode cX6_diveOf 35 = .ok (.iconst 1, 1) := by decide +kernel
theorem dX6_diveOf_36 : decode cX6_diveOf 36 = .ok (.iadd, 1) := by decide +kernel
theorem dX6_diveOf_37 : decode cX6_diveOf 37 = .ok (.dup2, 1) := by decide +kernel
theorem dX6_diveOf_38 : decode cX6_diveOf 38 = .ok (.iaload, 1) := by decide +kernel
theorem dX6_diveOf_39 : decode cX6_diveOf 39 = .ok (.iconst 1, 1) := by decide +kernel
theorem dX6_diveOf_40 : decode cX6_diveOf 40 = .ok (.iadd, 1) := by decide +kernel
theorem dX6_diveOf_41 : decode cX6_diveOf 41 = .ok (.iastore, 1) := by decide +kernel
theorem dX6_diveOf_42 : decode cX6_diveOf 42 = .ok (.return_, 1) := by decide +kernel
theorem dX6_dive_0 : decode cX6_dive 0 = .ok (.aload_n 0, 1) := by decide +kernel
theorem dX6_dive_1 : decode cX6_dive 1 = .ok (.iload_n 1, 1) := by decide +kernel
theorem dX6_dive_2 : decode cX6_dive 2 = .ok (.invokevirtual 173, 3) := by decide +kernel
theorem dX6_dive_5 : decode cX6_dive 5 = .ok (.ifCond .ne 6, 3) := by decide +kernel
theorem dX6_dive_8 : decode cX6_dive 8 = .ok (.bipush (-5), 2) := by decide +kernel
theorem dX6_dive_10 : decode cX6_dive 10 = .ok (.ireturn, 1) := by decide +kernel
theorem dX6_dive_11 : decode cX6_dive 11 = .ok (.iload_n 2, 1) := by decide +kernel
theorem dX6_dive_12 : decode cX6_dive 12 = .ok (.invokestatic 98, 3) := by decide +kernel
theorem dX6_dive_15 : decode cX6_dive 15 = .ok (.ifCond .ne 6, 3) := by decide +kernel
theorem dX6_dive_18 : decode cX6_dive 18 = .ok (.bipush (-6), 2) := by decide +kernel
theorem dX6_dive_20 : decode cX6_dive 20 = .ok (.ireturn, 1) := by decide +kernel
theorem dX6_dive_21 : decode cX6_dive 21 = .ok (.aload_n 0, 1) := by decide +kernel
theorem dX6_dive_22 : decode cX6_dive 22 = .ok (.iload_n 1, 1) := by decide +kernel
theorem dX6_dive_23 : decode cX6_dive 23 = .ok (.iload_n 2, 1) := by decide +kernel
theorem dX6_dive_24 : decode cX6_dive 24 = .ok (.invokevirtual 185, 3) := by decide +kernel
theorem dX6_dive_27 : decode cX6_dive 27 = .ok (.ifCond .ne 6, 3) := by decide +kernel
theorem dX6_dive_30 : decode cX6_dive 30 = .ok (.bipush (-3), 2) := by decide +kernel
theorem dX6_dive_32 : decode cX6_dive 32 = .ok (.ireturn, 1) := by decide +kernel
theorem dX6_dive_33 : decode cX6_dive 33 = .ok (.aload_n 0, 1) := by decide +kernel
theorem dX6_dive_34 : decode cX6_dive 34 = .ok (.iload_n 1, 1) := by decide +kernel
theorem dX6_dive_35 : decode cX6_dive 35 = .ok (.iload_n 2, 1) := by decide +kernel
theorem dX6_dive_36 : decode cX6_dive 36 = .ok (.invokevirtual 195, 3) := by decide +kernel
theorem dX6_dive_39 : decode cX6_dive 39 = .ok (.aload_n 0, 1) := by decide +kernel
theorem dX6_dive_40 : decode cX6_dive 40 = .ok (.getfield 16, 3) := by decide +kernel
theorem dX6_dive_43 : decode cX6_dive 43 = .ok (.iconst 2, 1) := by decide +kernel
theorem dX6_dive_44 : decode cX6_dive 44 = .ok (.iload_n 1, 1) := by decide +kernel
theorem dX6_dive_45 : decode cX6_dive 45 = .ok (.imul, 1) := by decide +kernel
theorem dX6_dive_46 : decode cX6_dive 46 = .ok (.iaload, 1) := by decide +kernel
theorem dX6_dive_47 : decode cX6_dive 47 = .ok (.ireturn, 1) := by decide +kernel
theorem dX6_opens0_0 : decode cX6_opens0 0 = .ok (.aload_n 0, 1) := by decide +kernel
theorem dX6_opens0_1 : decode cX6_opens0 1 = .ok (.getfield 19, 3) := by decide +kernel
theorem dX6_opens0_4 : decode cX6_opens0 4 = .ok (.iconst 4, 1) := by decide +kernel
theorem dX6_opens0_5 : decode cX6_opens0 5 = .ok (.iload_n 1, 1) := by decide +kernel
theorem dX6_opens0_6 : decode cX6_opens0 6 = .ok (.imul, 1) := by decide +kernel
theorem dX6_opens0_7 : decode cX6_opens0 7 = .ok (.iaload, 1) := by decide +kernel
theorem dX6_opens0_8 : decode cX6_opens0 8 = .ok (.istore_n 2, 1) := by decide +kernel
theorem dX6_opens0_9 : decode cX6_opens0 9 = .ok (.aload_n 0, 1) := by decide +kernel
theorem dX6_opens0_10 : decode cX6_opens0 10 = .ok (.getfield 22, 3) := by decide +kernel
theorem dX6_opens0_13 : decode cX6_opens0 13 = .ok (.iload_n 2, 1) := by decide +kernel
theorem dX6_opens0_14 : decode cX6_opens0 14 = .ok (.aload_n 0, 1) := by decide +kernel
theorem dX6_opens0_15 : decode cX6_opens0 15 = .ok (.getfield 22, 3) := by decide +kernel
theorem dX6_opens0_18 : decode cX6_opens0 18 = .ok (.iload_n 2, 1) := by decide +kernel
theorem dX6_opens0_19 : decode cX6_opens0 19 = .ok (.iaload, 1) := by decide +kernel
theorem dX6_opens0_20 : decode cX6_opens0 20 = .ok (.aload_n 0, 1) := by decide +kernel
theorem dX6_opens0_21 : decode cX6_opens0 21 = .ok (.getfield 19, 3) := by decide +kernel
theorem dX6_opens0_24 : decode cX6_opens0 24 = .ok (.iconst 4, 1) := by decide +kernel
theorem dX6_opens0_25 : decode cX6_opens0 25 = .ok (.iload_n 1, 1) := by decide +kernel
theorem dX6_opens0_26 : decode cX6_opens0 26 = .ok (.imul, 1) := by decide +kernel
theorem dX6_opens0_27 : decode cX6_opens0 27 = .ok (.iconst 1, 1) := by decide +kernel
theorem dX6_opens0_28 : decode cX6_opens0 28 = .ok (.iadd, 1) := by decide +kernel
theorem dX6_opens0_29 : decode cX6_opens0 29 = .ok (.iaload, 1) := by decide +kernel
theorem dX6_opens0_30 : decode cX6_opens0 30 = .ok (.iadd, 1) := by decide +kernel
theorem dX6_opens0_31 : decode cX6_opens0 31 = .ok (.iconst 0, 1) := by decide +kernel
theorem dX6_opens0_32 : decode cX6_opens0 32 = .ok (.bipush 99, 2) := by decide +kernel
theorem dX6_opens0_34 : decode cX6_opens0 34 = .ok (.invokestatic 167, 3) := by decide +kernel
theorem dX6_opens0_37 : decode cX6_opens0 37 = .ok (.iastore, 1) := by decide +kernel
theorem dX6_opens0_38 : decode cX6_opens0 38 = .ok (.aload_n 0, 1) := by decide +kernel
theorem dX6_opens0_39 : decode cX6_opens0 39 = .ok (.getfield 19, 3) := by decide +kernel
theorem dX6_opens0_42 : decode cX6_opens0 42 = .ok (.iconst 4, 1) := by decide +kernel
theorem dX6_opens0_43 : decode cX6_opens0 43 = .ok (.iload_n 1, 1) := by decide +kernel
theorem dX6_opens0_44 : decode cX6_opens0 44 = .ok (.imul, 1) := by decide +kernel
theorem dX6_opens0_45 : decode cX6_opens0 45 = .ok (.iconst 3, 1) := by decide +kernel
theorem dX6_opens0_46 : decode cX6_opens0 46 = .ok (.iadd, 1) := by decide +kernel
theorem dX6_opens0_47 : decode cX6_opens0 47 = .ok (.iconst 2, 1) := by decide +kernel
theorem dX6_opens0_48 : decode cX6_opens0 48 = .ok (.iastore, 1) := by decide +kernel
theorem dX6_opens0_49 : decode cX6_opens0 49 = .ok (.return_, 1) := by decide +kernel
theorem dX6_open_0 : decode cX6_open 0 = .ok (.iload_n 1, 1) := by decide +kernel
theorem dX6_open_1 : decode cX6_open 1 = .ok (.invokestatic 98, 3) := by decide +kernel
theorem dX6_open_4 : decode cX6_open 4 = .ok (.ifCond .ne 6, 3) := by decide +kernel
theorem dX6_open_7 : decode cX6_open 7 = .ok (.bipush (-6), 2) := by decide +kernel
theorem dX6_open_9 : decode cX6_open 9 = .ok (.ireturn, 1) := by decide +kernel
theorem dX6_open_10 : decode cX6_open 10 = .ok (.aload_n 0, 1) := by decide +kernel
theorem dX6_open_11 : decode cX6_open 11 = .ok (.getfield 19, 3) := by decide +kernel
theorem dX6_open_14 : decode cX6_open 14 = .ok (.iconst 4, 1) := by decide +kernel
theorem dX6_open_15 : decode cX6_open 15 = .ok (.iload_n 1, 1) := by decide +kernel
theorem dX6_open_16 : decode cX6_open 16 = .ok (.imul, 1) := by decide +kernel
theorem dX6_open_17 : decode cX6_open 17 = .ok (.iconst 3, 1) := by decide +kernel
theorem dX6_open_18 : decode cX6_open 18 = .ok (.iadd, 1) := by decide +kernel
theorem dX6_open_19 : decode cX6_open 19 = .ok (.iaload, 1) := by decide +kernel
theorem dX6_open_20 : decode cX6_open 20 = .ok (.iconst 1, 1) := by decide +kernel
theorem dX6_open_21 : decode cX6_open 21 = .ok (.if_icmp .eq 6, 3) := by decide +kernel
theorem dX6_open_24 : decode cX6_open 24 = .ok (.bipush (-3), 2) := by decide +kernel
theorem dX6_open_26 : decode cX6_open 26 = .ok (.ireturn, 1) := by decide +kernel
theorem dX6_open_27 : decode cX6_open 27 = .ok (.aload_n 0, 1) := by decide +kernel
theorem dX6_open_28 : decode cX6_open 28 = .ok (.iload_n 1, 1) := by decide +kernel
theorem dX6_open_29 : decode cX6_open 29 = .ok (.invokevirtual 199, 3) := by decide +kernel
theorem dX6_open_32 : decode cX6_open 32 = .ok (.aload_n 0, 1) := by decide +kernel
theorem dX6_open_33 : decode cX6_open 33 = .ok (.getfield 22, 3) := by decide +kernel
theorem dX6_open_36 : decode cX6_open 36 = .ok (.aload_n 0, 1) := by decide +kernel
theorem dX6_open_37 : decode cX6_open 37 = .ok (.getfield 19, 3) := by decide +kernel
theorem dX6_open_40 : decode cX6_open 40 = .ok (.iconst 4, 1) := by decide +kernel
theorem dX6_open_41 : decode cX6_open 41 = .ok (.iload_n 1, 1) := by decide +kernel
theorem dX6_open_42 : decode cX6_open 42 = .ok (.imul, 1) := by decide +kernel
theorem dX6_open_43 : decode cX6_open 43 = .ok (.iaload, 1) := by decide +kernel
theorem dX6_open_44 : decode cX6_open 44 = .ok (.iaload, 1) := by decide +kernel
theorem dX6_open_45 : decode cX6_open 45 = .ok (.ireturn, 1) := by decide +kernel
theorem dX6_main0_0 : decode cX6_main0 0 = .ok (.iconst (-1), 1) := by decide +kernel
theorem dX6_main0_1 : decode cX6_main0 1 = .ok (.istore_n 1, 1) := by decide +kernel
theorem dX6_main0_2 : decode cX6_main0 2 = .ok (.iconst 0, 1) := by decide +kernel
theorem dX6_main0_3 : decode cX6_main0 3 = .ok (.istore_n 2, 1) := by decide +kernel
theorem dX6_main0_4 : decode cX6_main0 4 = .ok (.iconst 0, 1) := by decide +kernel
theorem dX6_main0_5 : decode cX6_main0 5 = .ok (.istore_n 3, 1) := by decide +kernel
theorem dX6_main0_6 : decode cX6_main0 6 = .ok (.iload_n 3, 1) := by decide +kernel
theorem dX6_main0_7 : decode cX6_main0 7 = .ok (.bipush 6, 2) := by decide +kernel
theorem dX6_main0_9 : decode cX6_main0 9 = .ok (.if_icmp .ge 46, 3) := by decide +kernel
theorem dX6_main0_12 : decode cX6_main0 12 = .ok (.aload_n 0, 1) := by decide +kernel
theorem dX6_main0_13 : decode cX6_main0 13 = .ok (.getfield 22, 3) := by decide +kernel
theorem dX6_main0_16 : decode cX6_main0 16 = .ok (.iload_n 3, 1) := by decide +kernel
theorem dX6_main0_17 : decode cX6_main0 17 = .ok (.iaload, 1) := by decide +kernel
theorem dX6_main0_18 : decode cX6_main0 18 = .ok (.iload_n 2, 1) := by decide +kernel
theorem dX6_main0_19 : decode cX6_main0 19 = .ok (.if_icmp .le 7, 3) := by decide +kernel
theorem dX6_main0_22 : decode cX6_main0 22 = .ok (.iload_n 3, 1) := by decide +kernel
theorem dX6_main0_23 : decode cX6_main0 23 = .ok (.goto 4, 3) := by decide +kernel
theorem dX6_main0_26 : decode cX6_main0 26 = .ok (.iload_n 1, 1) := by decide +kernel
theorem dX6_main0_27 : decode cX6_main0 27 = .ok (.istore_n 1, 1) := by decide +kernel
theorem dX6_main0_28 : decode cX6_main0 28 = .ok (.aload_n 0, 1) := by decide +kernel
theorem dX6_main0_29 : decode cX6_main0 29 = .ok (.getfield 22, 3) := by decide +kernel
theorem dX6_main0_32 : decode cX6_main0 32 = .ok (.iload_n 3, 1) := by decide +kernel
theorem dX6_main0_33 : decode cX6_main0 33 = .ok (.iaload, 1) := by decide +kernel
theorem dX6_main0_34 : decode cX6_main0 34 = .ok (.iload_n 2, 1) := by decide +kernel
theorem dX6_main0_35 : decode cX6_main0 35 = .ok (.if_icmp .le 12, 3) := by decide +kernel
theorem dX6_main0_38 : decode cX6_main0 38 = .ok (.aload_n 0, 1) := by decide +kernel
theorem dX6_main0_39 : decode cX6_main0 39 = .ok (.getfield 22, 3) := by decide +kernel
theorem dX6_main0_42 : decode cX6_main0 42 = .ok (.iload_n 3, 1) := by decide +kernel
theorem dX6_main0_43 : decode cX6_main0 43 = .ok (.iaload, 1) := by decide +kernel
theorem dX6_main0_44 : decode cX6_main0 44 = .ok (.goto 4, 3) := by decide +kernel
theorem dX6_main0_47 : decode cX6_main0 47 = .ok (.iload_n 2, 1) := by decide +kernel
theorem dX6_main0_48 : decode cX6_main0 48 = .ok (.istore_n 2, 1) := by decide +kernel
theorem dX6_main0_49 : decode cX6_main0 49 = .ok (.iinc 3 1, 3) := by decide +kernel
theorem dX6_main0_52 : decode cX6_main0 52 = .ok (.goto (-46), 3) := by decide +kernel
theorem dX6_main0_55 : decode cX6_main0 55 = .ok (.iload_n 1, 1) := by decide +kernel
theorem dX6_main0_56 : decode cX6_main0 56 = .ok (.ireturn, 1) := by decide +kernel
theorem dX6_fair_0 : decode cX6_fair 0 = .ok (.aload_n 0, 1) := by decide +kernel
theorem dX6_fair_1 : decode cX6_fair 1 = .ok (.getfield 22, 3) := by decide +kernel
theorem dX6_fair_4 : decode cX6_fair 4 = .ok (.iconst 0, 1) := by decide +kernel
theorem dX6_fair_5 : decode cX6_fair 5 = .ok (.iaload, 1) := by decide +kernel
theorem dX6_fair_6 : decode cX6_fair 6 = .ok (.aload_n 0, 1) := by decide +kernel
theorem dX6_fair_7 : decode cX6_fair 7 = .ok (.getfield 22, 3) := by decide +kernel
theorem dX6_fair_10 : decode cX6_fair 10 = .ok (.iconst 3, 1) := by decide +kernel
theorem dX6_fair_11 : decode cX6_fair 11 = .ok (.iaload, 1) := by decide +kernel
theorem dX6_fair_12 : decode cX6_fair 12 = .ok (.iadd, 1) := by decide +kernel
theorem dX6_fair_13 : decode cX6_fair 13 = .ok (.aload_n 0, 1) := by decide +kernel
theorem dX6_fair_14 : decode cX6_fair 14 = .ok (.getfield 22, 3) := by decide +kernel
theorem dX6_fair_17 : decode cX6_fair 17 = .ok (.iconst 2, 1) := by decide +kernel
theorem dX6_fair_18 : decode cX6_fair 18 = .ok (.iaload, 1) := by decide +kernel
theorem dX6_fair_19 : decode cX6_fair 19 = .ok (.isub, 1) := by decide +kernel
theorem dX6_fair_20 : decode cX6_fair 20 = .ok (.iconst 2, 1) := by decide +kernel
theorem dX6_fair_21 : decode cX6_fair 21 = .ok (.aload_n 0, 1) := by decide +kernel
theorem dX6_fair_22 : decode cX6_fair 22 = .ok (.getfield 22, 3) := by decide +kernel
theorem dX6_fair_25 : decode cX6_fair 25 = .ok (.iconst 5, 1) := by decide +kernel
theorem dX6_fair_26 : decode cX6_fair 26 = .ok (.iaload, 1) := by decide +kernel
theorem dX6_fair_27 : decode cX6_fair 27 = .ok (.imul, 1) := by decide +kernel
theorem dX6_fair_28 : decode cX6_fair 28 = .ok (.isub, 1) := by decide +kernel
theorem dX6_fair_29 : decode cX6_fair 29 = .ok (.ireturn, 1) := by decide +kernel
theorem dX6_hourOf_0 : decode cX6_hourOf 0 = .ok (.iconst 0, 1) := by decide +kernel
theorem dX6_hourOf_1 : decode cX6_hourOf 1 = .ok (.istore_n 1, 1) := by decide +kernel
theorem dX6_hourOf_2 : decode cX6_hourOf 2 = .ok (.iload_n 1, 1) := by decide +kernel
theorem dX6_hourOf_3 : decode cX6_hourOf 3 = .ok (.bipush 6, 2) := by decide +kernel
theorem dX6_hourOf_5 : decode cX6_hourOf 5 = .ok (.if_icmp .ge 39, 3) := by decide +kernel
theorem dX6_hourOf_8 : decode cX6_hourOf 8 = .ok (.aload_n 0, 1) := by decide +kernel
theorem dX6_hourOf_9 : decode cX6_hourOf 9 = .ok (.getfield 22, 3) := by decide +kernel
theorem dX6_hourOf_12 : decode cX6_hourOf 12 = .ok (.iload_n 1, 1) := by decide +kernel
theorem dX6_hourOf_13 : decode cX6_hourOf 13 = .ok (.iaload, 1) := by decide +kernel
theorem dX6_hourOf_14 : decode cX6_hourOf 14 = .ok (.aload_n 0, 1) := by decide +kernel
theorem dX6_hourOf_15 : decode cX6_hourOf 15 = .ok (.iconst 2, 1) := by decide +kernel
theorem dX6_hourOf_16 : decode cX6_hourOf 16 = .ok (.iconst (-1), 1) := by decide +kernel
theorem dX6_hourOf_17 : decode cX6_hourOf 17 = .ok (.iload_n 1, 1) := by decide +kernel
theorem dX6_hourOf_18 : decode cX6_hourOf 18 = .ok (.invokevirtual 176, 3) := by decide +kernel
theorem dX6_hourOf_21 : decode cX6_hourOf 21 = .ok (.isub, 1) := by decide +kernel
theorem dX6_hourOf_22 : decode cX6_hourOf 22 = .ok (.istore_n 2, 1) := by decide +kernel
theorem dX6_hourOf_23 : decode cX6_hourOf 23 = .ok (.aload_n 0, 1) := by decide +kernel
theorem dX6_hourOf_24 : decode cX6_hourOf 24 = .ok (.getfield 22, 3) := by decide +kernel
theorem dX6_hourOf_27 : decode cX6_hourOf 27 = .ok (.iload_n 1, 1) := by decide +kernel
theorem dX6_hourOf_28 : decode cX6_hourOf 28 = .ok (.iload_n 2, 1) := by decide +kernel
theorem dX6_hourOf_29 : decode cX6_hourOf 29 = .ok (.ifCond .ge 7, 3) := by decide +kernel
theorem dX6_hourOf_32 : decode cX6_hourOf 32 = .ok (.iconst 0, 1) := by decide +kernel
theorem dX6_hourOf_33 : decode cX6_hourOf 33 = .ok (.goto 4, 3) := by decide +kernel
theorem dX6_hourOf_36 : decode cX6_hourOf 36 = .ok (.iload_n 2, 1) := by decide +kernel
theorem dX6_hourOf_37 : decode cX6_hourOf 37 = .ok (.iastore, 1) := by decide +kernel
theorem dX6_hourOf_38 : decode cX6_hourOf 38 = .ok (.iinc 1 1, 3) := by decide +kernel
theorem dX6_hourOf_41 : decode cX6_hourOf 41 = .ok (.goto (-39), 3) := by decide +kernel
theorem dX6_hourOf_44 : decode cX6_hourOf 44 = .ok (.iconst 0, 1) := by decide +kernel
theorem dX6_hourOf_45 : decode cX6_hourOf 45 = .ok (.istore_n 1, 1) := by decide +kernel
theorem dX6_hourOf_46 : decode cX6_hourOf 46 = .ok (.iload_n 1, 1) := by decide +kernel
theorem dX6_hourOf_47 : decode cX6_hourOf 47 = .ok (.aload_n 0, 1) := by decide +kernel
theorem dX6_hourOf_48 : decode cX6_hourOf 48 = .ok (.getfield 75, 3) := by decide +kernel
theorem dX6_hourOf_51 : decode cX6_hourOf 51 = .ok (.if_icmp .ge 37, 3) := by decide +kernel
theorem dX6_hourOf_54 : decode cX6_hourOf 54 = .ok (.aload_n 0, 1) := by decide +kernel
theorem dX6_hourOf_55 : decode cX6_hourOf 55 = .ok (.getfield 16, 3) := by decide +kernel
theorem dX6_hourOf_58 : decode cX6_hourOf 58 = .ok (.iconst 2, 1) := by decide +kernel
theorem dX6_hourOf_59 : decode cX6_hourOf 59 = .ok (.iload_n 1, 1) := by decide +kernel
theorem dX6_hourOf_60 : decode cX6_hourOf 60 = .ok (.imul, 1) := by decide +kernel
theorem dX6_hourOf_61 : decode cX6_hourOf 61 = .ok (.aload_n 0, 1) := by decide +kernel
theorem dX6_hourOf_62 : decode cX6_hourOf 62 = .ok (.getfield 16, 3) := by decide +kernel
theorem dX6_hourOf_65 : decode cX6_hourOf 65 = .ok (.iconst 2, 1) := by decide +kernel
theorem dX6_hourOf_66 : decode cX6_hourOf 66 = .ok (.iload_n 1, 1) := by decide +kernel
theorem dX6_hourOf_67 : decode cX6_hourOf 67 = .ok (.imul, 1) := by decide +kernel
theorem dX6_hourOf_68 : decode cX6_hourOf 68 = .ok (.iaload, 1) := by decide +kernel
theorem dX6_hourOf_69 : decode cX6_hourOf 69 = .ok (.aload_n 0, 1) := by decide +kernel
theorem dX6_hourOf_70 : decode cX6_hourOf 70 = .ok (.iload_n 1, 1) := by decide +kernel
theorem dX6_hourOf_71 : decode cX6_hourOf 71 = .ok (.invokevirtual 192, 3) := by decide +kernel
theorem dX6_hourOf_74 : decode cX6_hourOf 74 = .ok (.iadd, 1) := by decide +kernel
theorem dX6_hourOf_75 : decode cX6_hourOf 75 = .ok (.iconst 0, 1) := by decide +kernel
theorem dX6_hourOf_76 : decode cX6_hourOf 76 = .ok (.bipush 99, 2) := by decide +kernel
theorem dX6_hourOf_78 : decode cX6_hourOf 78 = .ok (.invokestatic 167, 3) := by decide +kernel
theorem dX6_hourOf_81 : decode cX6_hourOf 81 = .ok (.iastore, 1) := by decide +kernel
theorem dX6_hourOf_82 : decode cX6_hourOf 82 = .ok (.iinc 1 1, 3) := by decide +kernel
theorem dX6_hourOf_85 : decode cX6_hourOf 85 = .ok (.goto (-39), 3) := by decide +kernel
theorem dX6_hourOf_88 : decode cX6_hourOf 88 = .ok (.aload_n 0, 1) := by decide +kernel
theorem dX6_hourOf_89 : decode cX6_hourOf 89 = .ok (.dup, 1) := by decide +kernel
theorem dX6_hourOf_90 : decode cX6_hourOf 90 = .ok (.getfield 89, 3) := by decide +kernel
theorem dX6_hourOf_93 : decode cX6_hourOf 93 = .ok (.iconst 1, 1) := by decide +kernel
theorem dX6_hourOf_94 : decode cX6_hourOf 94 = .ok (.iadd, 1) := by decide +kernel
theorem dX6_hourOf_95 : decode cX6_hourOf 95 = .ok (.putfield 89, 3) := by decide +kernel
theorem dX6_hourOf_98 : decode cX6_hourOf 98 = .ok (.return_, 1) := by decide +kernel
theorem dX6_hour_0 : decode cX6_hour 0 = .ok (.aload_n 0, 1) := by decide +kernel
theorem dX6_hour_1 : decode cX6_hour 1 = .ok (.getfield 89, 3) := by decide +kernel
theorem dX6_hour_4 : decode cX6_hour 4 = .ok (.sipush 999, 3) := by decide +kernel
theorem dX6_hour_7 : decode cX6_hour 7 = .ok (.if_icmp .ne 6, 3) := by decide +kernel
theorem dX6_hour_10 : decode cX6_hour 10 = .ok (.bipush (-3), 2) := by decide +kernel
theorem dX6_hour_12 : decode cX6_hour 12 = .ok (.ireturn, 1) := by decide +kernel
theorem dX6_hour_13 : decode cX6_hour 13 = .ok (.aload_n 0, 1) := by decide +kernel
theorem dX6_hour_14 : decode cX6_hour 14 = .ok (.invokevirtual 202, 3) := by decide +kernel
theorem dX6_hour_17 : decode cX6_hour 17 = .ok (.aload_n 0, 1) := by decide +kernel
theorem dX6_hour_18 : decode cX6_hour 18 = .ok (.invokevirtual 205, 3) := by decide +kernel
theorem dX6_hour_21 : decode cX6_hour 21 = .ok (.ireturn, 1) := by decide +kernel
theorem dX6_bayOf_0 : decode cX6_bayOf 0 = .ok (.iload_n 1, 1) := by decide +kernel
theorem dX6_bayOf_1 : decode cX6_bayOf 1 = .ok (.bipush 6, 2) := by decide +kernel
theorem dX6_bayOf_3 : decode cX6_bayOf 3 = .ok (.if_icmp .ge 12, 3) := by decide +kernel
theorem dX6_bayOf_6 : decode cX6_bayOf 6 = .ok (.aload_n 0, 1) := by decide +kernel
theorem dX6_bayOf_7 : decode cX6_bayOf 7 = .ok (.getfield 22, 3) := by decide +kernel
theorem dX6_bayOf_10 : decode cX6_bayOf 10 = .ok (.iload_n 1, 1) := by decide +kernel
theorem dX6_bayOf_11 : decode cX6_bayOf 11 = .ok (.iaload, 1) := by decide +kernel
theorem dX6_bayOf_12 : decode cX6_bayOf 12 = .ok (.goto 20, 3) := by decide +kernel
theorem dX6_bayOf_15 : decode cX6_bayOf 15 = .ok (.iload_n 1, 1) := by decide +kernel
theorem dX6_bayOf_16 : decode cX6_bayOf 16 = .ok (.bipush 6, 2) := by decide +kernel
theorem dX6_bayOf_18 : decode cX6_bayOf 18 = .ok (.if_icmp .ne 10, 3) := by decide +kernel
theorem dX6_bayOf_21 : decode cX6_bayOf 21 = .ok (.aload_n 0, 1) := by decide +kernel
theorem dX6_bayOf_22 : decode cX6_bayOf 22 = .ok (.invokevirtual 205, 3) := by decide +kernel
theorem dX6_bayOf_25 : decode cX6_bayOf 25 = .ok (.goto 7, 3) := by decide +kernel
theorem dX6_bayOf_28 : decode cX6_bayOf 28 = .ok (.aload_n 0, 1) := by decide +kernel
theorem dX6_bayOf_29 : decode cX6_bayOf 29 = .ok (.invokevirtual 208, 3) := by decide +kernel
theorem dX6_bayOf_32 : decode cX6_bayOf 32 = .ok (.ireturn, 1) := by decide +kernel
theorem dX6_bay_0 : decode cX6_bay 0 = .ok (.iload_n 1, 1) := by decide +kernel
theorem dX6_bay_1 : decode cX6_bay 1 = .ok (.iconst 0, 1) := by decide +kernel
theorem dX6_bay_2 : decode cX6_bay 2 = .ok (.bipush 7, 2) := by decide +kernel
theorem dX6_bay_4 : decode cX6_bay 4 = .ok (.invokestatic 78, 3) := by decide +kernel
theorem dX6_bay_7 : decode cX6_bay 7 = .ok (.ifCond .eq 11, 3) := by decide +kernel
theorem dX6_bay_10 : decode cX6_bay 10 = .ok (.aload_n 0, 1) := by decide +kernel
theorem dX6_bay_11 : decode cX6_bay 11 = .ok (.iload_n 1, 1) := by decide +kernel
theorem dX6_bay_12 : decode cX6_bay 12 = .ok (.invokevirtual 211, 3) := by decide +kernel
theorem dX6_bay_15 : decode cX6_bay 15 = .ok (.goto 6, 3) := by decide +kernel
theorem dX6_bay_18 : decode cX6_bay 18 = .ok (.sipush (-1000), 3) := by decide +kernel
theorem dX6_bay_21 : decode cX6_bay 21 = .ok (.ireturn, 1) := by decide +kernel
theorem dX6_keeps_0 : decode cX6_keeps 0 = .ok (.iconst 0, 1) := by decide +kernel
theorem dX6_keeps_1 : decode cX6_keeps 1 = .ok (.istore_n 1, 1) := by decide +kernel
theorem dX6_keeps_2 : decode cX6_keeps 2 = .ok (.iload_n 1, 1) := by decide +kernel
theorem dX6_keeps_3 : decode cX6_keeps 3 = .ok (.bipush 12, 2) := by decide +kernel
theorem dX6_keeps_5 : decode cX6_keeps 5 = .ok (.if_icmp .ge 21, 3) := by decide +kernel
theorem dX6_keeps_8 : decode cX6_keeps 8 = .ok (.aload_n 0, 1) := by decide +kernel
theorem dX6_keeps_9 : decode cX6_keeps 9 = .ok (.getfield 64, 3) := by decide +kernel
theorem dX6_keeps_12 : decode cX6_keeps 12 = .ok (.iload_n 1, 1) := by decide +kernel
theorem dX6_keeps_13 : decode cX6_keeps 13 = .ok (.aload_n 0, 1) := by decide +kernel
theorem dX6_keeps_14 : decode cX6_keeps 14 = .ok (.getfield 16, 3) := by decide +kernel
theorem dX6_keeps_17 : decode cX6_keeps 17 = .ok (.iload_n 1, 1) := by decide +kernel
theorem dX6_keeps_18 : decode cX6_keeps 18 = .ok (.iaload, 1) := by decide +kernel
theorem dX6_keeps_19 : decode cX6_keeps 19 = .ok (.iastore, 1) := by decide +kernel
theorem dX6_keeps_20 : decode cX6_keeps 20 = .ok (.iinc 1 1, 3) := by decide +kernel
theorem dX6_keeps_23 : decode cX6_keeps 23 = .ok (.goto (-21), 3) := by decide +kernel
theorem dX6_keeps_26 : decode cX6_keeps 26 = .ok (.iconst 0, 1) := by decide +kernel
theorem dX6_keeps_27 : decode cX6_keeps 27 = .ok (.istore_n 1, 1) := by decide +kernel
theorem dX6_keeps_28 : decode cX6_keeps 28 = .ok (.iload_n 1, 1) := by decide +kernel
theorem dX6_keeps_29 : decode cX6_keeps 29 = .ok (.bipush 48, 2) := by decide +kernel
theorem dX6_keeps_31 : decode cX6_keeps 31 = .ok (.if_icmp .ge 24, 3) := by decide +kernel
theorem dX6_keeps_34 : decode cX6_keeps 34 = .ok (.aload_n 0, 1) := by decide +kernel
theorem dX6_keeps_35 : decode cX6_keeps 35 = .ok (.getfield 64, 3) := by decide +kernel
theorem dX6_keeps_38 : decode cX6_keeps 38 = .ok (.bipush 12, 2) := by decide +kernel
theorem dX6_keeps_40 : decode cX6_keeps 40 = .ok (.iload_n 1, 1) := by decide +kernel
theorem dX6_keeps_41 : decode cX6_keeps 41 = .ok (.iadd, 1) := by decide +kernel
theorem dX6_keeps_42 : decode cX6_keeps 42 = .ok (.aload_n 0, 1) := by decide +kernel
theorem dX6_keeps_43 : decode cX6_keeps 43 = .ok (.getfield 19, 3) := by decide +kernel
theorem dX6_keeps_46 : decode cX6_keeps 46 = .ok (.iload_n 1, 1) := by decide +kernel
theorem dX6_keeps_47 : decode cX6_keeps 47 = .ok (.iaload, 1) := by decide +kernel
theorem dX6_keeps_48 : decode cX6_keeps 48 = .ok (.iastore, 1) := by decide +kernel
theorem dX6_keeps_49 : decode cX6_keeps 49 = .ok (.iinc 1 1, 3) := by decide +kernel
theorem dX6_keeps_52 : decode cX6_keeps 52 = .ok (.goto (-24), 3) := by decide +kernel
theorem dX6_keeps_55 : decode cX6_keeps 55 = .ok (.iconst 0, 1) := by decide +kernel
theorem dX6_keeps_56 : decode cX6_keeps 56 = .ok (.istore_n 1, 1) := by decide +kernel
theorem dX6_keeps_57 : decode cX6_keeps 57 = .ok (.iload_n 1, 1) := by decide +kernel
theorem dX6_keeps_58 : decode cX6_keeps 58 = .ok (.bipush 6, 2) := by decide +kernel
theorem dX6_keeps_60 : decode cX6_keeps 60 = .ok (.if_icmp .ge 24, 3) := by decide +kernel
theorem dX6_keeps_63 : decode cX6_keeps 63 = .ok (.aload_n 0, 1) := by decide +kernel
theorem dX6_keeps_64 : decode cX6_keeps 64 = .ok (.getfield 64, 3) := by decide +kernel
theorem dX6_keeps_67 : decode cX6_keeps 67 = .ok (.bipush 60, 2) := by decide +kernel
theorem dX6_keeps_69 : decode cX6_keeps 69 = .ok (.iload_n 1, 1) := by decide +kernel
theorem dX6_keeps_70 : decode cX6_keeps 70 = .ok (.iadd, 1) := by decide +kernel
theorem dX6_keeps_71 : decode cX6_keeps 71 = .ok (.aload_n 0, 1) := by decide +kernel
theorem dX6_keeps_72 : decode cX6_keeps 72 = .ok (.getfield 22, 3) := by decide +kernel
theorem dX6_keeps_75 : decode cX6_keeps 75 = .ok (.iload_n 1, 1) := by decide +kernel
theorem dX6_keeps_76 : decode cX6_keeps 76 = .ok (.iaload, 1) := by decide +kernel
theorem dX6_keeps_77 : decode cX6_keeps 77 = .ok (.iastore, 1) := by decide +kernel
theorem dX6_keeps_78 : decode cX6_keeps 78 = .ok (.iinc 1 1, 3) := by decide +kernel
theorem dX6_keeps_81 : decode cX6_keeps 81 = .ok (.goto (-24), 3) := by decide +kernel
theorem dX6_keeps_84 : decode cX6_keeps 84 = .ok (.aload_n 0, 1) := by decide +kernel
theorem dX6_keeps_85 : decode cX6_keeps 85 = .ok (.getfield 64, 3) := by decide +kernel
theorem dX6_keeps_88 : decode cX6_keeps 88 = .ok (.bipush 66, 2) := by decide +kernel
theorem dX6_keeps_90 : decode cX6_keeps 90 = .ok (.aload_n 0, 1) := by decide +kernel
theorem dX6_keeps_91 : decode cX6_keeps 91 = .ok (.getfield 89, 3) := by decide +kernel
theorem dX6_keeps_94 : decode cX6_keeps 94 = .ok (.iastore, 1) := by decide +kernel
theorem dX6_keeps_95 : decode cX6_keeps 95 = .ok (.return_, 1) := by decide +kernel
theorem dX6_lays_0 : decode cX6_lays 0 = .ok (.iconst 0, 1) := by decide +kernel
theorem dX6_lays_1 : decode cX6_lays 1 = .ok (.istore_n 1, 1) := by decide +kernel
theorem dX6_lays_2 : decode cX6_lays 2 = .ok (.iload_n 1, 1) := by decide +kernel
theorem dX6_lays_3 : decode cX6_lays 3 = .ok (.bipush 12, 2) := by decide +kernel
theorem dX6_lays_5 : decode cX6_lays 5 = .ok (.if_icmp .ge 21, 3) := by decide +kernel
theorem dX6_lays_8 : decode cX6_lays 8 = .ok (.aload_n 0, 1) := by decide +kernel
theorem dX6_lays_9 : decode cX6_lays 9 = .ok (.getfield 16, 3) := by decide +kernel
theorem dX6_lays_12 : decode cX6_lays 12 = .ok (.iload_n 1, 1) := by decide +kernel
theorem dX6_lays_13 : decode cX6_lays 13 = .ok (.aload_n 0, 1) := by decide +kernel
theorem dX6_lays_14 : decode cX6_lays 14 = .ok (.getfield 64, 3) := by decide +kernel
theorem dX6_lays_17 : decode cX6_lays 17 = .ok (.iload_n 1, 1) := by decide +kernel
theorem dX6_lays_18 : decode cX6_lays 18 = .ok (.iaload, 1) := by decide +kernel
theorem dX6_lays_19 : decode cX6_lays 19 = .ok (.iastore, 1) := by decide +kernel
theorem dX6_lays_20 : decode cX6_lays 20 = .ok (.iinc 1 1, 3) := by decide +kernel
theorem dX6_lays_23 : decode cX6_lays 23 = .ok (.goto (-21), 3) := by decide +kernel
theorem dX6_lays_26 : decode cX6_lays 26 = .ok (.iconst 0, 1) := by decide +kernel
theorem dX6_lays_27 : decode cX6_lays 27 = .ok (.istore_n 1, 1) := by decide +kernel
theorem dX6_lays_28 : decode cX6_lays 28 = .ok (.iload_n 1, 1) := by decide +kernel
theorem dX6_lays_29 : decode cX6_lays 29 = .ok (.bipush 48, 2) := by decide +kernel
theorem dX6_lays_31 : decode cX6_lays 31 = .ok (.if_icmp .ge 24, 3) := by decide +kernel
theorem dX6_lays_34 : decode cX6_lays 34 = .ok (.aload_n 0, 1) := by decide +kernel
theorem dX6_lays_35 : decode cX6_lays 35 = .ok (.getfield 19, 3) := by decide +kernel
theorem dX6_lays_38 : decode cX6_lays 38 = .ok (.iload_n 1, 1) := by decide +kernel
theorem dX6_lays_39 : decode cX6_lays 39 = .ok (.aload_n 0, 1) := by decide +kernel
theorem dX6_lays_40 : decode cX6_lays 40 = .ok (.getfield 64, 3) := by decide +kernel
theorem dX6_lays_43 : decode cX6_lays 43 = .ok (.bipush 12, 2) := by decide +kernel
theorem dX6_lays_45 : decode cX6_lays 45 = .ok (.iload_n 1, 1) := by decide +kernel
theorem dX6_lays_46 : decode cX6_lays 46 = .ok (.iadd, 1) := by decide +kernel
theorem dX6_lays_47 : decode cX6_lays 47 = .ok (.iaload, 1) := by decide +kernel
theorem dX6_lays_48 : decode cX6_lays 48 = .ok (.iastore, 1) := by decide +kernel
theorem dX6_lays_49 : decode cX6_lays 49 = .ok (.iinc 1 1, 3) := by decide +kernel
theorem dX6_lays_52 : decode cX6_lays 52 = .ok (.goto (-24), 3) := by decide +kernel
theorem dX6_lays_55 : decode cX6_lays 55 = .ok (.iconst 0, 1) := by decide +kernel
theorem dX6_lays_56 : decode cX6_lays 56 = .ok (.istore_n 1, 1) := by decide +kernel
theorem dX6_lays_57 : decode cX6_lays 57 = .ok (.iload_n 1, 1) := by decide +kernel
theorem dX6_lays_58 : decode cX6_lays 58 = .ok (.bipush 6, 2) := by decide +kernel
theorem dX6_lays_60 : decode cX6_lays 60 = .ok (.if_icmp .ge 24, 3) := by decide +kernel
theorem dX6_lays_63 : decode cX6_lays 63 = .ok (.aload_n 0, 1) := by decide +kernel
theorem dX6_lays_64 : decode cX6_lays 64 = .ok (.getfield 22, 3) := by decide +kernel
theorem dX6_lays_67 : decode cX6_lays 67 = .ok (.iload_n 1, 1) := by decide +kernel
theorem dX6_lays_68 : decode cX6_lays 68 = .ok (.aload_n 0, 1) := by decide +kernel
theorem dX6_lays_69 : decode cX6_lays 69 = .ok (.getfield 64, 3) := by decide +kernel
theorem dX6_lays_72 : decode cX6_lays 72 = .ok (.bipush 60, 2) := by decide +kernel
theorem dX6_lays_74 : decode cX6_lays 74 = .ok (.iload_n 1, 1) := by decide +kernel
theorem dX6_lays_75 : decode cX6_lays 75 = .ok (.iadd, 1) := by decide +kernel
theorem dX6_lays_76 : decode cX6_lays 76 = .ok (.iaload, 1) := by decide +kernel
theorem dX6_lays_77 : decode cX6_lays 77 = .ok (.iastore, 1) := by decide +kernel
theorem dX6_lays_78 : decode cX6_lays 78 = .ok (.iinc 1 1, 3) := by decide +kernel
theorem dX6_lays_81 : decode cX6_lays 81 = .ok (.goto (-24), 3) := by decide +kernel
theorem dX6_lays_84 : decode cX6_lays 84 = .ok (.aload_n 0, 1) := by decide +kernel
theorem dX6_lays_85 : decode cX6_lays 85 = .ok (.aload_n 0, 1) := by decide +kernel
theorem dX6_lays_86 : decode cX6_lays 86 = .ok (.getfield 64, 3) := by decide +kernel
theorem dX6_lays_89 : decode cX6_lays 89 = .ok (.bipush 66, 2) := by decide +kernel
theorem dX6_lays_91 : decode cX6_lays 91 = .ok (.iaload, 1) := by decide +kernel
theorem dX6_lays_92 : decode cX6_lays 92 = .ok (.putfield 89, 3) := by decide +kernel
theorem dX6_lays_95 : decode cX6_lays 95 = .ok (.return_, 1) := by decide +kernel
theorem dX6_goes_0 : decode cX6_goes 0 = .ok (.iconst 0, 1) := by decide +kernel
theorem dX6_goes_1 : decode cX6_goes 1 = .ok (.istore_n 2, 1) := by decide +kernel
theorem dX6_goes_2 : decode cX6_goes 2 = .ok (.iload_n 2, 1) := by decide +kernel
theorem dX6_goes_3 : decode cX6_goes 3 = .ok (.iload_n 1, 1) := by decide +kernel
theorem dX6_goes_4 : decode cX6_goes 4 = .ok (.if_icmp .ge 13, 3) := by decide +kernel
theorem dX6_goes_7 : decode cX6_goes 7 = .ok (.aload_n 0, 1) := by decide +kernel
theorem dX6_goes_8 : decode cX6_goes 8 = .ok (.invokevirtual 202, 3) := by decide +kernel
theorem dX6_goes_11 : decode cX6_goes 11 = .ok (.iinc 2 1, 3) := by decide +kernel
theorem dX6_goes_14 : decode cX6_goes 14 = .ok (.goto (-12), 3) := by decide +kernel
theorem dX6_goes_17 : decode cX6_goes 17 = .ok (.return_, 1) := by decide +kernel
theorem dX6_run_0 : decode cX6_run 0 = .ok (.iload_n 1, 1) := by decide +kernel
theorem dX6_run_1 : decode cX6_run 1 = .ok (.iconst 0, 1) := by decide +kernel
theorem dX6_run_2 : decode cX6_run 2 = .ok (.bipush 40, 2) := by decide +kernel
theorem dX6_run_4 : decode cX6_run 4 = .ok (.invokestatic 78, 3) := by decide +kernel
theorem dX6_run_7 : decode cX6_run 7 = .ok (.ifCond .eq 29, 3) := by decide +kernel
theorem dX6_run_10 : decode cX6_run 10 = .ok (.iload_n 2, 1) := by decide +kernel
theorem dX6_run_11 : decode cX6_run 11 = .ok (.iconst 0, 1) := by decide +kernel
theorem dX6_run_12 : decode cX6_run 12 = .ok (.bipush 7, 2) := by decide +kernel
theorem dX6_run_14 : decode cX6_run 14 = .ok (.invokestatic 78, 3) := by decide +kernel
theorem dX6_run_17 : decode cX6_run 17 = .ok (.ifCond .ne 23, 3) := by decide +kernel
theorem dX6_run_20 : decode cX6_run 20 = .ok (.iload_n 2, 1) := by decide +kernel
theorem dX6_run_21 : decode cX6_run 21 = .ok (.bipush 10, 2) := by decide +kernel
theorem dX6_run_23 : decode cX6_run 23 = .ok (.bipush 9, 2) := by decide +kernel
theorem dX6_run_25 : decode cX6_run 25 = .ok (.aload_n 0, 1) := by decide +kernel
theorem dX6_run_26 : decode cX6_run 26 = .ok (.getfield 75, 3) := by decide +kernel
theorem dX6_run_29 : decode cX6_run 29 = .ok (.iadd, 1) := by decide +kernel
theorem dX6_run_30 : decode cX6_run 30 = .ok (.invokestatic 78, 3) := by decide +kernel
theorem dX6_run_33 : decode cX6_run 33 = .ok (.ifCond .ne 7, 3) := by decide +kernel
theorem dX6_run_36 : decode cX6_run 36 = .ok (.sipush (-1000), 3) := by decide +kernel
theorem dX6_run_39 : decode cX6_run 39 = .ok (.ireturn, 1) := by decide +kernel
theorem dX6_run_40 : decode cX6_run 40 = .ok (.aload_n 0, 1) := by decide +kernel
theorem dX6_run_41 : decode cX6_run 41 = .ok (.invokevirtual 214, 3) := by decide +kernel
theorem dX6_run_44 : decode cX6_run 44 = .ok (.aload_n 0, 1) := by decide +kernel
theorem dX6_run_45 : decode cX6_run 45 = .ok (.iload_n 1, 1) := by decide +kernel
theorem dX6_run_46 : decode cX6_run 46 = .ok (.invokevirtual 217, 3) := by decide +kernel
theorem dX6_run_49 : decode cX6_run 49 = .ok (.iconst 0, 1) := by decide +kernel
theorem dX6_run_50 : decode cX6_run 50 = .ok (.istore_n 3, 1) := by decide +kernel
theorem dX6_run_51 : decode cX6_run 51 = .ok (.iload_n 2, 1) := by decide +kernel
theorem dX6_run_52 : decode cX6_run 52 = .ok (.bipush 8, 2) := by decide +kernel
theorem dX6_run_54 : decode cX6_run 54 = .ok (.if_icmp .ge 12, 3) := by decide +kernel
theorem dX6_run_57 : decode cX6_run 57 = .ok (.aload_n 0, 1) := by decide +kernel
theorem dX6_run_58 : decode cX6_run 58 = .ok (.iload_n 2, 1) := by decide +kernel
theorem dX6_run_59 : decode cX6_run 59 = .ok (.invokevirtual 211, 3) := by decide +kernel
theorem dX6_run_62 : decode cX6_run 62 = .ok (.istore_n 3, 1) := by decide +kernel
theorem dX6_run_63 : decode cX6_run 63 = .ok (.goto 15, 3) := by decide +kernel
theorem dX6_run_66 : decode cX6_run 66 = .ok (.aload_n 0, 1) := by decide +kernel
theorem dX6_run_67 : decode cX6_run 67 = .ok (.getfield 16, 3) := by decide +kernel
theorem dX6_run_70 : decode cX6_run 70 = .ok (.iconst 2, 1) := by decide +kernel
theorem dX6_run_71 : decode cX6_run 71 = .ok (.iload_n 2, 1) := by decide +kernel
theorem dX6_run_72 : decode cX6_run 72 = .ok (.bipush 10, 2) := by decide +kernel
theorem dX6_run_74 : decode cX6_run 74 = .ok (.isub, 1) := by decide +kernel
theorem dX6_run_75 : decode cX6_run 75 = .ok (.imul, 1) := by decide +kernel
theorem dX6_run_76 : decode cX6_run 76 = .ok (.iaload, 1) := by decide +kernel
theorem dX6_run_77 : decode cX6_run 77 = .ok (.istore_n 3, 1) := by decide +kernel
theorem dX6_run_78 : decode cX6_run 78 = .ok (.aload_n 0, 1) := by decide +kernel
theorem dX6_run_79 : decode cX6_run 79 = .ok (.invokevirtual 220, 3) := by decide +kernel
theorem dX6_run_82 : decode cX6_run 82 = .ok (.iload_n 3, 1) := by decide +kernel
theorem dX6_run_83 : decode cX6_run 83 = .ok (.ireturn, 1) := by decide +kernel
theorem dX6_stills_0 : decode cX6_stills 0 = .ok (.iconst (-1), 1) := by decide +kernel
theorem dX6_stills_1 : decode cX6_stills 1 = .ok (.istore_n 1, 1) := by decide +kernel
theorem dX6_stills_2 : decode cX6_stills 2 = .ok (.aload_n 0, 1) := by decide +kernel
theorem dX6_stills_3 : decode cX6_stills 3 = .ok (.invokevirtual 214, 3) := by decide +kernel
theorem dX6_stills_6 : decode cX6_stills 6 = .ok (.iconst 0, 1) := by decide +kernel
theorem dX6_stills_7 : decode cX6_stills 7 = .ok (.istore_n 2, 1) := by decide +kernel
theorem dX6_stills_8 : decode cX6_stills 8 = .ok (.iload_n 2, 1) := by decide +kernel
theorem dX6_stills_9 : decode cX6_stills 9 = .ok (.bipush 60, 2) := by decide +kernel
theorem dX6_stills_11 : decode cX6_stills 11 = .ok (.if_icmp .gt 32, 3) := by decide +kernel
theorem dX6_stills_14 : decode cX6_stills 14 = .ok (.iload_n 1, 1) := by decide +kernel
theorem dX6_stills_15 : decode cX6_stills 15 = .ok (.iconst (-1), 1) := by decide +kernel
theorem dX6_stills_16 : decode cX6_stills 16 = .ok (.if_icmp .ne 27, 3) := by decide +kernel
theorem dX6_stills_19 : decode cX6_stills 19 = .ok (.aload_n 0, 1) := by decide +kernel
theorem dX6_stills_20 : decode cX6_stills 20 = .ok (.invokevirtual 205, 3) := by decide +kernel
theorem dX6_stills_23 : decode cX6_stills 23 = .ok (.iconst (-1), 1) := by decide +kernel
theorem dX6_stills_24 : decode cX6_stills 24 = .ok (.if_icmp .ne 7, 3) := by decide +kernel
theorem dX6_stills_27 : decode cX6_stills 27 = .ok (.iload_n 2, 1) := by decide +kernel
theorem dX6_stills_28 : decode cX6_stills 28 = .ok (.goto 4, 3) := by decide +kernel
theorem dX6_stills_31 : decode cX6_stills 31 = .ok (.iconst (-1), 1) := by decide +kernel
theorem dX6_stills_32 : decode cX6_stills 32 = .ok (.istore_n 1, 1) := by decide +kernel
theorem dX6_stills_33 : decode cX6_stills 33 = .ok (.aload_n 0, 1) := by decide +kernel
theorem dX6_stills_34 : decode cX6_stills 34 = .ok (.invokevirtual 202, 3) := by decide +kernel
theorem dX6_stills_37 : decode cX6_stills 37 = .ok (.iinc 2 1, 3) := by decide +kernel
theorem dX6_stills_40 : decode cX6_stills 40 = .ok (.goto (-32), 3) := by decide +kernel
theorem dX6_stills_43 : decode cX6_stills 43 = .ok (.aload_n 0, 1) := by decide +kernel
theorem dX6_stills_44 : decode cX6_stills 44 = .ok (.invokevirtual 220, 3) := by decide +kernel
theorem dX6_stills_47 : decode cX6_stills 47 = .ok (.iload_n 1, 1) := by decide +kernel
theorem dX6_stills_48 : decode cX6_stills 48 = .ok (.ireturn, 1) := by decide +kernel
theorem dX6_rowWrong_0 : decode cX6_rowWrong 0 = .ok (.iload_n 1, 1) := by decide +kernel
theorem dX6_rowWrong_1 : decode cX6_rowWrong 1 = .ok (.iconst 0, 1) := by decide +kernel
theorem dX6_rowWrong_2 : decode cX6_rowWrong 2 = .ok (.iconst 3, 1) := by decide +kernel
theorem dX6_rowWrong_3 : decode cX6_rowWrong 3 = .ok (.invokestatic 78, 3) := by decide +kernel
theorem dX6_rowWrong_6 : decode cX6_rowWrong 6 = .ok (.ifCond .ne 6, 3) := by decide +kernel
theorem dX6_rowWrong_9 : decode cX6_rowWrong 9 = .ok (.bipush (-2), 2) := by decide +kernel
theorem dX6_rowWrong_11 : decode cX6_rowWrong 11 = .ok (.ireturn, 1) := by decide +kernel
theorem dX6_rowWrong_12 : decode cX6_rowWrong 12 = .ok (.aload_n 0, 1) := by decide +kernel
theorem dX6_rowWrong_13 : decode cX6_rowWrong 13 = .ok (.getfield 40, 3) := by decide +kernel
theorem dX6_rowWrong_16 : decode cX6_rowWrong 16 = .ok (.iload_n 1, 1) := by decide +kernel
theorem dX6_rowWrong_17 : decode cX6_rowWrong 17 = .ok (.iaload, 1) := by decide +kernel
theorem dX6_rowWrong_18 : decode cX6_rowWrong 18 = .ok (.iconst (-1), 1) := by decide +kernel
theorem dX6_rowWrong_19 : decode cX6_rowWrong 19 = .ok (.if_icmp .ne 6, 3) := by decide +kernel
theorem dX6_rowWrong_22 : decode cX6_rowWrong 22 = .ok (.bipush (-11), 2) := by decide +kernel
theorem dX6_rowWrong_24 : decode cX6_rowWrong 24 = .ok (.ireturn, 1) := by decide +kernel
theorem dX6_rowWrong_25 : decode cX6_rowWrong 25 = .ok (.iconst 0, 1) := by decide +kernel
theorem dX6_rowWrong_26 : decode cX6_rowWrong 26 = .ok (.istore_n 3, 1) := by decide +kernel
theorem dX6_rowWrong_27 : decode cX6_rowWrong 27 = .ok (.iload_n 3, 1) := by decide +kernel
theorem dX6_rowWrong_28 : decode cX6_rowWrong 28 = .ok (.aload_n 0, 1) := by decide +kernel
theorem dX6_rowWrong_29 : decode cX6_rowWrong 29 = .ok (.getfield 43, 3) := by decide +kernel
theorem dX6_rowWrong_32 : decode cX6_rowWrong 32 = .ok (.iload_n 1, 1) := by decide +kernel
theorem dX6_rowWrong_33 : decode cX6_rowWrong 33 = .ok (.iaload, 1) := by decide +kernel
theorem dX6_rowWrong_34 : decode cX6_rowWrong 34 = .ok (.if_icmp .ge 29, 3) := by decide +kernel
theorem dX6_rowWrong_37 : decode cX6_rowWrong 37 = .ok (.aload_n 0, 1) := by decide +kernel
theorem dX6_rowWrong_38 : decode cX6_rowWrong 38 = .ok (.getfield 46, 3) := by decide +kernel
theorem dX6_rowWrong_41 : decode cX6_rowWrong 41 = .ok (.bipush 40, 2) := by decide +kernel
theorem dX6_rowWrong_43 : decode cX6_rowWrong 43 = .ok (.iload_n 1, 1) := by decide +kernel
theorem dX6_rowWrong_44 : decode cX6_rowWrong 44 = .ok (.imul, 1) := by decide +kernel
theorem dX6_rowWrong_45 : decode cX6_rowWrong 45 = .ok (.iload_n 3, 1) := by decide +kernel
theorem dX6_rowWrong_46 : decode cX6_rowWrong 46 = .ok (.iadd, 1) := by decide +kernel
theorem dX6_rowWrong_47 : decode cX6_rowWrong 47 = .ok (.iaload, 1) := by decide +kernel
theorem dX6_rowWrong_48 : decode cX6_rowWrong 48 = .ok (.invokestatic 98, 3) := by decide +kernel
theorem dX6_rowWrong_51 : decode cX6_rowWrong 51 = .ok (.ifCond .ne 6, 3) := by decide +kernel
theorem dX6_rowWrong_54 : decode cX6_rowWrong 54 = .ok (.bipush (-2), 2) := by decide +kernel
theorem dX6_rowWrong_56 : decode cX6_rowWrong 56 = .ok (.ireturn, 1) := by decide +kernel
theorem dX6_rowWrong_57 : decode cX6_rowWrong 57 = .ok (.iinc 3 1, 3) := by decide +kernel
theorem dX6_rowWrong_60 : decode cX6_rowWrong 60 = .ok (.goto (-33), 3) := by decide +kernel
theorem dX6_rowWrong_63 : decode cX6_rowWrong 63 = .ok (.aload_n 0, 1) := by decide +kernel
theorem dX6_rowWrong_64 : decode cX6_rowWrong 64 = .ok (.iload_n 2, 1) := by decide +kernel
theorem dX6_rowWrong_65 : decode cX6_rowWrong 65 = .ok (.invokevirtual 173, 3) := by decide +kernel
theorem dX6_rowWrong_68 : decode cX6_rowWrong 68 = .ok (.ifCond .eq 7, 3) := by decide +kernel
theorem dX6_rowWrong_71 : decode cX6_rowWrong 71 = .ok (.iconst 0, 1) := by decide +kernel
theorem dX6_rowWrong_72 : decode cX6_rowWrong 72 = .ok (.goto 5, 3) := by decide +kernel
theorem dX6_rowWrong_75 : decode cX6_rowWrong 75 = .ok (.bipush (-5), 2) := by decide +kernel
theorem dX6_rowWrong_77 : decode cX6_rowWrong 77 = .ok (.ireturn, 1) := by decide +kernel
theorem dX6_rowOf_0 : decode cX6_rowOf 0 = .ok (.iconst 0, 1) := by decide +kernel
theorem dX6_rowOf_1 : decode cX6_rowOf 1 = .ok (.istore_n 3, 1) := by decide +kernel
theorem dX6_rowOf_2 : decode cX6_rowOf 2 = .ok (.aload_n 0, 1) := by decide +kernel
theorem dX6_rowOf_3 : decode cX6_rowOf 3 = .ok (.iconst 0, 1) := by decide +kernel
theorem dX6_rowOf_4 : decode cX6_rowOf 4 = .ok (.putfield 223, 3) := by decide +kernel
theorem dX6_rowOf_7 : decode cX6_rowOf 7 = .ok (.iconst 0, 1) := by decide +kernel
theorem dX6_rowOf_8 : decode cX6_rowOf 8 = .ok (.istore 4, 2) := by decide +kernel
theorem dX6_rowOf_10 : decode cX6_rowOf 10 = .ok (.iload 4, 2) := by decide +kernel
theorem dX6_rowOf_12 : decode cX6_rowOf 12 = .ok (.aload_n 0, 1) := by decide +kernel
theorem dX6_rowOf_13 : decode cX6_rowOf 13 = .ok (.getfield 43, 3) := by decide +kernel
theorem dX6_rowOf_16 : decode cX6_rowOf 16 = .ok (.iload_n 1, 1) := by decide +kernel
theorem dX6_rowOf_17 : decode cX6_rowOf 17 = .ok (.iaload, 1) := by decide +kernel
theorem dX6_rowOf_18 : decode cX6_rowOf 18 = .ok (.if_icmp .ge 66, 3) := by decide +kernel
theorem dX6_rowOf_21 : decode cX6_rowOf 21 = .ok (.aload_n 0, 1) := by decide +kernel
theorem dX6_rowOf_22 : decode cX6_rowOf 22 = .ok (.getfield 46, 3) := by decide +kernel
theorem dX6_rowOf_25 : decode cX6_rowOf 25 = .ok (.bipush 40, 2) := by decide +kernel
theorem dX6_rowOf_27 : decode cX6_rowOf 27 = .ok (.iload_n 1, 1) := by decide +kernel
theorem dX6_rowOf_28 : decode cX6_rowOf 28 = .ok (.imul, 1) := by decide +kernel
theorem dX6_rowOf_29 : decode cX6_rowOf 29 = .ok (.iload 4, 2) := by decide +kernel
theorem dX6_rowOf_31 : decode cX6_rowOf 31 = .ok (.iadd, 1) := by decide +kernel
theorem dX6_rowOf_32 : decode cX6_rowOf 32 = .ok (.iaload, 1) := by decide +kernel
theorem dX6_rowOf_33 : decode cX6_rowOf 33 = .ok (.iconst 0, 1) := by decide +kernel
theorem dX6_rowOf_34 : decode cX6_rowOf 34 = .ok (.bipush 11, 2) := by decide +kernel
theorem dX6_rowOf_36 : decode cX6_rowOf 36 = .ok (.invokestatic 167, 3) := by decide +kernel
theorem dX6_rowOf_39 : decode cX6_rowOf 39 = .ok (.istore 5, 2) := by decide +kernel
theorem dX6_rowOf_41 : decode cX6_rowOf 41 = .ok (.aload_n 0, 1) := by decide +kernel
theorem dX6_rowOf_42 : decode cX6_rowOf 42 = .ok (.iload_n 2, 1) := by decide +kernel
theorem dX6_rowOf_43 : decode cX6_rowOf 43 = .ok (.iload 5, 2) := by decide +kernel
theorem dX6_rowOf_45 : decode cX6_rowOf 45 = .ok (.invokevirtual 185, 3) := by decide +kernel
theorem dX6_rowOf_48 : decode cX6_rowOf 48 = .ok (.ifCond .eq 16, 3) := by decide +kernel
theorem dX6_rowOf_51 : decode cX6_rowOf 51 = .ok (.aload_n 0, 1) := by decide +kernel
theorem dX6_rowOf_52 : decode cX6_rowOf 52 = .ok (.iload_n 2, 1) := by decide +kernel
theorem dX6_rowOf_53 : decode cX6_rowOf 53 = .ok (.iload 5, 2) := by decide +kernel
theorem dX6_rowOf_55 : decode cX6_rowOf 55 = .ok (.invokevirtual 195, 3) := by decide +kernel
theorem dX6_rowOf_58 : decode cX6_rowOf 58 = .ok (.iinc 3 1, 3) := by decide +kernel
theorem dX6_rowOf_61 : decode cX6_rowOf 61 = .ok (.goto 17, 3) := by decide +kernel
theorem dX6_rowOf_64 : decode cX6_rowOf 64 = .ok (.aload_n 0, 1) := by decide +kernel
theorem dX6_rowOf_65 : decode cX6_rowOf 65 = .ok (.invokevirtual 202, 3) := by decide +kernel
theorem dX6_rowOf_68 : decode cX6_rowOf 68 = .ok (.aload_n 0, 1) := by decide +kernel
theorem dX6_rowOf_69 : decode cX6_rowOf 69 = .ok (.dup, 1) := by decide +kernel
theorem dX6_rowOf_70 : decode cX6_rowOf 70 = .ok (.getfield 223, 3) := by decide +kernel
theorem dX6_rowOf_73 : decode cX6_rowOf 73 = .ok (.iconst 1, 1) := by decide +kernel
theorem dX6_rowOf_74 : decode cX6_rowOf 74 = .ok (.iadd, 1) := by decide +kernel
theorem dX6_rowOf_75 : decode cX6_rowOf 75 = .ok (.putfield 223, 3) := by decide +kernel
theorem dX6_rowOf_78 : decode cX6_rowOf 78 = .ok (.iinc 4 1, 3) := by decide +kernel
theorem dX6_rowOf_81 : decode cX6_rowOf 81 = .ok (.goto (-71), 3) := by decide +kernel
theorem dX6_rowOf_84 : decode cX6_rowOf 84 = .ok (.iload_n 3, 1) := by decide +kernel
theorem dX6_rowOf_85 : decode cX6_rowOf 85 = .ok (.ireturn, 1) := by decide +kernel
theorem dX6_row_0 : decode cX6_row 0 = .ok (.aload_n 0, 1) := by decide +kernel
theorem dX6_row_1 : decode cX6_row 1 = .ok (.iload_n 1, 1) := by decide +kernel
theorem dX6_row_2 : decode cX6_row 2 = .ok (.iload_n 2, 1) := by decide +kernel
theorem dX6_row_3 : decode cX6_row 3 = .ok (.invokevirtual 226, 3) := by decide +kernel
theorem dX6_row_6 : decode cX6_row 6 = .ok (.istore 4, 2) := by decide +kernel
theorem dX6_row_8 : decode cX6_row 8 = .ok (.iload 4, 2) := by decide +kernel
theorem dX6_row_10 : decode cX6_row 10 = .ok (.ifCond .eq 6, 3) := by decide +kernel
theorem dX6_row_13 : decode cX6_row 13 = .ok (.iload 4, 2) := by decide +kernel
theorem dX6_row_15 : decode cX6_row 15 = .ok (.ireturn, 1) := by decide +kernel
theorem dX6_row_16 : decode cX6_row 16 = .ok (.iload_n 3, 1) := by decide +kernel
theorem dX6_row_17 : decode cX6_row 17 = .ok (.iconst 0, 1) := by decide +kernel
theorem dX6_row_18 : decode cX6_row 18 = .ok (.iconst 3, 1) := by decide +kernel
theorem dX6_row_19 : decode cX6_row 19 = .ok (.invokestatic 78, 3) := by decide +kernel
theorem dX6_row_22 : decode cX6_row 22 = .ok (.ifCond .ne 6, 3) := by decide +kernel
theorem dX6_row_25 : decode cX6_row 25 = .ok (.bipush (-7), 2) := by decide +kernel
theorem dX6_row_27 : decode cX6_row 27 = .ok (.ireturn, 1) := by decide +kernel
theorem dX6_row_28 : decode cX6_row 28 = .ok (.aload_n 0, 1) := by decide +kernel
theorem dX6_row_29 : decode cX6_row 29 = .ok (.invokevirtual 214, 3) := by decide +kernel
theorem dX6_row_32 : decode cX6_row 32 = .ok (.aload_n 0, 1) := by decide +kernel
theorem dX6_row_33 : decode cX6_row 33 = .ok (.iload_n 1, 1) := by decide +kernel
theorem dX6_row_34 : decode cX6_row 34 = .ok (.iload_n 2, 1) := by decide +kernel
theorem dX6_row_35 : decode cX6_row 35 = .ok (.invokevirtual 229, 3) := by decide +kernel
theorem dX6_row_38 : decode cX6_row 38 = .ok (.istore 5, 2) := by decide +kernel
theorem dX6_row_40 : decode cX6_row 40 = .ok (.iload_n 3, 1) := by decide +kernel
theorem dX6_row_41 : decode cX6_row 41 = .ok (.ifCond .ne 11, 3) := by decide +kernel
theorem dX6_row_44 : decode cX6_row 44 = .ok (.aload_n 0, 1) := by decide +kernel
theorem dX6_row_45 : decode cX6_row 45 = .ok (.iconst 1, 1) := by decide +kernel
theorem dX6_row_46 : decode cX6_row 46 = .ok (.invokevirtual 82, 3) := by decide +kernel
theorem dX6_row_49 : decode cX6_row 49 = .ok (.goto 33, 3) := by decide +kernel
theorem dX6_row_52 : decode cX6_row 52 = .ok (.iload_n 3, 1) := by decide +kernel
theorem dX6_row_53 : decode cX6_row 53 = .ok (.iconst 1, 1) := by decide +kernel
theorem dX6_row_54 : decode cX6_row 54 = .ok (.if_icmp .ne 8, 3) := by decide +kernel
theorem dX6_row_57 : decode cX6_row 57 = .ok (.iload 5, 2) := by decide +kernel
theorem dX6_row_59 : decode cX6_row 59 = .ok (.goto 23, 3) := by decide +kernel
theorem dX6_row_62 : decode cX6_row 62 = .ok (.iload_n 3, 1) := by decide +kernel
theorem dX6_row_63 : decode cX6_row 63 = .ok (.iconst 2, 1) := by decide +kernel
theorem dX6_row_64 : decode cX6_row 64 = .ok (.if_icmp .ne 14, 3) := by decide +kernel
theorem dX6_row_67 : decode cX6_row 67 = .ok (.aload_n 0, 1) := by decide +kernel
theorem dX6_row_68 : decode cX6_row 68 = .ok (.getfield 16, 3) := by decide +kernel
theorem dX6_row_71 : decode cX6_row 71 = .ok (.iconst 2, 1) := by decide +kernel
theorem dX6_row_72 : decode cX6_row 72 = .ok (.iload_n 2, 1) := by decide +kernel
theorem dX6_row_73 : decode cX6_row 73 = .ok (.imul, 1) := by decide +kernel
theorem dX6_row_74 : decode cX6_row 74 = .ok (.iaload, 1) := by decide +kernel
theorem dX6_row_75 : decode cX6_row 75 = .ok (.goto 7, 3) := by decide +kernel
theorem dX6_row_78 : decode cX6_row 78 = .ok (.aload_n 0, 1) := by decide +kernel
theorem dX6_row_79 : decode cX6_row 79 = .ok (.getfield 223, 3) := by decide +kernel
theorem dX6_row_82 : decode cX6_row 82 = .ok (.istore 6, 2) := by decide +kernel
theorem dX6_row_84 : decode cX6_row 84 = .ok (.aload_n 0, 1) := by decide +kernel
theorem dX6_row_85 : decode cX6_row 85 = .ok (.invokevirtual 220, 3) := by decide +kernel
theorem dX6_row_88 : decode cX6_row 88 = .ok (.iload 6, 2) := by decide +kernel
theorem dX6_row_90 : decode cX6_row 90 = .ok (.ireturn, 1) := by decide +kernel
theorem dX6_salvage_0 : decode cX6_salvage 0 = .ok (.aload_n 0, 1) := by decide +kernel
theorem dX6_salvage_1 : decode cX6_salvage 1 = .ok (.iload_n 1, 1) := by decide +kernel
theorem dX6_salvage_2 : decode cX6_salvage 2 = .ok (.iload_n 2, 1) := by decide +kernel
theorem dX6_salvage_3 : decode cX6_salvage 3 = .ok (.invokevirtual 226, 3) := by decide +kernel
theorem dX6_salvage_6 : decode cX6_salvage 6 = .ok (.istore_n 3, 1) := by decide +kernel
theorem dX6_salvage_7 : decode cX6_salvage 7 = .ok (.iload_n 3, 1) := by decide +kernel
theorem dX6_salvage_8 : decode cX6_salvage 8 = .ok (.ifCond .eq 5, 3) := by decide +kernel
theorem dX6_salvage_11 : decode cX6_salvage 11 = .ok (.iload_n 3, 1) := by decide +kernel
theorem dX6_salvage_12 : decode cX6_salvage 12 = .ok (.ireturn, 1) := by decide +kernel
theorem dX6_salvage_13 : decode cX6_salvage 13 = .ok (.aload_n 0, 1) := by decide +kernel
theorem dX6_salvage_14 : decode cX6_salvage 14 = .ok (.getfield 89, 3) := by decide +kernel
theorem dX6_salvage_17 : decode cX6_salvage 17 = .ok (.aload_n 0, 1) := by decide +kernel
theorem dX6_salvage_18 : decode cX6_salvage 18 = .ok (.getfield 43, 3) := by decide +kernel
theorem dX6_salvage_21 : decode cX6_salvage 21 = .ok (.iload_n 1, 1) := by decide +kernel
theorem dX6_salvage_22 : decode cX6_salvage 22 = .ok (.iaload, 1) := by decide +kernel
theorem dX6_salvage_23 : decode cX6_salvage 23 = .ok (.iadd, 1) := by decide +kernel
theorem dX6_salvage_24 : decode cX6_salvage 24 = .ok (.sipush 999, 3) := by decide +kernel
theorem dX6_salvage_27 : decode cX6_salvage 27 = .ok (.if_icmp .le 8, 3) := by decide +kernel
theorem dX6_salvage_30 : decode cX6_salvage 30 = .ok (.bipush (-3), 2) := by decide +kernel
theorem dX6_salvage_32 : decode cX6_salvage 32 = .ok (.goto 9, 3) := by decide +kernel
theorem dX6_salvage_35 : decode cX6_salvage 35 = .ok (.aload_n 0, 1) := by decide +kernel
theorem dX6_salvage_36 : decode cX6_salvage 36 = .ok (.iload_n 1, 1) := by decide +kernel
theorem dX6_salvage_37 : decode cX6_salvage 37 = .ok (.iload_n 2, 1) := by decide +kernel
theorem dX6_salvage_38 : decode cX6_salvage 38 = .ok (.invokevirtual 229, 3) := by decide +kernel
theorem dX6_salvage_41 : decode cX6_salvage 41 = .ok (.ireturn, 1) := by decide +kernel
theorem dX6_fairBehind_0 : decode cX6_fairBehind 0 = .ok (.aload_n 0, 1) := by decide +kernel
theorem dX6_fairBehind_1 : decode cX6_fairBehind 1 = .ok (.iload_n 1, 1) := by decide +kernel
theorem dX6_fairBehind_2 : decode cX6_fairBehind 2 = .ok (.invokevirtual 217, 3) := by decide +kernel
theorem dX6_fairBehind_5 : decode cX6_fairBehind 5 = .ok (.aload_n 0, 1) := by decide +kernel
theorem dX6_fairBehind_6 : decode cX6_fairBehind 6 = .ok (.invokevirtual 208, 3) := by decide +kernel
theorem dX6_fairBehind_9 : decode cX6_fairBehind 9 = .ok (.istore_n 2, 1) := by decide +kernel
theorem dX6_fairBehind_10 : decode cX6_fairBehind 10 = .ok (.aload_n 0, 1) := by decide +kernel
theorem dX6_fairBehind_11 : decode cX6_fairBehind 11 = .ok (.invokevirtual 220, 3) := by decide +kernel
theorem dX6_fairBehind_14 : decode cX6_fairBehind 14 = .ok (.iload_n 2, 1) := by decide +kernel
theorem dX6_fairBehind_15 : decode cX6_fairBehind 15 = .ok (.ireturn, 1) := by decide +kernel
theorem dX6_which_0 : decode cX6_which 0 = .ok (.iload_n 1, 1) := by decide +kernel
theorem dX6_which_1 : decode cX6_which 1 = .ok (.iconst 0, 1) := by decide +kernel
theorem dX6_which_2 : decode cX6_which 2 = .ok (.bipush 40, 2) := by decide +kernel
theorem dX6_which_4 : decode cX6_which 4 = .ok (.invokestatic 78, 3) := by decide +kernel
theorem dX6_which_7 : decode cX6_which 7 = .ok (.ifCond .eq 12, 3) := by decide +kernel
theorem dX6_which_10 : decode cX6_which 10 = .ok (.iload_n 2, 1) := by decide +kernel
theorem dX6_which_11 : decode cX6_which 11 = .ok (.iconst 0, 1) := by decide +kernel
theorem dX6_which_12 : decode cX6_which 12 = .ok (.iconst 1, 1) := by decide +kernel
theorem dX6_which_13 : decode cX6_which 13 = .ok (.invokestatic 78, 3) := by decide +kernel
theorem dX6_which_16 : decode cX6_which 16 = .ok (.ifCond .ne 7, 3) := by decide +kernel
theorem dX6_which_19 : decode cX6_which 19 = .ok (.sipush (-1000), 3) := by decide +kernel
theorem dX6_which_22 : decode cX6_which 22 = .ok (.ireturn, 1) := by decide +kernel
theorem dX6_which_23 : decode cX6_which 23 = .ok (.iconst (-1), 1) := by decide +kernel
theorem dX6_which_24 : decode cX6_which 24 = .ok (.istore_n 3, 1) := by decide +kernel
theorem dX6_which_25 : decode cX6_which 25 = .ok (.aload_n 0, 1) := by decide +kernel
theorem dX6_which_26 : decode cX6_which 26 = .ok (.invokevirtual 214, 3) := by decide +kernel
theorem dX6_which_29 : decode cX6_which 29 = .ok (.aload_n 0, 1) := by decide +kernel
theorem dX6_which_30 : decode cX6_which 30 = .ok (.iload_n 1, 1) := by decide +kernel
theorem dX6_which_31 : decode cX6_which 31 = .ok (.invokevirtual 232, 3) := by decide +kernel
theorem dX6_which_34 : decode cX6_which 34 = .ok (.istore 4, 2) := by decide +kernel
theorem dX6_which_36 : decode cX6_which 36 = .ok (.iconst 0, 1) := by decide +kernel
theorem dX6_which_37 : decode cX6_which 37 = .ok (.istore 5, 2) := by decide +kernel
theorem dX6_which_39 : decode cX6_which 39 = .ok (.iload 5, 2) := by decide +kernel
theorem dX6_which_41 : decode cX6_which 41 = .ok (.bipush 12, 2) := by decide +kernel
theorem dX6_which_43 : decode cX6_which 43 = .ok (.if_icmp .ge 71, 3) := by decide +kernel
theorem dX6_which_46 : decode cX6_which 46 = .ok (.aload_n 0, 1) := by decide +kernel
theorem dX6_which_47 : decode cX6_which 47 = .ok (.getfield 19, 3) := by decide +kernel
theorem dX6_which_50 : decode cX6_which 50 = .ok (.iconst 4, 1) := by decide +kernel
theorem dX6_which_51 : decode cX6_which 51 = .ok (.iload 5, 2) := by decide +kernel
theorem dX6_which_53 : decode cX6_which 53 = .ok (.imul, 1) := by decide +kernel
theorem dX6_which_54 : decode cX6_which 54 = .ok (.iconst 3, 1) := by decide +kernel
theorem dX6_which_55 : decode cX6_which 55 = .ok (.iadd, 1) := by decide +kernel
theorem dX6_which_56 : decode cX6_which 56 = .ok (.iaload, 1) := by decide +kernel
theorem dX6_which_57 : decode cX6_which 57 = .ok (.iconst 1, 1) := by decide +kernel
theorem dX6_which_58 : decode cX6_which 58 = .ok (.if_icmp .ne 50, 3) := by decide +kernel
theorem dX6_which_61 : decode cX6_which 61 = .ok (.aload_n 0, 1) := by decide +kernel
theorem dX6_which_62 : decode cX6_which 62 = .ok (.invokevirtual 214, 3) := by decide +kernel
theorem dX6_which_65 : decode cX6_which 65 = .ok (.aload_n 0, 1) := by decide +kernel
theorem dX6_which_66 : decode cX6_which 66 = .ok (.iload 5, 2) := by decide +kernel
theorem dX6_which_68 : decode cX6_which 68 = .ok (.invokevirtual 199, 3) := by decide +kernel
theorem dX6_which_71 : decode cX6_which 71 = .ok (.aload_n 0, 1) := by decide +kernel
theorem dX6_which_72 : decode cX6_which 72 = .ok (.iload_n 1, 1) := by decide +kernel
theorem dX6_which_73 : decode cX6_which 73 = .ok (.invokevirtual 232, 3) := by decide +kernel
theorem dX6_which_76 : decode cX6_which 76 = .ok (.istore 6, 2) := by decide +kernel
theorem dX6_which_78 : decode cX6_which 78 = .ok (.iload 6, 2) := by decide +kernel
theorem dX6_which_80 : decode cX6_which 80 = .ok (.iload 4, 2) := by decide +kernel
theorem dX6_which_82 : decode cX6_which 82 = .ok (.if_icmp .le 8, 3) := by decide +kernel
theorem dX6_which_85 : decode cX6_which 85 = .ok (.iload 5, 2) := by decide +kernel
theorem dX6_which_87 : decode cX6_which 87 = .ok (.goto 4, 3) := by decide +kernel
theorem dX6_which_90 : decode cX6_which 90 = .ok (.iload_n 3, 1) := by decide +kernel
theorem dX6_which_91 : decode cX6_which 91 = .ok (.istore_n 3, 1) := by decide +kernel
theorem dX6_which_92 : decode cX6_which 92 = .ok (.iload 6, 2) := by decide +kernel
theorem dX6_which_94 : decode cX6_which 94 = .ok (.iload 4, 2) := by decide +kernel
theorem dX6_which_96 : decode cX6_which 96 = .ok (.if_icmp .le 8, 3) := by decide +kernel
theorem dX6_which_99 : decode cX6_which 99 = .ok (.iload 6, 2) := by decide +kernel
theorem dX6_which_101 : decode cX6_which 101 = .ok (.goto 5, 3) := by decide +kernel
theorem dX6_which_104 : decode cX6_which 104 = .ok (.iload 4, 2) := by decide +kernel
theorem dX6_which_106 : decode cX6_which 106 = .ok (.istore 4, 2) := by decide +kernel
theorem dX6_which_108 : decode cX6_which 108 = .ok (.iinc 5 1, 3) := by decide +kernel
theorem dX6_which_111 : decode cX6_which 111 = .ok (.goto (-72), 3) := by decide +kernel
theorem dX6_which_114 : decode cX6_which 114 = .ok (.iload_n 2, 1) := by decide +kernel
theorem dX6_which_115 : decode cX6_which 115 = .ok (.ifCond .ne 7, 3) := by decide +kernel
theorem dX6_which_118 : decode cX6_which 118 = .ok (.iload_n 3, 1) := by decide +kernel
theorem dX6_which_119 : decode cX6_which 119 = .ok (.goto 5, 3) := by decide +kernel
theorem dX6_which_122 : decode cX6_which 122 = .ok (.iload 4, 2) := by decide +kernel
theorem dX6_which_124 : decode cX6_which 124 = .ok (.ireturn, 1) := by decide +kernel
theorem dX6_cargo_0 : decode cX6_cargo 0 = .ok (.iload_n 1, 1) := by decide +kernel
theorem dX6_cargo_1 : decode cX6_cargo 1 = .ok (.iconst 0, 1) := by decide +kernel
theorem dX6_cargo_2 : decode cX6_cargo 2 = .ok (.sipush 999, 3) := by decide +kernel
theorem dX6_cargo_5 : decode cX6_cargo 5 = .ok (.invokestatic 78, 3) := by decide +kernel
theorem dX6_cargo_8 : decode cX6_cargo 8 = .ok (.ifCond .eq 12, 3) := by decide +kernel
theorem dX6_cargo_11 : decode cX6_cargo 11 = .ok (.iload_n 2, 1) := by decide +kernel
theorem dX6_cargo_12 : decode cX6_cargo 12 = .ok (.iconst 0, 1) := by decide +kernel
theorem dX6_cargo_13 : decode cX6_cargo 13 = .ok (.iconst 1, 1) := by decide +kernel
theorem dX6_cargo_14 : decode cX6_cargo 14 = .ok (.invokestatic 78, 3) := by decide +kernel
theorem dX6_cargo_17 : decode cX6_cargo 17 = .ok (.ifCond .ne 6, 3) := by decide +kernel
theorem dX6_cargo_20 : decode cX6_cargo 20 = .ok (.bipush (-2), 2) := by decide +kernel
theorem dX6_cargo_22 : decode cX6_cargo 22 = .ok (.ireturn, 1) := by decide +kernel
theorem dX6_cargo_23 : decode cX6_cargo 23 = .ok (.aload_n 0, 1) := by decide +kernel
theorem dX6_cargo_24 : decode cX6_cargo 24 = .ok (.iconst 1, 1) := by decide +kernel
theorem dX6_cargo_25 : decode cX6_cargo 25 = .ok (.invokevirtual 82, 3) := by decide +kernel
theorem dX6_cargo_28 : decode cX6_cargo 28 = .ok (.istore_n 3, 1) := by decide +kernel
theorem dX6_cargo_29 : decode cX6_cargo 29 = .ok (.iconst 0, 1) := by decide +kernel
theorem dX6_cargo_30 : decode cX6_cargo 30 = .ok (.istore 4, 2) := by decide +kernel
theorem dX6_cargo_32 : decode cX6_cargo 32 = .ok (.iconst 0, 1) := by decide +kernel
theorem dX6_cargo_33 : decode cX6_cargo 33 = .ok (.istore 5, 2) := by decide +kernel
theorem dX6_cargo_35 : decode cX6_cargo 35 = .ok (.iconst 1, 1) := by decide +kernel
theorem dX6_cargo_36 : decode cX6_cargo 36 = .ok (.istore 6, 2) := by decide +kernel
theorem dX6_cargo_38 : decode cX6_cargo 38 = .ok (.iload 6, 2) := by decide +kernel
theorem dX6_cargo_40 : decode cX6_cargo 40 = .ok (.sipush 4096, 3) := by decide +kernel
theorem dX6_cargo_43 : decode cX6_cargo 43 = .ok (.if_icmp .ge 131, 3) := by decide +kernel
theorem dX6_cargo_46 : decode cX6_cargo 46 = .ok (.iload 6, 2) := by decide +kernel
theorem dX6_cargo_48 : decode cX6_cargo 48 = .ok (.iload_n 3, 1) := by decide +kernel
theorem dX6_cargo_49 : decode cX6_cargo 49 = .ok (.iconst (-1), 1) := by decide +kernel
theorem dX6_cargo_50 : decode cX6_cargo 50 = .ok (.ixor, 1) := by decide +kernel
theorem dX6_cargo_51 : decode cX6_cargo 51 = .ok (.iand, 1) := by decide +kernel
theorem dX6_cargo_52 : decode cX6_cargo 52 = .ok (.ifCond .ne 116, 3) := by decide +kernel
theorem dX6_cargo_55 : decode cX6_cargo 55 = .ok (.iconst 0, 1) := by decide +kernel
theorem dX6_cargo_56 : decode cX6_cargo 56 = .ok (.istore 7, 2) := by decide +kernel
theorem dX6_cargo_58 : decode cX6_cargo 58 = .ok (.iconst 0, 1) := by decide +kernel
theorem dX6_cargo_59 : decode cX6_cargo 59 = .ok (.istore 8, 2) := by decide +kernel
theorem dX6_cargo_61 : decode cX6_cargo 61 = .ok (.iconst 0, 1) := by decide +kernel
theorem dX6_cargo_62 : decode cX6_cargo 62 = .ok (.istore 9, 2) := by decide +kernel
theorem dX6_cargo_64 : decode cX6_cargo 64 = .ok (.iload 9, 2) := by decide +kernel
theorem dX6_cargo_66 : decode cX6_cargo 66 = .ok (.bipush 12, 2) := by decide +kernel
theorem dX6_cargo_68 : decode cX6_cargo 68 = .ok (.if_icmp .ge 52, 3) := by decide +kernel
theorem dX6_cargo_71 : decode cX6_cargo 71 = .ok (.iload 6, 2) := by decide +kernel
theorem dX6_cargo_73 : decode cX6_cargo 73 = .ok (.iload 9, 2) := by decide +kernel
theorem dX6_cargo_75 : decode cX6_cargo 75 = .ok (.ishr, 1) := by decide +kernel
theorem dX6_cargo_76 : decode cX6_cargo 76 = .ok (.iconst 1, 1) := by decide +kernel
theorem dX6_cargo_77 : decode cX6_cargo 77 = .ok (.iand, 1) := by decide +kernel
theorem dX6_cargo_78 : decode cX6_cargo 78 = .ok (.iconst 1, 1) := by decide +kernel
theorem dX6_cargo_79 : decode cX6_cargo 79 = .ok (.if_icmp .ne 35, 3) := by decide +kernel
theorem dX6_cargo_82 : decode cX6_cargo 82 = .ok (.iload 7, 2) := by decide +kernel
theorem dX6_cargo_84 : decode cX6_cargo 84 = .ok (.aload_n 0, 1) := by decide +kernel
theorem dX6_cargo_85 : decode cX6_cargo 85 = .ok (.getfield 19, 3) := by decide +kernel
theorem dX6_cargo_88 : decode cX6_cargo 88 = .ok (.iconst 4, 1) := by decide +kernel
theorem dX6_cargo_89 : decode cX6_cargo 89 = .ok (.iload 9, 2) := by decide +kernel
theorem dX6_cargo_91 : decode cX6_cargo 91 = .ok (.imul, 1) := by decide +kernel
theorem dX6_cargo_92 : decode cX6_cargo 92 = .ok (.iconst 2, 1) := by decide +kernel
theorem dX6_cargo_93 : decode cX6_cargo 93 = .ok (.iadd, 1) := by decide +kernel
theorem dX6_cargo_94 : decode cX6_cargo 94 = .ok (.iaload, 1) := by decide +kernel
theorem dX6_cargo_95 : decode cX6_cargo 95 = .ok (.iadd, 1) := by decide +kernel
theorem dX6_cargo_96 : decode cX6_cargo 96 = .ok (.istore 7, 2) := by decide +kernel
theorem dX6_cargo_98 : decode cX6_cargo 98 = .ok (.iload 8, 2) := by decide +kernel
theorem dX6_cargo_100 : decode cX6_cargo 100 = .ok (.aload_n 0, 1) := by decide +kernel
theorem dX6_cargo_101 : decode cX6_cargo 101 = .ok (.getfield 19, 3) := by decide +kernel
theorem dX6_cargo_104 : decode cX6_cargo 104 = .ok (.iconst 4, 1) := by decide +kernel
theorem dX6_cargo_105 : decode cX6_cargo 105 = .ok (.iload 9, 2) := by decide +kernel
theorem dX6_cargo_107 : decode cX6_cargo 107 = .ok (.imul, 1) := by decide +kernel
theorem dX6_cargo_108 : decode cX6_cargo 108 = .ok (.iconst 1, 1) := by decide +kernel
theorem dX6_cargo_109 : decode cX6_cargo 109 = .ok (.iadd, 1) := by decide +kernel
theorem dX6_cargo_110 : decode cX6_cargo 110 = .ok (.iaload, 1) := by decide +kernel
theorem dX6_cargo_111 : decode cX6_cargo 111 = .ok (.iadd, 1) := by decide +kernel
theorem dX6_cargo_112 : decode cX6_cargo 112 = .ok (.istore 8, 2) := by decide +kernel
theorem dX6_cargo_114 : decode cX6_cargo 114 = .ok (.iinc 9 1, 3) := by decide +kernel
theorem dX6_cargo_117 : decode cX6_cargo 117 = .ok (.goto (-53), 3) := by decide +kernel
theorem dX6_cargo_120 : decode cX6_cargo 120 = .ok (.iload 7, 2) := by decide +kernel
theorem dX6_cargo_122 : decode cX6_cargo 122 = .ok (.iload_n 1, 1) := by decide +kernel
theorem dX6_cargo_123 : decode cX6_cargo 123 = .ok (.if_icmp .gt 14, 3) := by decide +kernel
theorem dX6_cargo_126 : decode cX6_cargo 126 = .ok (.iload 8, 2) := by decide +kernel
theorem dX6_cargo_128 : decode cX6_cargo 128 = .ok (.iload 5, 2) := by decide +kernel
theorem dX6_cargo_130 : decode cX6_cargo 130 = .ok (.if_icmp .le 7, 3) := by decide +kernel
theorem dX6_cargo_133 : decode cX6_cargo 133 = .ok (.iconst 1, 1) := by decide +kernel
theorem dX6_cargo_134 : decode cX6_cargo 134 = .ok (.goto 4, 3) := by decide +kernel
theorem dX6_cargo_137 : decode cX6_cargo 137 = .ok (.iconst 0, 1) := by decide +kernel
theorem dX6_cargo_138 : decode cX6_cargo 138 = .ok (.istore 9, 2) := by decide +kernel
theorem dX6_cargo_140 : decode cX6_cargo 140 = .ok (.iload 9, 2) := by decide +kernel
theorem dX6_cargo_142 : decode cX6_cargo 142 = .ok (.ifCond .eq 8, 3) := by decide +kernel
theorem dX6_cargo_145 : decode cX6_cargo 145 = .ok (.iload 6, 2) := by decide +kernel
theorem dX6_cargo_147 : decode cX6_cargo 147 = .ok (.goto 5, 3) := by decide +kernel
theorem dX6_cargo_150 : decode cX6_cargo 150 = .ok (.iload 4, 2) := by decide +kernel
theorem dX6_cargo_152 : decode cX6_cargo 152 = .ok (.istore 4, 2) := by decide +kernel
theorem dX6_cargo_154 : decode cX6_cargo 154 = .ok (.iload 9, 2) := by decide +kernel
theorem dX6_cargo_156 : decode cX6_cargo 156 = .ok (.ifCond .eq 8, 3) := by decide +kernel
theorem dX6_cargo_159 : decode cX6_cargo 159 = .ok (.iload 8, 2) := by decide +kernel
theorem dX6_cargo_161 : decode cX6_cargo 161 = .ok (.goto 5, 3) := by decide +kernel
theorem dX6_cargo_164 : decode cX6_cargo 164 = .ok (.iload 5, 2) := by decide +kernel
theorem dX6_cargo_166 : decode cX6_cargo 166 = .ok (.istore 5, 2) := by decide +kernel
theorem dX6_cargo_168 : decode cX6_cargo 168 = .ok (.iinc 6 1, 3) := by decide +kernel
theorem dX6_cargo_171 : decode cX6_cargo 171 = .ok (.goto (-133), 3) := by decide +kernel
theorem dX6_cargo_174 : decode cX6_cargo 174 = .ok (.iload_n 2, 1) := by decide +kernel
theorem dX6_cargo_175 : decode cX6_cargo 175 = .ok (.ifCond .ne 8, 3) := by decide +kernel
theorem dX6_cargo_178 : decode cX6_cargo 178 = .ok (.iload 4, 2) := by decide +kernel
theorem dX6_cargo_180 : decode cX6_cargo 180 = .ok (.goto 5, 3) := by decide +kernel
theorem dX6_cargo_183 : decode cX6_cargo 183 = .ok (.iload 5, 2) := by decide +kernel
theorem dX6_cargo_185 : decode cX6_cargo 185 = .ok (.ireturn, 1) := by decide +kernel
theorem dX6_leftBy_0 : decode cX6_leftBy 0 = .ok (.iload_n 3, 1) := by decide +kernel
theorem dX6_leftBy_1 : decode cX6_leftBy 1 = .ok (.istore 5, 2) := by decide +kernel
theorem dX6_leftBy_3 : decode cX6_leftBy 3 = .ok (.iconst 1, 1) := by decide +kernel
theorem dX6_leftBy_4 : decode cX6_leftBy 4 = .ok (.istore 6, 2) := by decide +kernel
theorem dX6_leftBy_6 : decode cX6_leftBy 6 = .ok (.aload_n 0, 1) := by decide +kernel
theorem dX6_leftBy_7 : decode cX6_leftBy 7 = .ok (.invokevirtual 214, 3) := by decide +kernel
theorem dX6_leftBy_10 : decode cX6_leftBy 10 = .ok (.iconst 0, 1) := by decide +kernel
theorem dX6_leftBy_11 : decode cX6_leftBy 11 = .ok (.istore 7, 2) := by decide +kernel
theorem dX6_leftBy_13 : decode cX6_leftBy 13 = .ok (.iload 7, 2) := by decide +kernel
theorem dX6_leftBy_15 : decode cX6_leftBy 15 = .ok (.iload 4, 2) := by decide +kernel
theorem dX6_leftBy_17 : decode cX6_leftBy 17 = .ok (.if_icmp .ge 73, 3) := by decide +kernel
theorem dX6_leftBy_20 : decode cX6_leftBy 20 = .ok (.iload 6, 2) := by decide +kernel
theorem dX6_leftBy_22 : decode cX6_leftBy 22 = .ok (.ifCond .eq 68, 3) := by decide +kernel
theorem dX6_leftBy_25 : decode cX6_leftBy 25 = .ok (.iload 5, 2) := by decide +kernel
theorem dX6_leftBy_27 : decode cX6_leftBy 27 = .ok (.bipush 12, 2) := by decide +kernel
theorem dX6_leftBy_29 : decode cX6_leftBy 29 = .ok (.irem, 1) := by decide +kernel
theorem dX6_leftBy_30 : decode cX6_leftBy 30 = .ok (.iconst 0, 1) := by decide +kernel
theorem dX6_leftBy_31 : decode cX6_leftBy 31 = .ok (.bipush 11, 2) := by decide +kernel
theorem dX6_leftBy_33 : decode cX6_leftBy 33 = .ok (.invokestatic 167, 3) := by decide +kernel
theorem dX6_leftBy_36 : decode cX6_leftBy 36 = .ok (.istore 8, 2) := by decide +kernel
theorem dX6_leftBy_38 : decode cX6_leftBy 38 = .ok (.iload 5, 2) := by decide +kernel
theorem dX6_leftBy_40 : decode cX6_leftBy 40 = .ok (.bipush 12, 2) := by decide +kernel
theorem dX6_leftBy_42 : decode cX6_leftBy 42 = .ok (.idiv, 1) := by decide +kernel
theorem dX6_leftBy_43 : decode cX6_leftBy 43 = .ok (.istore 5, 2) := by decide +kernel
theorem dX6_leftBy_45 : decode cX6_leftBy 45 = .ok (.iload 8, 2) := by decide +kernel
theorem dX6_leftBy_47 : decode cX6_leftBy 47 = .ok (.iload_n 2, 1) := by decide +kernel
theorem dX6_leftBy_48 : decode cX6_leftBy 48 = .ok (.if_icmp .eq 7, 3) := by decide +kernel
theorem dX6_leftBy_51 : decode cX6_leftBy 51 = .ok (.iconst 1, 1) := by decide +kernel
theorem dX6_leftBy_52 : decode cX6_leftBy 52 = .ok (.goto 4, 3) := by decide +kernel
theorem dX6_leftBy_55 : decode cX6_leftBy 55 = .ok (.iconst 0, 1) := by decide +kernel
theorem dX6_leftBy_56 : decode cX6_leftBy 56 = .ok (.istore 6, 2) := by decide +kernel
theorem dX6_leftBy_58 : decode cX6_leftBy 58 = .ok (.iload 6, 2) := by decide +kernel
theorem dX6_leftBy_60 : decode cX6_leftBy 60 = .ok (.ifCond .eq 12, 3) := by decide +kernel
theorem dX6_leftBy_63 : decode cX6_leftBy 63 = .ok (.aload_n 0, 1) := by decide +kernel
theorem dX6_leftBy_64 : decode cX6_leftBy 64 = .ok (.iload_n 1, 1) := by decide +kernel
theorem dX6_leftBy_65 : decode cX6_leftBy 65 = .ok (.iload 8, 2) := by decide +kernel
theorem dX6_leftBy_67 : decode cX6_leftBy 67 = .ok (.invokevirtual 185, 3) := by decide +kernel
theorem dX6_leftBy_70 : decode cX6_leftBy 70 = .ok (.istore 6, 2) := by decide +kernel
theorem dX6_leftBy_72 : decode cX6_leftBy 72 = .ok (.iload 6, 2) := by decide +kernel
theorem dX6_leftBy_74 : decode cX6_leftBy 74 = .ok (.ifCond .eq 10, 3) := by decide +kernel
theorem dX6_leftBy_77 : decode cX6_leftBy 77 = .ok (.aload_n 0, 1) := by decide +kernel
theorem dX6_leftBy_78 : decode cX6_leftBy 78 = .ok (.iload_n 1, 1) := by decide +kernel
theorem dX6_leftBy_79 : decode cX6_leftBy 79 = .ok (.iload 8, 2) := by decide +kernel
theorem dX6_leftBy_81 : decode cX6_leftBy 81 = .ok (.invokevirtual 195, 3) := by decide +kernel
theorem dX6_leftBy_84 : decode cX6_leftBy 84 = .ok (.iinc 7 1, 3) := by decide +kernel
theorem dX6_leftBy_87 : decode cX6_leftBy 87 = .ok (.goto (-74), 3) := by decide +kernel
theorem dX6_leftBy_90 : decode cX6_leftBy 90 = .ok (.iconst (-1), 1) := by decide +kernel
theorem dX6_leftBy_91 : decode cX6_leftBy 91 = .ok (.istore 7, 2) := by decide +kernel
theorem dX6_leftBy_93 : decode cX6_leftBy 93 = .ok (.iload 6, 2) := by decide +kernel
theorem dX6_leftBy_95 : decode cX6_leftBy 95 = .ok (.ifCond .eq 33, 3) := by decide +kernel
theorem dX6_leftBy_98 : decode cX6_leftBy 98 = .ok (.aload_n 0, 1) := by decide +kernel
theorem dX6_leftBy_99 : decode cX6_leftBy 99 = .ok (.iload_n 1, 1) := by decide +kernel
theorem dX6_leftBy_100 : decode cX6_leftBy 100 = .ok (.iload_n 2, 1) := by decide +kernel
theorem dX6_leftBy_101 : decode cX6_leftBy 101 = .ok (.invokevirtual 185, 3) := by decide +kernel
theorem dX6_leftBy_104 : decode cX6_leftBy 104 = .ok (.ifCond .eq 21, 3) := by decide +kernel
theorem dX6_leftBy_107 : decode cX6_leftBy 107 = .ok (.aload_n 0, 1) := by decide +kernel
theorem dX6_leftBy_108 : decode cX6_leftBy 108 = .ok (.getfield 16, 3) := by decide +kernel
theorem dX6_leftBy_111 : decode cX6_leftBy 111 = .ok (.iconst 2, 1) := by decide +kernel
theorem dX6_leftBy_112 : decode cX6_leftBy 112 = .ok (.iload_n 1, 1) := by decide +kernel
theorem dX6_leftBy_113 : decode cX6_leftBy 113 = .ok (.imul, 1) := by decide +kernel
theorem dX6_leftBy_114 : decode cX6_leftBy 114 = .ok (.iaload, 1) := by decide +kernel
theorem dX6_leftBy_115 : decode cX6_leftBy 115 = .ok (.aload_n 0, 1) := by decide +kernel
theorem dX6_leftBy_116 : decode cX6_leftBy 116 = .ok (.iload_n 1, 1) := by decide +kernel
theorem dX6_leftBy_117 : decode cX6_leftBy 117 = .ok (.iload_n 2, 1) := by decide +kernel
theorem dX6_leftBy_118 : decode cX6_leftBy 118 = .ok (.invokevirtual 182, 3) := by decide +kernel
theorem dX6_leftBy_121 : decode cX6_leftBy 121 = .ok (.isub, 1) := by decide +kernel
theorem dX6_leftBy_122 : decode cX6_leftBy 122 = .ok (.goto 4, 3) := by decide +kernel
theorem dX6_leftBy_125 : decode cX6_leftBy 125 = .ok (.iconst (-1), 1) := by decide +kernel
theorem dX6_leftBy_126 : decode cX6_leftBy 126 = .ok (.istore 7, 2) := by decide +kernel
theorem dX6_leftBy_128 : decode cX6_leftBy 128 = .ok (.aload_n 0, 1) := by decide +kernel
theorem dX6_leftBy_129 : decode cX6_leftBy 129 = .ok (.invokevirtual 220, 3) := by decide +kernel
theorem dX6_leftBy_132 : decode cX6_leftBy 132 = .ok (.iload 7, 2) := by decide +kernel
theorem dX6_leftBy_134 : decode cX6_leftBy 134 = .ok (.ireturn, 1) := by decide +kernel
theorem dX6_last_0 : decode cX6_last 0 = .ok (.aload_n 0, 1) := by decide +kernel
theorem dX6_last_1 : decode cX6_last 1 = .ok (.iload_n 1, 1) := by decide +kernel
theorem dX6_last_2 : decode cX6_last 2 = .ok (.invokevirtual 173, 3) := by decide +kernel
theorem dX6_last_5 : decode cX6_last 5 = .ok (.ifCond .ne 6, 3) := by decide +kernel
theorem dX6_last_8 : decode cX6_last 8 = .ok (.bipush (-5), 2) := by decide +kernel
theorem dX6_last_10 : decode cX6_last 10 = .ok (.ireturn, 1) := by decide +kernel
theorem dX6_last_11 : decode cX6_last 11 = .ok (.iload_n 2, 1) := by decide +kernel
theorem dX6_last_12 : decode cX6_last 12 = .ok (.invokestatic 98, 3) := by decide +kernel
theorem dX6_last_15 : decode cX6_last 15 = .ok (.ifCond .ne 6, 3) := by decide +kernel
theorem dX6_last_18 : decode cX6_last 18 = .ok (.bipush (-6), 2) := by decide +kernel
theorem dX6_last_20 : decode cX6_last 20 = .ok (.ireturn, 1) := by decide +kernel
theorem dX6_last_21 : decode cX6_last 21 = .ok (.iload_n 3, 1) := by decide +kernel
theorem dX6_last_22 : decode cX6_last 22 = .ok (.iconst 0, 1) := by decide +kernel
theorem dX6_last_23 : decode cX6_last 23 = .ok (.iconst 3, 1) := by decide +kernel
theorem dX6_last_24 : decode cX6_last 24 = .ok (.invokestatic 78, 3) := by decide +kernel
theorem dX6_last_27 : decode cX6_last 27 = .ok (.ifCond .ne 6, 3) := by decide +kernel
theorem dX6_last_30 : decode cX6_last 30 = .ok (.bipush (-7), 2) := by decide +kernel
theorem dX6_last_32 : decode cX6_last 32 = .ok (.ireturn, 1) := by decide +kernel
theorem dX6_last_33 : decode cX6_last 33 = .ok (.iconst 1, 1) := by decide +kernel
theorem dX6_last_34 : decode cX6_last 34 = .ok (.istore 4, 2) := by decide +kernel
theorem dX6_last_36 : decode cX6_last 36 = .ok (.iconst 0, 1) := by decide +kernel
theorem dX6_last_37 : decode cX6_last 37 = .ok (.istore 5, 2) := by decide +kernel
theorem dX6_last_39 : decode cX6_last 39 = .ok (.iload 5, 2) := by decide +kernel
theorem dX6_last_41 : decode cX6_last 41 = .ok (.iload_n 3, 1) := by decide +kernel
theorem dX6_last_42 : decode cX6_last 42 = .ok (.if_icmp .ge 16, 3) := by decide +kernel
theorem dX6_last_45 : decode cX6_last 45 = .ok (.iload 4, 2) := by decide +kernel
theorem dX6_last_47 : decode cX6_last 47 = .ok (.bipush 12, 2) := by decide +kernel
theorem dX6_last_49 : decode cX6_last 49 = .ok (.imul, 1) := by decide +kernel
theorem dX6_last_50 : decode cX6_last 50 = .ok (.istore 4, 2) := by decide +kernel
theorem dX6_last_52 : decode cX6_last 52 = .ok (.iinc 5 1, 3) := by decide +kernel
theorem dX6_last_55 : decode cX6_last 55 = .ok (.goto (-16), 3) := by decide +kernel
theorem dX6_last_58 : decode cX6_last 58 = .ok (.iconst (-1), 1) := by decide +kernel
theorem dX6_last_59 : decode cX6_last 59 = .ok (.istore 5, 2) := by decide +kernel
theorem dX6_last_61 : decode cX6_last 61 = .ok (.iconst 0, 1) := by decide +kernel
theorem dX6_last_62 : decode cX6_last 62 = .ok (.istore 6, 2) := by decide +kernel
theorem dX6_last_64 : decode cX6_last 64 = .ok (.iload 6, 2) := by decide +kernel
theorem dX6_last_66 : decode cX6_last 66 = .ok (.iload 4, 2) := by decide +kernel
theorem dX6_last_68 : decode cX6_last 68 = .ok (.if_icmp .ge 36, 3) := by decide +kernel
theorem dX6_last_71 : decode cX6_last 71 = .ok (.aload_n 0, 1) := by decide +kernel
theorem dX6_last_72 : decode cX6_last 72 = .ok (.iload_n 1, 1) := by decide +kernel
theorem dX6_last_73 : decode cX6_last 73 = .ok (.iload_n 2, 1) := by decide +kernel
theorem dX6_last_74 : decode cX6_last 74 = .ok (.iload 6, 2) := by decide +kernel
theorem dX6_last_76 : decode cX6_last 76 = .ok (.iload_n 3, 1) := by decide +kernel
theorem dX6_last_77 : decode cX6_last 77 = .ok (.invokevirtual 235, 3) := by decide +kernel
theorem dX6_last_80 : decode cX6_last 80 = .ok (.istore 7, 2) := by decide +kernel
theorem dX6_last_82 : decode cX6_last 82 = .ok (.iload 7, 2) := by decide +kernel
theorem dX6_last_84 : decode cX6_last 84 = .ok (.iload 5, 2) := by decide +kernel
theorem dX6_last_86 : decode cX6_last 86 = .ok (.if_icmp .le 8, 3) := by decide +kernel
theorem dX6_last_89 : decode cX6_last 89 = .ok (.iload 7, 2) := by decide +kernel
theorem dX6_last_91 : decode cX6_last 91 = .ok (.goto 5, 3) := by decide +kernel
theorem dX6_last_94 : decode cX6_last 94 = .ok (.iload 5, 2) := by decide +kernel
theorem dX6_last_96 : decode cX6_last 96 = .ok (.istore 5, 2) := by decide +kernel
theorem dX6_last_98 : decode cX6_last 98 = .ok (.iinc 6 1, 3) := by decide +kernel
theorem dX6_last_101 : decode cX6_last 101 = .ok (.goto (-37), 3) := by decide +kernel
theorem dX6_last_104 : decode cX6_last 104 = .ok (.iload 5, 2) := by decide +kernel
theorem dX6_last_106 : decode cX6_last 106 = .ok (.ireturn, 1) := by decide +kernel
theorem dX6_best_0 : decode cX6_best 0 = .ok (.iload_n 1, 1) := by decide +kernel
theorem dX6_best_1 : decode cX6_best 1 = .ok (.iconst 0, 1) := by decide +kernel
theorem dX6_best_2 : decode cX6_best 2 = .ok (.iconst 1, 1) := by decide +kernel
theorem dX6_best_3 : decode cX6_best 3 = .ok (.invokestatic 78, 3) := by decide +kernel
theorem dX6_best_6 : decode cX6_best 6 = .ok (.ifCond .ne 6, 3) := by decide +kernel
theorem dX6_best_9 : decode cX6_best 9 = .ok (.bipush (-2), 2) := by decide +kernel
theorem dX6_best_11 : decode cX6_best 11 = .ok (.ireturn, 1) := by decide +kernel
theorem dX6_best_12 : decode cX6_best 12 = .ok (.iconst (-1), 1) := by decide +kernel
theorem dX6_best_13 : decode cX6_best 13 = .ok (.istore_n 2, 1) := by decide +kernel
theorem dX6_best_14 : decode cX6_best 14 = .ok (.iconst 0, 1) := by decide +kernel
theorem dX6_best_15 : decode cX6_best 15 = .ok (.istore_n 3, 1) := by decide +kernel
theorem dX6_best_16 : decode cX6_best 16 = .ok (.iconst 0, 1) := by decide +kernel
theorem dX6_best_17 : decode cX6_best 17 = .ok (.istore 4, 2) := by decide +kernel
theorem dX6_best_19 : decode cX6_best 19 = .ok (.iload 4, 2) := by decide +kernel
theorem dX6_best_21 : decode cX6_best 21 = .ok (.aload_n 0, 1) := by decide +kernel
theorem dX6_best_22 : decode cX6_best 22 = .ok (.getfield 75, 3) := by decide +kernel
theorem dX6_best_25 : decode cX6_best 25 = .ok (.if_icmp .ge 46, 3) := by decide +kernel
theorem dX6_best_28 : decode cX6_best 28 = .ok (.aload_n 0, 1) := by decide +kernel
theorem dX6_best_29 : decode cX6_best 29 = .ok (.iload 4, 2) := by decide +kernel
theorem dX6_best_31 : decode cX6_best 31 = .ok (.invokevirtual 189, 3) := by decide +kernel
theorem dX6_best_34 : decode cX6_best 34 = .ok (.invokestatic 86, 3) := by decide +kernel
theorem dX6_best_37 : decode cX6_best 37 = .ok (.istore 5, 2) := by decide +kernel
theorem dX6_best_39 : decode cX6_best 39 = .ok (.iload 5, 2) := by decide +kernel
theorem dX6_best_41 : decode cX6_best 41 = .ok (.iload_n 3, 1) := by decide +kernel
theorem dX6_best_42 : decode cX6_best 42 = .ok (.if_icmp .le 8, 3) := by decide +kernel
theorem dX6_best_45 : decode cX6_best 45 = .ok (.iload 4, 2) := by decide +kernel
theorem dX6_best_47 : decode cX6_best 47 = .ok (.goto 4, 3) := by decide +kernel
theorem dX6_best_50 : decode cX6_best 50 = .ok (.iload_n 2, 1) := by decide +kernel
theorem dX6_best_51 : decode cX6_best 51 = .ok (.istore_n 2, 1) := by decide +kernel
theorem dX6_best_52 : decode cX6_best 52 = .ok (.iload 5, 2) := by decide +kernel
theorem dX6_best_54 : decode cX6_best 54 = .ok (.iload_n 3, 1) := by decide +kernel
theorem dX6_best_55 : decode cX6_best 55 = .ok (.if_icmp .le 8, 3) := by decide +kernel
theorem dX6_best_58 : decode cX6_best 58 = .ok (.iload 5, 2) := by decide +kernel
theorem dX6_best_60 : decode cX6_best 60 = .ok (.goto 4, 3) := by decide +kernel
theorem dX6_best_63 : decode cX6_best 63 = .ok (.iload_n 3, 1) := by decide +kernel
theorem dX6_best_64 : decode cX6_best 64 = .ok (.istore_n 3, 1) := by decide +kernel
theorem dX6_best_65 : decode cX6_best 65 = .ok (.iinc 4 1, 3) := by decide +kernel
theorem dX6_best_68 : decode cX6_best 68 = .ok (.goto (-49), 3) := by decide +kernel
theorem dX6_best_71 : decode cX6_best 71 = .ok (.iload_n 1, 1) := by decide +kernel
theorem dX6_best_72 : decode cX6_best 72 = .ok (.ifCond .ne 7, 3) := by decide +kernel
theorem dX6_best_75 : decode cX6_best 75 = .ok (.iload_n 2, 1) := by decide +kernel
theorem dX6_best_76 : decode cX6_best 76 = .ok (.goto 4, 3) := by decide +kernel
theorem dX6_best_79 : decode cX6_best 79 = .ok (.iload_n 3, 1) := by decide +kernel
theorem dX6_best_80 : decode cX6_best 80 = .ok (.ireturn, 1) := by decide +kernel
theorem dX6_lowest_0 : decode cX6_lowest 0 = .ok (.lload_n 0, 1) := by decide +kernel
theorem dX6_lowest_1 : decode cX6_lowest 1 = .ok (.lconst 0, 1) := by decide +kernel
theorem dX6_lowest_2 : decode cX6_lowest 2 = .ok (.lcmp, 1) := by decide +kernel
theorem dX6_lowest_3 : decode cX6_lowest 3 = .ok (.ifCond .ne 7, 3) := by decide +kernel
theorem dX6_lowest_6 : decode cX6_lowest 6 = .ok (.iload 4, 2) := by decide +kernel
theorem dX6_lowest_8 : decode cX6_lowest 8 = .ok (.i2l, 1) := by decide +kernel
theorem dX6_lowest_9 : decode cX6_lowest 9 = .ok (.lreturn, 1) := by decide +kernel
theorem dX6_lowest_10 : decode cX6_lowest 10 = .ok (.lload_n 0, 1) := by decide +kernel
theorem dX6_lowest_11 : decode cX6_lowest 11 = .ok (.lstore 5, 2) := by decide +kernel
theorem dX6_lowest_13 : decode cX6_lowest 13 = .ok (.lload_n 2, 1) := by decide +kernel
theorem dX6_lowest_14 : decode cX6_lowest 14 = .ok (.lstore 7, 2) := by decide +kernel
theorem dX6_lowest_16 : decode cX6_lowest 16 = .ok (.lload 7, 2) := by decide +kernel
theorem dX6_lowest_18 : decode cX6_lowest 18 = .ok (.lconst 0, 1) := by decide +kernel
theorem dX6_lowest_19 : decode cX6_lowest 19 = .ok (.lcmp, 1) := by decide +kernel
theorem dX6_lowest_20 : decode cX6_lowest 20 = .ok (.ifCond .eq 21, 3) := by decide +kernel
theorem dX6_lowest_23 : decode cX6_lowest 23 = .ok (.lload 5, 2) := by decide +kernel
theorem dX6_lowest_25 : decode cX6_lowest 25 = .ok (.lload 7, 2) := by decide +kernel
theorem dX6_lowest_27 : decode cX6_lowest 27 = .ok (.lrem, 1) := by decide +kernel
theorem dX6_lowest_28 : decode cX6_lowest 28 = .ok (.lstore 9, 2) := by decide +kernel
theorem dX6_lowest_30 : decode cX6_lowest 30 = .ok (.lload 7, 2) := by decide +kernel
theorem dX6_lowest_32 : decode cX6_lowest 32 = .ok (.lstore 5, 2) := by decide +kernel
theorem dX6_lowest_34 : decode cX6_lowest 34 = .ok (.lload 9, 2) := by decide +kernel
theorem dX6_lowest_36 : decode cX6_lowest 36 = .ok (.lstore 7, 2) := by decide +kernel
theorem dX6_lowest_38 : decode cX6_lowest 38 = .ok (.goto (-22), 3) := by decide +kernel
theorem dX6_lowest_41 : decode cX6_lowest 41 = .ok (.iload 4, 2) := by decide +kernel
theorem dX6_lowest_43 : decode cX6_lowest 43 = .ok (.ifCond .ne 7, 3) := by decide +kernel
theorem dX6_lowest_46 : decode cX6_lowest 46 = .ok (.lload_n 0, 1) := by decide +kernel
theorem dX6_lowest_47 : decode cX6_lowest 47 = .ok (.goto 4, 3) := by decide +kernel
theorem dX6_lowest_50 : decode cX6_lowest 50 = .ok (.lload_n 2, 1) := by decide +kernel
theorem dX6_lowest_51 : decode cX6_lowest 51 = .ok (.lload 5, 2) := by decide +kernel
theorem dX6_lowest_53 : decode cX6_lowest 53 = .ok (.ldiv, 1) := by decide +kernel
theorem dX6_lowest_54 : decode cX6_lowest 54 = .ok (.lreturn, 1) := by decide +kernel
theorem dX6_share_0 : decode cX6_share 0 = .ok (.iconst 0, 1) := by decide +kernel
theorem dX6_share_1 : decode cX6_share 1 = .ok (.istore_n 3, 1) := by decide +kernel
theorem dX6_share_2 : decode cX6_share 2 = .ok (.iconst 0, 1) := by decide +kernel
theorem dX6_share_3 : decode cX6_share 3 = .ok (.istore 4, 2) := by decide +kernel
theorem dX6_share_5 : decode cX6_share 5 = .ok (.iload 4, 2) := by decide +kernel
theorem dX6_share_7 : decode cX6_share 7 = .ok (.bipush 6, 2) := by decide +kernel
theorem dX6_share_9 : decode cX6_share 9 = .ok (.if_icmp .ge 19, 3) := by decide +kernel
theorem dX6_share_12 : decode cX6_share 12 = .ok (.iload_n 3, 1) := by decide +kernel
theorem dX6_share_13 : decode cX6_share 13 = .ok (.aload_n 0, 1) := by decide +kernel
theorem dX6_share_14 : decode cX6_share 14 = .ok (.getfield 22, 3) := by decide +kernel
theorem dX6_share_17 : decode cX6_share 17 = .ok (.iload 4, 2) := by decide +kernel
theorem dX6_share_19 : decode cX6_share 19 = .ok (.iaload, 1) := by decide +kernel
theorem dX6_share_20 : decode cX6_share 20 = .ok (.iadd, 1) := by decide +kernel
theorem dX6_share_21 : decode cX6_share 21 = .ok (.istore_n 3, 1) := by decide +kernel
theorem dX6_share_22 : decode cX6_share 22 = .ok (.iinc 4 1, 3) := by decide +kernel
theorem dX6_share_25 : decode cX6_share 25 = .ok (.goto (-20), 3) := by decide +kernel
theorem dX6_share_28 : decode cX6_share 28 = .ok (.iload_n 1, 1) := by decide +kernel
theorem dX6_share_29 : decode cX6_share 29 = .ok (.invokestatic 170, 3) := by decide +kernel
theorem dX6_share_32 : decode cX6_share 32 = .ok (.ifCond .eq 32, 3) := by decide +kernel
theorem dX6_share_35 : decode cX6_share 35 = .ok (.iload_n 2, 1) := by decide +kernel
theorem dX6_share_36 : decode cX6_share 36 = .ok (.iconst 0, 1) := by decide +kernel
theorem dX6_share_37 : decode cX6_share 37 = .ok (.iconst 1, 1) := by decide +kernel
theorem dX6_share_38 : decode cX6_share 38 = .ok (.invokestatic 78, 3) := by decide +kernel
theorem dX6_share_41 : decode cX6_share 41 = .ok (.ifCond .eq 23, 3) := by decide +kernel
theorem dX6_share_44 : decode cX6_share 44 = .ok (.iload_n 3, 1) := by decide +kernel
theorem dX6_share_45 : decode cX6_share 45 = .ok (.ifCond .le 19, 3) := by decide +kernel
theorem dX6_share_48 : decode cX6_share 48 = .ok (.aload_n 0, 1) := by decide +kernel
theorem dX6_share_49 : decode cX6_share 49 = .ok (.getfield 22, 3) := by decide +kernel
theorem dX6_share_52 : decode cX6_share 52 = .ok (.iload_n 1, 1) := by decide +kernel
theorem dX6_share_53 : decode cX6_share 53 = .ok (.iaload, 1) := by decide +kernel
theorem dX6_share_54 : decode cX6_share 54 = .ok (.i2l, 1) := by decide +kernel
theorem dX6_share_55 : decode cX6_share 55 = .ok (.iload_n 3, 1) := by decide +kernel
theorem dX6_share_56 : decode cX6_share 56 = .ok (.i2l, 1) := by decide +kernel
theorem dX6_share_57 : decode cX6_share 57 = .ok (.iload_n 2, 1) := by decide +kernel
theorem dX6_share_58 : decode cX6_share 58 = .ok (.invokestatic 239, 3) := by decide +kernel
theorem dX6_share_61 : decode cX6_share 61 = .ok (.goto 6, 3) := by decide +kernel
theorem dX6_share_64 : decode cX6_share 64 = .ok (.ldc2_w 243, 3) := by decide +kernel
theorem dX6_share_67 : decode cX6_share 67 = .ok (.lreturn, 1) := by decide +kernel
theorem dX6_sheetWrong_0 : decode cX6_sheetWrong 0 = .ok (.iload_n 1, 1) := by decide +kernel
theorem dX6_sheetWrong_1 : decode cX6_sheetWrong 1 = .ok (.iconst 0, 1) := by decide +kernel
theorem dX6_sheetWrong_2 : decode cX6_sheetWrong 2 = .ok (.iconst 3, 1) := by decide +kernel
theorem dX6_sheetWrong_3 : decode cX6_sheetWrong 3 = .ok (.invokestatic 78, 3) := by decide +kernel
theorem dX6_sheetWrong_6 : decode cX6_sheetWrong 6 = .ok (.ifCond .ne 6, 3) := by decide +kernel
theorem dX6_sheetWrong_9 : decode cX6_sheetWrong 9 = .ok (.bipush (-2), 2) := by decide +kernel
theorem dX6_sheetWrong_11 : decode cX6_sheetWrong 11 = .ok (.ireturn, 1) := by decide +kernel
theorem dX6_sheetWrong_12 : decode cX6_sheetWrong 12 = .ok (.aload_n 0, 1) := by decide +kernel
theorem dX6_sheetWrong_13 : decode cX6_sheetWrong 13 = .ok (.getfield 40, 3) := by decide +kernel
theorem dX6_sheetWrong_16 : decode cX6_sheetWrong 16 = .ok (.iload_n 1, 1) := by decide +kernel
theorem dX6_sheetWrong_17 : decode cX6_sheetWrong 17 = .ok (.iaload, 1) := by decide +kernel
theorem dX6_sheetWrong_18 : decode cX6_sheetWrong 18 = .ok (.iconst (-1), 1) := by decide +kernel
theorem dX6_sheetWrong_19 : decode cX6_sheetWrong 19 = .ok (.if_icmp .ne 6, 3) := by decide +kernel
theorem dX6_sheetWrong_22 : decode cX6_sheetWrong 22 = .ok (.bipush (-11), 2) := by decide +kernel
theorem dX6_sheetWrong_24 : decode cX6_sheetWrong 24 = .ok (.ireturn, 1) := by decide +kernel
theorem dX6_sheetWrong_25 : decode cX6_sheetWrong 25 = .ok (.aload_n 0, 1) := by decide +kernel
theorem dX6_sheetWrong_26 : decode cX6_sheetWrong 26 = .ok (.getfield 43, 3) := by decide +kernel
theorem dX6_sheetWrong_29 : decode cX6_sheetWrong 29 = .ok (.iload_n 1, 1) := by decide +kernel
theorem dX6_sheetWrong_30 : decode cX6_sheetWrong 30 = .ok (.iaload, 1) := by decide +kernel
theorem dX6_sheetWrong_31 : decode cX6_sheetWrong 31 = .ok (.iload_n 2, 1) := by decide +kernel
theorem dX6_sheetWrong_32 : decode cX6_sheetWrong 32 = .ok (.if_icmp .le 8, 3) := by decide +kernel
theorem dX6_sheetWrong_35 : decode cX6_sheetWrong 35 = .ok (.bipush (-2), 2) := by decide +kernel
theorem dX6_sheetWrong_37 : decode cX6_sheetWrong 37 = .ok (.goto 4, 3) := by decide +kernel
theorem dX6_sheetWrong_40 : decode cX6_sheetWrong 40 = .ok (.iconst 0, 1) := by decide +kernel
theorem dX6_sheetWrong_41 : decode cX6_sheetWrong 41 = .ok (.ireturn, 1) := by decide +kernel
theorem dX6_toldWrong_0 : decode cX6_toldWrong 0 = .ok (.aload_n 0, 1) := by decide +kernel
theorem dX6_toldWrong_1 : decode cX6_toldWrong 1 = .ok (.iload_n 1, 1) := by decide +kernel
theorem dX6_toldWrong_2 : decode cX6_toldWrong 2 = .ok (.bipush 20, 2) := by decide +kernel
theorem dX6_toldWrong_4 : decode cX6_toldWrong 4 = .ok (.invokevirtual 245, 3) := by decide +kernel
theorem dX6_toldWrong_7 : decode cX6_toldWrong 7 = .ok (.istore_n 3, 1) := by decide +kernel
theorem dX6_toldWrong_8 : decode cX6_toldWrong 8 = .ok (.iload_n 3, 1) := by decide +kernel
theorem dX6_toldWrong_9 : decode cX6_toldWrong 9 = .ok (.ifCond .eq 7, 3) := by decide +kernel
theorem dX6_toldWrong_12 : decode cX6_toldWrong 12 = .ok (.iload_n 3, 1) := by decide +kernel
theorem dX6_toldWrong_13 : decode cX6_toldWrong 13 = .ok (.goto 16, 3) := by decide +kernel
theorem dX6_toldWrong_16 : decode cX6_toldWrong 16 = .ok (.iload_n 2, 1) := by decide +kernel
theorem dX6_toldWrong_17 : decode cX6_toldWrong 17 = .ok (.invokestatic 170, 3) := by decide +kernel
theorem dX6_toldWrong_20 : decode cX6_toldWrong 20 = .ok (.ifCond .eq 7, 3) := by decide +kernel
theorem dX6_toldWrong_23 : decode cX6_toldWrong 23 = .ok (.iconst 0, 1) := by decide +kernel
theorem dX6_toldWrong_24 : decode cX6_toldWrong 24 = .ok (.goto 5, 3) := by decide +kernel
theorem dX6_toldWrong_27 : decode cX6_toldWrong 27 = .ok (.bipush (-5), 2) := by decide +kernel
theorem dX6_toldWrong_29 : decode cX6_toldWrong 29 = .ok (.ireturn, 1) := by decide +kernel
theorem dX6_unlike_0 : decode cX6_unlike 0 = .ok (.iconst (-1), 1) := by decide +kernel
theorem dX6_unlike_1 : decode cX6_unlike 1 = .ok (.istore_n 3, 1) := by decide +kernel
theorem dX6_unlike_2 : decode cX6_unlike 2 = .ok (.aload_n 0, 1) := by decide +kernel
theorem dX6_unlike_3 : decode cX6_unlike 3 = .ok (.invokevirtual 214, 3) := by decide +kernel
theorem dX6_unlike_6 : decode cX6_unlike 6 = .ok (.iconst 0, 1) := by decide +kernel
theorem dX6_unlike_7 : decode cX6_unlike 7 = .ok (.istore 4, 2) := by decide +kernel
theorem dX6_unlike_9 : decode cX6_unlike 9 = .ok (.iload 4, 2) := by decide +kernel
theorem dX6_unlike_11 : decode cX6_unlike 11 = .ok (.aload_n 0, 1) := by decide +kernel
theorem dX6_unlike_12 : decode cX6_unlike 12 = .ok (.getfield 43, 3) := by decide +kernel
theorem dX6_unlike_15 : decode cX6_unlike 15 = .ok (.iload_n 1, 1) := by decide +kernel
theorem dX6_unlike_16 : decode cX6_unlike 16 = .ok (.iaload, 1) := by decide +kernel
theorem dX6_unlike_17 : decode cX6_unlike 17 = .ok (.if_icmp .ge 46, 3) := by decide +kernel
theorem dX6_unlike_20 : decode cX6_unlike 20 = .ok (.iload_n 3, 1) := by decide +kernel
theorem dX6_unlike_21 : decode cX6_unlike 21 = .ok (.iconst (-1), 1) := by decide +kernel
theorem dX6_unlike_22 : decode cX6_unlike 22 = .ok (.if_icmp .ne 41, 3) := by decide +kernel
theorem dX6_unlike_25 : decode cX6_unlike 25 = .ok (.aload_n 0, 1) := by decide +kernel
theorem dX6_unlike_26 : decode cX6_unlike 26 = .ok (.invokevirtual 202, 3) := by decide +kernel
theorem dX6_unlike_29 : decode cX6_unlike 29 = .ok (.aload_n 0, 1) := by decide +kernel
theorem dX6_unlike_30 : decode cX6_unlike 30 = .ok (.getfield 46, 3) := by decide +kernel
theorem dX6_unlike_33 : decode cX6_unlike 33 = .ok (.bipush 40, 2) := by decide +kernel
theorem dX6_unlike_35 : decode cX6_unlike 35 = .ok (.iload_n 1, 1) := by decide +kernel
theorem dX6_unlike_36 : decode cX6_unlike 36 = .ok (.imul, 1) := by decide +kernel
theorem dX6_unlike_37 : decode cX6_unlike 37 = .ok (.iload 4, 2) := by decide +kernel
theorem dX6_unlike_39 : decode cX6_unlike 39 = .ok (.iadd, 1) := by decide +kernel
theorem dX6_unlike_40 : decode cX6_unlike 40 = .ok (.iaload, 1) := by decide +kernel
theorem dX6_unlike_41 : decode cX6_unlike 41 = .ok (.aload_n 0, 1) := by decide +kernel
theorem dX6_unlike_42 : decode cX6_unlike 42 = .ok (.getfield 22, 3) := by decide +kernel
theorem dX6_unlike_45 : decode cX6_unlike 45 = .ok (.iload_n 2, 1) := by decide +kernel
theorem dX6_unlike_46 : decode cX6_unlike 46 = .ok (.iaload, 1) := by decide +kernel
theorem dX6_unlike_47 : decode cX6_unlike 47 = .ok (.if_icmp .ne 7, 3) := by decide +kernel
theorem dX6_unlike_50 : decode cX6_unlike 50 = .ok (.iconst (-1), 1) := by decide +kernel
theorem dX6_unlike_51 : decode cX6_unlike 51 = .ok (.goto 5, 3) := by decide +kernel
theorem dX6_unlike_54 : decode cX6_unlike 54 = .ok (.iload 4, 2) := by decide +kernel
theorem dX6_unlike_56 : decode cX6_unlike 56 = .ok (.istore_n 3, 1) := by decide +kernel
theorem dX6_unlike_57 : decode cX6_unlike 57 = .ok (.iinc 4 1, 3) := by decide +kernel
theorem dX6_unlike_60 : decode cX6_unlike 60 = .ok (.goto (-51), 3) := by decide +kernel
theorem dX6_unlike_63 : decode cX6_unlike 63 = .ok (.aload_n 0, 1) := by decide +kernel
theorem dX6_unlike_64 : decode cX6_unlike 64 = .ok (.invokevirtual 220, 3) := by decide +kernel
theorem dX6_unlike_67 : decode cX6_unlike 67 = .ok (.iload_n 3, 1) := by decide +kernel
theorem dX6_unlike_68 : decode cX6_unlike 68 = .ok (.ireturn, 1) := by decide +kernel
theorem dX6_judge_0 : decode cX6_judge 0 = .ok (.aload_n 0, 1) := by decide +kernel
theorem dX6_judge_1 : decode cX6_judge 1 = .ok (.iload_n 1, 1) := by decide +kernel
theorem dX6_judge_2 : decode cX6_judge 2 = .ok (.iload_n 2, 1) := by decide +kernel
theorem dX6_judge_3 : decode cX6_judge 3 = .ok (.invokevirtual 248, 3) := by decide +kernel
theorem dX6_judge_6 : decode cX6_judge 6 = .ok (.istore_n 3, 1) := by decide +kernel
theorem dX6_judge_7 : decode cX6_judge 7 = .ok (.iload_n 3, 1) := by decide +kernel
theorem dX6_judge_8 : decode cX6_judge 8 = .ok (.ifCond .ne 12, 3) := by decide +kernel
theorem dX6_judge_11 : decode cX6_judge 11 = .ok (.aload_n 0, 1) := by decide +kernel
theorem dX6_judge_12 : decode cX6_judge 12 = .ok (.iload_n 1, 1) := by decide +kernel
theorem dX6_judge_13 : decode cX6_judge 13 = .ok (.iload_n 2, 1) := by decide +kernel
theorem dX6_judge_14 : decode cX6_judge 14 = .ok (.invokevirtual 251, 3) := by decide +kernel
theorem dX6_judge_17 : decode cX6_judge 17 = .ok (.goto 4, 3) := by decide +kernel
theorem dX6_judge_20 : decode cX6_judge 20 = .ok (.iload_n 3, 1) := by decide +kernel
theorem dX6_judge_21 : decode cX6_judge 21 = .ok (.ireturn, 1) := by decide +kernel
theorem dX6_opened_0 : decode cX6_opened 0 = .ok (.aload_n 0, 1) := by decide +kernel
theorem dX6_opened_1 : decode cX6_opened 1 = .ok (.iload_n 1, 1) := by decide +kernel
theorem dX6_opened_2 : decode cX6_opened 2 = .ok (.iload_n 2, 1) := by decide +kernel
theorem dX6_opened_3 : decode cX6_opened 3 = .ok (.invokevirtual 248, 3) := by decide +kernel
theorem dX6_opened_6 : decode cX6_opened 6 = .ok (.istore_n 3, 1) := by decide +kernel
theorem dX6_opened_7 : decode cX6_opened 7 = .ok (.iload_n 3, 1) := by decide +kernel
theorem dX6_opened_8 : decode cX6_opened 8 = .ok (.ifCond .eq 5, 3) := by decide +kernel
theorem dX6_opened_11 : decode cX6_opened 11 = .ok (.iload_n 3, 1) := by decide +kernel
theorem dX6_opened_12 : decode cX6_opened 12 = .ok (.ireturn, 1) := by decide +kernel
theorem dX6_opened_13 : decode cX6_opened 13 = .ok (.iconst 0, 1) := by decide +kernel
theorem dX6_opened_14 : decode cX6_opened 14 = .ok (.istore 4, 2) := by decide +kernel
theorem dX6_opened_16 : decode cX6_opened 16 = .ok (.iconst 0, 1) := by decide +kernel
theorem dX6_opened_17 : decode cX6_opened 17 = .ok (.istore 5, 2) := by decide +kernel
theorem dX6_opened_19 : decode cX6_opened 19 = .ok (.iload 5, 2) := by decide +kernel
theorem dX6_opened_21 : decode cX6_opened 21 = .ok (.bipush 12, 2) := by decide +kernel
theorem dX6_opened_23 : decode cX6_opened 23 = .ok (.if_icmp .ge 94, 3) := by decide +kernel
theorem dX6_opened_26 : decode cX6_opened 26 = .ok (.aload_n 0, 1) := by decide +kernel
theorem dX6_opened_27 : decode cX6_opened 27 = .ok (.getfield 19, 3) := by decide +kernel
theorem dX6_opened_30 : decode cX6_opened 30 = .ok (.iconst 4, 1) := by decide +kernel
theorem dX6_opened_31 : decode cX6_opened 31 = .ok (.iload 5, 2) := by decide +kernel
theorem dX6_opened_33 : decode cX6_opened 33 = .ok (.imul, 1) := by decide +kernel
theorem dX6_opened_34 : decode cX6_opened 34 = .ok (.iconst 3, 1) := by decide +kernel
theorem dX6_opened_35 : decode cX6_opened 35 = .ok (.iadd, 1) := by decide +kernel
theorem dX6_opened_36 : decode cX6_opened 36 = .ok (.iaload, 1) := by decide +kernel
theorem dX6_opened_37 : decode cX6_opened 37 = .ok (.iconst 1, 1) := by decide +kernel
theorem dX6_opened_38 : decode cX6_opened 38 = .ok (.if_icmp .ne 73, 3) := by decide +kernel
theorem dX6_opened_41 : decode cX6_opened 41 = .ok (.aload_n 0, 1) := by decide +kernel
theorem dX6_opened_42 : decode cX6_opened 42 = .ok (.getfield 19, 3) := by decide +kernel
theorem dX6_opened_45 : decode cX6_opened 45 = .ok (.iconst 4, 1) := by decide +kernel
theorem dX6_opened_46 : decode cX6_opened 46 = .ok (.iload 5, 2) := by decide +kernel
theorem dX6_opened_48 : decode cX6_opened 48 = .ok (.imul, 1) := by decide +kernel
theorem dX6_opened_49 : decode cX6_opened 49 = .ok (.iaload, 1) := by decide +kernel
theorem dX6_opened_50 : decode cX6_opened 50 = .ok (.istore 6, 2) := by decide +kernel
theorem dX6_opened_52 : decode cX6_opened 52 = .ok (.aload_n 0, 1) := by decide +kernel
theorem dX6_opened_53 : decode cX6_opened 53 = .ok (.getfield 22, 3) := by decide +kernel
theorem dX6_opened_56 : decode cX6_opened 56 = .ok (.iload 6, 2) := by decide +kernel
theorem dX6_opened_58 : decode cX6_opened 58 = .ok (.iaload, 1) := by decide +kernel
theorem dX6_opened_59 : decode cX6_opened 59 = .ok (.istore 7, 2) := by decide +kernel
theorem dX6_opened_61 : decode cX6_opened 61 = .ok (.aload_n 0, 1) := by decide +kernel
theorem dX6_opened_62 : decode cX6_opened 62 = .ok (.iload 5, 2) := by decide +kernel
theorem dX6_opened_64 : decode cX6_opened 64 = .ok (.invokevirtual 199, 3) := by decide +kernel
theorem dX6_opened_67 : decode cX6_opened 67 = .ok (.iload 4, 2) := by decide +kernel
theorem dX6_opened_69 : decode cX6_opened 69 = .ok (.aload_n 0, 1) := by decide +kernel
theorem dX6_opened_70 : decode cX6_opened 70 = .ok (.iload_n 1, 1) := by decide +kernel
theorem dX6_opened_71 : decode cX6_opened 71 = .ok (.iload_n 2, 1) := by decide +kernel
theorem dX6_opened_72 : decode cX6_opened 72 = .ok (.invokevirtual 251, 3) := by decide +kernel
theorem dX6_opened_75 : decode cX6_opened 75 = .ok (.iconst (-1), 1) := by decide +kernel
theorem dX6_opened_76 : decode cX6_opened 76 = .ok (.if_icmp .ne 10, 3) := by decide +kernel
theorem dX6_opened_79 : decode cX6_opened 79 = .ok (.iconst 1, 1) := by decide +kernel
theorem dX6_opened_80 : decode cX6_opened 80 = .ok (.iload 5, 2) := by decide +kernel
theorem dX6_opened_82 : decode cX6_opened 82 = .ok (.ishl, 1) := by decide +kernel
theorem dX6_opened_83 : decode cX6_opened 83 = .ok (.goto 4, 3) := by decide +kernel
theorem dX6_opened_86 : decode cX6_opened 86 = .ok (.iconst 0, 1) := by decide +kernel
theorem dX6_opened_87 : decode cX6_opened 87 = .ok (.ior, 1) := by decide +kernel
theorem dX6_opened_88 : decode cX6_opened 88 = .ok (.istore 4, 2) := by decide +kernel
theorem dX6_opened_90 : decode cX6_opened 90 = .ok (.aload_n 0, 1) := by decide +kernel
theorem dX6_opened_91 : decode cX6_opened 91 = .ok (.getfield 22, 3) := by decide +kernel
theorem dX6_opened_94 : decode cX6_opened 94 = .ok (.iload 6, 2) := by decide +kernel
theorem dX6_opened_96 : decode cX6_opened 96 = .ok (.iload 7, 2) := by decide +kernel
theorem dX6_opened_98 : decode cX6_opened 98 = .ok (.iastore, 1) := by decide +kernel
theorem dX6_opened_99 : decode cX6_opened 99 = .ok (.aload_n 0, 1) := by decide +kernel
theorem dX6_opened_100 : decode cX6_opened 100 = .ok (.getfield 19, 3) := by decide +kernel
theorem dX6_opened_103 : decode cX6_opened 103 = .ok (.iconst 4, 1) := by decide +kernel
theorem dX6_opened_104 : decode cX6_opened 104 = .ok (.iload 5, 2) := by decide +kernel
theorem dX6_opened_106 : decode cX6_opened 106 = .ok (.imul, 1) := by decide +kernel
theorem dX6_opened_107 : decode cX6_opened 107 = .ok (.iconst 3, 1) := by decide +kernel
theorem dX6_opened_108 : decode cX6_opened 108 = .ok (.iadd, 1) := by decide +kernel
theorem dX6_opened_109 : decode cX6_opened 109 = .ok (.iconst 1, 1) := by decide +kernel
theorem dX6_opened_110 : decode cX6_opened 110 = .ok (.iastore, 1) := by decide +kernel
theorem dX6_opened_111 : decode cX6_opened 111 = .ok (.iinc 5 1, 3) := by decide +kernel
theorem dX6_opened_114 : decode cX6_opened 114 = .ok (.goto (-95), 3) := by decide +kernel
theorem dX6_opened_117 : decode cX6_opened 117 = .ok (.iload 4, 2) := by decide +kernel
theorem dX6_opened_119 : decode cX6_opened 119 = .ok (.ireturn, 1) := by decide +kernel
theorem dX6_skies_0 : decode cX6_skies 0 = .ok (.aload_n 0, 1) := by decide +kernel
theorem dX6_skies_1 : decode cX6_skies 1 = .ok (.iload_n 1, 1) := by decide +kernel
theorem dX6_skies_2 : decode cX6_skies 2 = .ok (.iload_n 2, 1) := by decide +kernel
theorem dX6_skies_3 : decode cX6_skies 3 = .ok (.invokevirtual 248, 3) := by decide +kernel
theorem dX6_skies_6 : decode cX6_skies 6 = .ok (.istore 4, 2) := by decide +kernel
theorem dX6_skies_8 : decode cX6_skies 8 = .ok (.iload 4, 2) := by decide +kernel
theorem dX6_skies_10 : decode cX6_skies 10 = .ok (.ifCond .eq 6, 3) := by decide +kernel
theorem dX6_skies_13 : decode cX6_skies 13 = .ok (.iload 4, 2) := by decide +kernel
theorem dX6_skies_15 : decode cX6_skies 15 = .ok (.ireturn, 1) := by decide +kernel
theorem dX6_skies_16 : decode cX6_skies 16 = .ok (.iload_n 3, 1) := by decide +kernel
theorem dX6_skies_17 : decode cX6_skies 17 = .ok (.iconst 0, 1) := by decide +kernel
theorem dX6_skies_18 : decode cX6_skies 18 = .ok (.iconst 1, 1) := by decide +kernel
theorem dX6_skies_19 : decode cX6_skies 19 = .ok (.invokestatic 78, 3) := by decide +kernel
theorem dX6_skies_22 : decode cX6_skies 22 = .ok (.ifCond .ne 6, 3) := by decide +kernel
theorem dX6_skies_25 : decode cX6_skies 25 = .ok (.bipush (-7), 2) := by decide +kernel
theorem dX6_skies_27 : decode cX6_skies 27 = .ok (.ireturn, 1) := by decide +kernel
theorem dX6_skies_28 : decode cX6_skies 28 = .ok (.aload_n 0, 1) := by decide +kernel
theorem dX6_skies_29 : decode cX6_skies 29 = .ok (.getfield 22, 3) := by decide +kernel
theorem dX6_skies_32 : decode cX6_skies 32 = .ok (.iload_n 2, 1) := by decide +kernel
theorem dX6_skies_33 : decode cX6_skies 33 = .ok (.iaload, 1) := by decide +kernel
theorem dX6_skies_34 : decode cX6_skies 34 = .ok (.istore 5, 2) := by decide +kernel
theorem dX6_skies_36 : decode cX6_skies 36 = .ok (.iconst 0, 1) := by decide +kernel
theorem dX6_skies_37 : decode cX6_skies 37 = .ok (.istore 6, 2) := by decide +kernel
theorem dX6_skies_39 : decode cX6_skies 39 = .ok (.iconst (-1), 1) := by decide +kernel
theorem dX6_skies_40 : decode cX6_skies 40 = .ok (.istore 7, 2) := by decide +kernel
theorem dX6_skies_42 : decode cX6_skies 42 = .ok (.iconst 0, 1) := by decide +kernel
theorem dX6_skies_43 : decode cX6_skies 43 = .ok (.istore 8, 2) := by decide +kernel
theorem dX6_skies_45 : decode cX6_skies 45 = .ok (.iload 8, 2) := by decide +kernel
theorem dX6_skies_47 : decode cX6_skies 47 = .ok (.bipush 99, 2) := by decide +kernel
theorem dX6_skies_49 : decode cX6_skies 49 = .ok (.if_icmp .gt 69, 3) := by decide +kernel
theorem dX6_skies_52 : decode cX6_skies 52 = .ok (.aload_n 0, 1) := by decide +kernel
theorem dX6_skies_53 : decode cX6_skies 53 = .ok (.getfield 22, 3) := by decide +kernel
theorem dX6_skies_56 : decode cX6_skies 56 = .ok (.iload_n 2, 1) := by decide +kernel
theorem dX6_skies_57 : decode cX6_skies 57 = .ok (.iload 8, 2) := by decide +kernel
theorem dX6_skies_59 : decode cX6_skies 59 = .ok (.iastore, 1) := by decide +kernel
theorem dX6_skies_60 : decode cX6_skies 60 = .ok (.aload_n 0, 1) := by decide +kernel
theorem dX6_skies_61 : decode cX6_skies 61 = .ok (.iload_n 1, 1) := by decide +kernel
theorem dX6_skies_62 : decode cX6_skies 62 = .ok (.iload_n 2, 1) := by decide +kernel
theorem dX6_skies_63 : decode cX6_skies 63 = .ok (.invokevirtual 251, 3) := by decide +kernel
theorem dX6_skies_66 : decode cX6_skies 66 = .ok (.iconst (-1), 1) := by decide +kernel
theorem dX6_skies_67 : decode cX6_skies 67 = .ok (.if_icmp .ne 7, 3) := by decide +kernel
theorem dX6_skies_70 : decode cX6_skies 70 = .ok (.iconst 1, 1) := by decide +kernel
theorem dX6_skies_71 : decode cX6_skies 71 = .ok (.goto 4, 3) := by decide +kernel
theorem dX6_skies_74 : decode cX6_skies 74 = .ok (.iconst 0, 1) := by decide +kernel
theorem dX6_skies_75 : decode cX6_skies 75 = .ok (.istore 9, 2) := by decide +kernel
theorem dX6_skies_77 : decode cX6_skies 77 = .ok (.iload 6, 2) := by decide +kernel
theorem dX6_skies_79 : decode cX6_skies 79 = .ok (.iload 9, 2) := by decide +kernel
theorem dX6_skies_81 : decode cX6_skies 81 = .ok (.ifCond .eq 7, 3) := by decide +kernel
theorem dX6_skies_84 : decode cX6_skies 84 = .ok (.iconst 1, 1) := by decide +kernel
theorem dX6_skies_85 : decode cX6_skies 85 = .ok (.goto 4, 3) := by decide +kernel
theorem dX6_skies_88 : decode cX6_skies 88 = .ok (.iconst 0, 1) := by decide +kernel
theorem dX6_skies_89 : decode cX6_skies 89 = .ok (.iadd, 1) := by decide +kernel
theorem dX6_skies_90 : decode cX6_skies 90 = .ok (.istore 6, 2) := by decide +kernel
theorem dX6_skies_92 : decode cX6_skies 92 = .ok (.iload 9, 2) := by decide +kernel
theorem dX6_skies_94 : decode cX6_skies 94 = .ok (.ifCond .eq 14, 3) := by decide +kernel
theorem dX6_skies_97 : decode cX6_skies 97 = .ok (.iload 7, 2) := by decide +kernel
theorem dX6_skies_99 : decode cX6_skies 99 = .ok (.iconst (-1), 1) := by decide +kernel
theorem dX6_skies_100 : decode cX6_skies 100 = .ok (.if_icmp .ne 8, 3) := by decide +kernel
theorem dX6_skies_103 : decode cX6_skies 103 = .ok (.iload 8, 2) := by decide +kernel
theorem dX6_skies_105 : decode cX6_skies 105 = .ok (.goto 5, 3) := by decide +kernel
theorem dX6_skies_108 : decode cX6_skies 108 = .ok (.iload 7, 2) := by decide +kernel
theorem dX6_skies_110 : decode cX6_skies 110 = .ok (.istore 7, 2) := by decide +kernel
theorem dX6_skies_112 : decode cX6_skies 112 = .ok (.iinc 8 1, 3) := by decide +kernel
theorem dX6_skies_115 : decode cX6_skies 115 = .ok (.goto (-70), 3) := by decide +kernel
theorem dX6_skies_118 : decode cX6_skies 118 = .ok (.aload_n 0, 1) := by decide +kernel
theorem dX6_skies_119 : decode cX6_skies 119 = .ok (.getfield 22, 3) := by decide +kernel
theorem dX6_skies_122 : decode cX6_skies 122 = .ok (.iload_n 2, 1) := by decide +kernel
theorem dX6_skies_123 : decode cX6_skies 123 = .ok (.iload 5, 2) := by decide +kernel
theorem dX6_skies_125 : decode cX6_skies 125 = .ok (.iastore, 1) := by decide +kernel
theorem dX6_skies_126 : decode cX6_skies 126 = .ok (.iload_n 3, 1) := by decide +kernel
theorem dX6_skies_127 : decode cX6_skies 127 = .ok (.ifCond .ne 8, 3) := by decide +kernel
theorem dX6_skies_130 : decode cX6_skies 130 = .ok (.iload 6, 2) := by decide +kernel
theorem dX6_skies_132 : decode cX6_skies 132 = .ok (.goto 5, 3) := by decide +kernel
theorem dX6_skies_135 : decode cX6_skies 135 = .ok (.iload 7, 2) := by decide +kernel
theorem dX6_skies_137 : decode cX6_skies 137 = .ok (.ireturn, 1) := by decide +kernel
theorem dX6_whose_0 : decode cX6_whose 0 = .ok (.aload_n 0, 1) := by decide +kernel
theorem dX6_whose_1 : decode cX6_whose 1 = .ok (.iload_n 1, 1) := by decide +kernel
theorem dX6_whose_2 : decode cX6_whose 2 = .ok (.bipush 20, 2) := by decide +kernel
theorem dX6_whose_4 : decode cX6_whose 4 = .ok (.invokevirtual 245, 3) := by decide +kernel
theorem dX6_whose_7 : decode cX6_whose 7 = .ok (.istore_n 2, 1) := by decide +kernel
theorem dX6_whose_8 : decode cX6_whose 8 = .ok (.iload_n 2, 1) := by decide +kernel
theorem dX6_whose_9 : decode cX6_whose 9 = .ok (.ifCond .eq 5, 3) := by decide +kernel
theorem dX6_whose_12 : decode cX6_whose 12 = .ok (.iload_n 2, 1) := by decide +kernel
theorem dX6_whose_13 : decode cX6_whose 13 = .ok (.ireturn, 1) := by decide +kernel
theorem dX6_whose_14 : decode cX6_whose 14 = .ok (.iconst 0, 1) := by decide +kernel
theorem dX6_whose_15 : decode cX6_whose 15 = .ok (.istore_n 3, 1) := by decide +kernel
theorem dX6_whose_16 : decode cX6_whose 16 = .ok (.iconst 0, 1) := by decide +kernel
theorem dX6_whose_17 : decode cX6_whose 17 = .ok (.istore 4, 2) := by decide +kernel
theorem dX6_whose_19 : decode cX6_whose 19 = .ok (.iload 4, 2) := by decide +kernel
theorem dX6_whose_21 : decode cX6_whose 21 = .ok (.bipush 6, 2) := by decide +kernel
theorem dX6_whose_23 : decode cX6_whose 23 = .ok (.if_icmp .ge 31, 3) := by decide +kernel
theorem dX6_whose_26 : decode cX6_whose 26 = .ok (.iload_n 3, 1) := by decide +kernel
theorem dX6_whose_27 : decode cX6_whose 27 = .ok (.aload_n 0, 1) := by decide +kernel
theorem dX6_whose_28 : decode cX6_whose 28 = .ok (.iload_n 1, 1) := by decide +kernel
theorem dX6_whose_29 : decode cX6_whose 29 = .ok (.iload 4, 2) := by decide +kernel
theorem dX6_whose_31 : decode cX6_whose 31 = .ok (.invokevirtual 251, 3) := by decide +kernel
theorem dX6_whose_34 : decode cX6_whose 34 = .ok (.iconst (-1), 1) := by decide +kernel
theorem dX6_whose_35 : decode cX6_whose 35 = .ok (.if_icmp .ne 10, 3) := by decide +kernel
theorem dX6_whose_38 : decode cX6_whose 38 = .ok (.iconst 1, 1) := by decide +kernel
theorem dX6_whose_39 : decode cX6_whose 39 = .ok (.iload 4, 2) := by decide +kernel
theorem dX6_whose_41 : decode cX6_whose 41 = .ok (.ishl, 1) := by decide +kernel
theorem dX6_whose_42 : decode cX6_whose 42 = .ok (.goto 4, 3) := by decide +kernel
theorem dX6_whose_45 : decode cX6_whose 45 = .ok (.iconst 0, 1) := by decide +kernel
theorem dX6_whose_46 : decode cX6_whose 46 = .ok (.ior, 1) := by decide +kernel
theorem dX6_whose_47 : decode cX6_whose 47 = .ok (.istore_n 3, 1) := by decide +kernel
theorem dX6_whose_48 : decode cX6_whose 48 = .ok (.iinc 4 1, 3) := by decide +kernel
theorem dX6_whose_51 : decode cX6_whose 51 = .ok (.goto (-32), 3) := by decide +kernel
theorem dX6_whose_54 : decode cX6_whose 54 = .ok (.iload_n 3, 1) := by decide +kernel
theorem dX6_whose_55 : decode cX6_whose 55 = .ok (.ireturn, 1) := by decide +kernel
theorem dX6_laws_0 : decode cX6_laws 0 = .ok (.aload_n 0, 1) := by decide +kernel
theorem dX6_laws_1 : decode cX6_laws 1 = .ok (.iload_n 1, 1) := by decide +kernel
theorem dX6_laws_2 : decode cX6_laws 2 = .ok (.iload_n 2, 1) := by decide +kernel
theorem dX6_laws_3 : decode cX6_laws 3 = .ok (.invokevirtual 248, 3) := by decide +kernel
theorem dX6_laws_6 : decode cX6_laws 6 = .ok (.istore_n 3, 1) := by decide +kernel
theorem dX6_laws_7 : decode cX6_laws 7 = .ok (.iload_n 3, 1) := by decide +kernel
theorem dX6_laws_8 : decode cX6_laws 8 = .ok (.ifCond .eq 5, 3) := by decide +kernel
theorem dX6_laws_11 : decode cX6_laws 11 = .ok (.iload_n 3, 1) := by decide +kernel
theorem dX6_laws_12 : decode cX6_laws 12 = .ok (.ireturn, 1) := by decide +kernel
theorem dX6_laws_13 : decode cX6_laws 13 = .ok (.aload_n 0, 1) := by decide +kernel
theorem dX6_laws_14 : decode cX6_laws 14 = .ok (.getfield 95, 3) := by decide +kernel
theorem dX6_laws_17 : decode cX6_laws 17 = .ok (.istore 4, 2) := by decide +kernel
theorem dX6_laws_19 : decode cX6_laws 19 = .ok (.iconst 0, 1) := by decide +kernel
theorem dX6_laws_20 : decode cX6_laws 20 = .ok (.istore 5, 2) := by decide +kernel
theorem dX6_laws_22 : decode cX6_laws 22 = .ok (.iconst 0, 1) := by decide +kernel
theorem dX6_laws_23 : decode cX6_laws 23 = .ok (.istore 6, 2) := by decide +kernel
theorem dX6_laws_25 : decode cX6_laws 25 = .ok (.iload 6, 2) := by decide +kernel
theorem dX6_laws_27 : decode cX6_laws 27 = .ok (.aload_n 0, 1) := by decide +kernel
theorem dX6_laws_28 : decode cX6_laws 28 = .ok (.getfield 92, 3) := by decide +kernel
theorem dX6_laws_31 : decode cX6_laws 31 = .ok (.if_icmp .ge 38, 3) := by decide +kernel
theorem dX6_laws_34 : decode cX6_laws 34 = .ok (.aload_n 0, 1) := by decide +kernel
theorem dX6_laws_35 : decode cX6_laws 35 = .ok (.iload 6, 2) := by decide +kernel
theorem dX6_laws_37 : decode cX6_laws 37 = .ok (.putfield 95, 3) := by decide +kernel
theorem dX6_laws_40 : decode cX6_laws 40 = .ok (.iload 5, 2) := by decide +kernel
theorem dX6_laws_42 : decode cX6_laws 42 = .ok (.aload_n 0, 1) := by decide +kernel
theorem dX6_laws_43 : decode cX6_laws 43 = .ok (.iload_n 1, 1) := by decide +kernel
theorem dX6_laws_44 : decode cX6_laws 44 = .ok (.iload_n 2, 1) := by decide +kernel
theorem dX6_laws_45 : decode cX6_laws 45 = .ok (.invokevirtual 251, 3) := by decide +kernel
theorem dX6_laws_48 : decode cX6_laws 48 = .ok (.iconst (-1), 1) := by decide +kernel
theorem dX6_laws_49 : decode cX6_laws 49 = .ok (.if_icmp .ne 10, 3) := by decide +kernel
theorem dX6_laws_52 : decode cX6_laws 52 = .ok (.iconst 1, 1) := by decide +kernel
theorem dX6_laws_53 : decode cX6_laws 53 = .ok (.iload 6, 2) := by decide +kernel
theorem dX6_laws_55 : decode cX6_laws 55 = .ok (.ishl, 1) := by decide +kernel
theorem dX6_laws_56 : decode cX6_laws 56 = .ok (.goto 4, 3) := by decide +kernel
theorem dX6_laws_59 : decode cX6_laws 59 = .ok (.iconst 0, 1) := by decide +kernel
theorem dX6_laws_60 : decode cX6_laws 60 = .ok (.ior, 1) := by decide +kernel
theorem dX6_laws_61 : decode cX6_laws 61 = .ok (.istore 5, 2) := by decide +kernel
theorem dX6_laws_63 : decode cX6_laws 63 = .ok (.iinc 6 1, 3) := by decide +kernel
theorem dX6_laws_66 : decode cX6_laws 66 = .ok (.goto (-41), 3) := by decide +kernel
theorem dX6_laws_69 : decode cX6_laws 69 = .ok (.aload_n 0, 1) := by decide +kernel
theorem dX6_laws_70 : decode cX6_laws 70 = .ok (.iload 4, 2) := by decide +kernel
theorem dX6_laws_72 : decode cX6_laws 72 = .ok (.putfield 95, 3) := by decide +kernel
theorem dX6_laws_75 : decode cX6_laws 75 = .ok (.iload 5, 2) := by decide +kernel
theorem dX6_laws_77 : decode cX6_laws 77 = .ok (.ireturn, 1) := by decide +kernel
theorem dX6_film_0 : decode cX6_film 0 = .ok (.iload_n 1, 1) := by decide +kernel
theorem dX6_film_1 : decode cX6_film 1 = .ok (.iconst 0, 1) := by decide +kernel
theorem dX6_film_2 : decode cX6_film 2 = .ok (.iconst 3, 1) := by decide +kernel
theorem dX6_film_3 : decode cX6_film 3 = .ok (.invokestatic 78, 3) := by decide +kernel
theorem dX6_film_6 : decode cX6_film 6 = .ok (.ifCond .ne 6, 3) := by decide +kernel
theorem dX6_film_9 : decode cX6_film 9 = .ok (.bipush (-2), 2) := by decide +kernel
theorem dX6_film_11 : decode cX6_film 11 = .ok (.ireturn, 1) := by decide +kernel
theorem dX6_film_12 : decode cX6_film 12 = .ok (.iload_n 2, 1) := by decide +kernel
theorem dX6_film_13 : decode cX6_film 13 = .ok (.invokestatic 170, 3) := by decide +kernel
theorem dX6_film_16 : decode cX6_film 16 = .ok (.ifCond .ne 6, 3) := by decide +kernel
theorem dX6_film_19 : decode cX6_film 19 = .ok (.bipush (-5), 2) := by decide +kernel
theorem dX6_film_21 : decode cX6_film 21 = .ok (.ireturn, 1) := by decide +kernel
theorem dX6_film_22 : decode cX6_film 22 = .ok (.iload_n 3, 1) := by decide +kernel
theorem dX6_film_23 : decode cX6_film 23 = .ok (.iconst 0, 1) := by decide +kernel
theorem dX6_film_24 : decode cX6_film 24 = .ok (.bipush 20, 2) := by decide +kernel
theorem dX6_film_26 : decode cX6_film 26 = .ok (.invokestatic 78, 3) := by decide +kernel
theorem dX6_film_29 : decode cX6_film 29 = .ok (.ifCond .ne 6, 3) := by decide +kernel
theorem dX6_film_32 : decode cX6_film 32 = .ok (.bipush (-7), 2) := by decide +kernel
theorem dX6_film_34 : decode cX6_film 34 = .ok (.ireturn, 1) := by decide +kernel
theorem dX6_film_35 : decode cX6_film 35 = .ok (.aload_n 0, 1) := by decide +kernel
theorem dX6_film_36 : decode cX6_film 36 = .ok (.getfield 40, 3) := by decide +kernel
theorem dX6_film_39 : decode cX6_film 39 = .ok (.iload_n 1, 1) := by decide +kernel
theorem dX6_film_40 : decode cX6_film 40 = .ok (.iconst 0, 1) := by decide +kernel
theorem dX6_film_41 : decode cX6_film 41 = .ok (.iastore, 1) := by decide +kernel
theorem dX6_film_42 : decode cX6_film 42 = .ok (.aload_n 0, 1) := by decide +kernel
theorem dX6_film_43 : decode cX6_film 43 = .ok (.getfield 43, 3) := by decide +kernel
theorem dX6_film_46 : decode cX6_film 46 = .ok (.iload_n 1, 1) := by decide +kernel
theorem dX6_film_47 : decode cX6_film 47 = .ok (.iload_n 3, 1) := by decide +kernel
theorem dX6_film_48 : decode cX6_film 48 = .ok (.iastore, 1) := by decide +kernel
theorem dX6_film_49 : decode cX6_film 49 = .ok (.aload_n 0, 1) := by decide +kernel
theorem dX6_film_50 : decode cX6_film 50 = .ok (.invokevirtual 214, 3) := by decide +kernel
theorem dX6_film_53 : decode cX6_film 53 = .ok (.iconst 0, 1) := by decide +kernel
theorem dX6_film_54 : decode cX6_film 54 = .ok (.istore 4, 2) := by decide +kernel
theorem dX6_film_56 : decode cX6_film 56 = .ok (.iload 4, 2) := by decide +kernel
theorem dX6_film_58 : decode cX6_film 58 = .ok (.bipush 40, 2) := by decide +kernel
theorem dX6_film_60 : decode cX6_film 60 = .ok (.if_icmp .ge 50, 3) := by decide +kernel
theorem dX6_film_63 : decode cX6_film 63 = .ok (.aload_n 0, 1) := by decide +kernel
theorem dX6_film_64 : decode cX6_film 64 = .ok (.getfield 46, 3) := by decide +kernel
theorem dX6_film_67 : decode cX6_film 67 = .ok (.bipush 40, 2) := by decide +kernel
theorem dX6_film_69 : decode cX6_film 69 = .ok (.iload_n 1, 1) := by decide +kernel
theorem dX6_film_70 : decode cX6_film 70 = .ok (.imul, 1) := by decide +kernel
theorem dX6_film_71 : decode cX6_film 71 = .ok (.iload 4, 2) := by decide +kernel
theorem dX6_film_73 : decode cX6_film 73 = .ok (.iadd, 1) := by decide +kernel
theorem dX6_film_74 : decode cX6_film 74 = .ok (.iconst 0, 1) := by decide +kernel
theorem dX6_film_75 : decode cX6_film 75 = .ok (.iastore, 1) := by decide +kernel
theorem dX6_film_76 : decode cX6_film 76 = .ok (.iload 4, 2) := by decide +kernel
theorem dX6_film_78 : decode cX6_film 78 = .ok (.iload_n 3, 1) := by decide +kernel
theorem dX6_film_79 : decode cX6_film 79 = .ok (.if_icmp .ge 25, 3) := by decide +kernel
theorem dX6_film_82 : decode cX6_film 82 = .ok (.aload_n 0, 1) := by decide +kernel
theorem dX6_film_83 : decode cX6_film 83 = .ok (.invokevirtual 202, 3) := by decide +kernel
theorem dX6_film_86 : decode cX6_film 86 = .ok (.aload_n 0, 1) := by decide +kernel
theorem dX6_film_87 : decode cX6_film 87 = .ok (.getfield 46, 3) := by decide +kernel
theorem dX6_film_90 : decode cX6_film 90 = .ok (.bipush 40, 2) := by decide +kernel
theorem dX6_film_92 : decode cX6_film 92 = .ok (.iload_n 1, 1) := by decide +kernel
theorem dX6_film_93 : decode cX6_film 93 = .ok (.imul, 1) := by decide +kernel
theorem dX6_film_94 : decode cX6_film 94 = .ok (.iload 4, 2) := by decide +kernel
theorem dX6_film_96 : decode cX6_film 96 = .ok (.iadd, 1) := by decide +kernel
theorem dX6_film_97 : decode cX6_film 97 = .ok (.aload_n 0, 1) := by decide +kernel
theorem dX6_film_98 : decode cX6_film 98 = .ok (.getfield 22, 3) := by decide +kernel
theorem dX6_film_101 : decode cX6_film 101 = .ok (.iload_n 2, 1) := by decide +kernel
theorem dX6_film_102 : decode cX6_film 102 = .ok (.iaload, 1) := by decide +kernel
theorem dX6_film_103 : decode cX6_film 103 = .ok (.iastore, 1) := by decide +kernel
theorem dX6_film_104 : decode cX6_film 104 = .ok (.iinc 4 1, 3) := by decide +kernel
theorem dX6_film_107 : decode cX6_film 107 = .ok (.goto (-51), 3) := by decide +kernel
theorem dX6_film_110 : decode cX6_film 110 = .ok (.aload_n 0, 1) := by decide +kernel
theorem dX6_film_111 : decode cX6_film 111 = .ok (.invokevirtual 220, 3) := by decide +kernel
theorem dX6_film_114 : decode cX6_film 114 = .ok (.iload_n 3, 1) := by decide +kernel
theorem dX6_film_115 : decode cX6_film 115 = .ok (.ireturn, 1) := by decide +kernel
theorem dX6_divesWrong_0 : decode cX6_divesWrong 0 = .ok (.aload_n 0, 1) := by decide +kernel
theorem dX6_divesWrong_1 : decode cX6_divesWrong 1 = .ok (.iload_n 1, 1) := by decide +kernel
theorem dX6_divesWrong_2 : decode cX6_divesWrong 2 = .ok (.bipush 12, 2) := by decide +kernel
theorem dX6_divesWrong_4 : decode cX6_divesWrong 4 = .ok (.invokevirtual 245, 3) := by decide +kernel
theorem dX6_divesWrong_7 : decode cX6_divesWrong 7 = .ok (.istore_n 3, 1) := by decide +kernel
theorem dX6_divesWrong_8 : decode cX6_divesWrong 8 = .ok (.iload_n 3, 1) := by decide +kernel
theorem dX6_divesWrong_9 : decode cX6_divesWrong 9 = .ok (.ifCond .eq 7, 3) := by decide +kernel
theorem dX6_divesWrong_12 : decode cX6_divesWrong 12 = .ok (.iload_n 3, 1) := by decide +kernel
theorem dX6_divesWrong_13 : decode cX6_divesWrong 13 = .ok (.goto 17, 3) := by decide +kernel
theorem dX6_divesWrong_16 : decode cX6_divesWrong 16 = .ok (.aload_n 0, 1) := by decide +kernel
theorem dX6_divesWrong_17 : decode cX6_divesWrong 17 = .ok (.iload_n 2, 1) := by decide +kernel
theorem dX6_divesWrong_18 : decode cX6_divesWrong 18 = .ok (.invokevirtual 173, 3) := by decide +kernel
theorem dX6_divesWrong_21 : decode cX6_divesWrong 21 = .ok (.ifCond .eq 7, 3) := by decide +kernel
theorem dX6_divesWrong_24 : decode cX6_divesWrong 24 = .ok (.iconst 0, 1) := by decide +kernel
theorem dX6_divesWrong_25 : decode cX6_divesWrong 25 = .ok (.goto 5, 3) := by decide +kernel
theorem dX6_divesWrong_28 : decode cX6_divesWrong 28 = .ok (.bipush (-5), 2) := by decide +kernel
theorem dX6_divesWrong_30 : decode cX6_divesWrong 30 = .ok (.ireturn, 1) := by decide +kernel
theorem dX6_divesSo_0 : decode cX6_divesSo 0 = .ok (.iconst 0, 1) := by decide +kernel
theorem dX6_divesSo_1 : decode cX6_divesSo 1 = .ok (.istore_n 3, 1) := by decide +kernel
theorem dX6_divesSo_2 : decode cX6_divesSo 2 = .ok (.iload_n 3, 1) := by decide +kernel
theorem dX6_divesSo_3 : decode cX6_divesSo 3 = .ok (.aload_n 0, 1) := by decide +kernel
theorem dX6_divesSo_4 : decode cX6_divesSo 4 = .ok (.getfield 43, 3) := by decide +kernel
theorem dX6_divesSo_7 : decode cX6_divesSo 7 = .ok (.iload_n 1, 1) := by decide +kernel
theorem dX6_divesSo_8 : decode cX6_divesSo 8 = .ok (.iaload, 1) := by decide +kernel
theorem dX6_divesSo_9 : decode cX6_divesSo 9 = .ok (.if_icmp .ge 45, 3) := by decide +kernel
theorem dX6_divesSo_12 : decode cX6_divesSo 12 = .ok (.iload_n 3, 1) := by decide +kernel
theorem dX6_divesSo_13 : decode cX6_divesSo 13 = .ok (.bipush 12, 2) := by decide +kernel
theorem dX6_divesSo_15 : decode cX6_divesSo 15 = .ok (.if_icmp .ge 39, 3) := by decide +kernel
theorem dX6_divesSo_18 : decode cX6_divesSo 18 = .ok (.aload_n 0, 1) := by decide +kernel
theorem dX6_divesSo_19 : decode cX6_divesSo 19 = .ok (.getfield 46, 3) := by decide +kernel
theorem dX6_divesSo_22 : decode cX6_divesSo 22 = .ok (.bipush 40, 2) := by decide +kernel
theorem dX6_divesSo_24 : decode cX6_divesSo 24 = .ok (.iload_n 1, 1) := by decide +kernel
theorem dX6_divesSo_25 : decode cX6_divesSo 25 = .ok (.imul, 1) := by decide +kernel
theorem dX6_divesSo_26 : decode cX6_divesSo 26 = .ok (.iload_n 3, 1) := by decide +kernel
theorem dX6_divesSo_27 : decode cX6_divesSo 27 = .ok (.iadd, 1) := by decide +kernel
theorem dX6_divesSo_28 : decode cX6_divesSo 28 = .ok (.iaload, 1) := by decide +kernel
theorem dX6_divesSo_29 : decode cX6_divesSo 29 = .ok (.aload_n 0, 1) := by decide +kernel
theorem dX6_divesSo_30 : decode cX6_divesSo 30 = .ok (.iload_n 2, 1) := by decide +kernel
theorem dX6_divesSo_31 : decode cX6_divesSo 31 = .ok (.iload_n 3, 1) := by decide +kernel
theorem dX6_divesSo_32 : decode cX6_divesSo 32 = .ok (.invokevirtual 185, 3) := by decide +kernel
theorem dX6_divesSo_35 : decode cX6_divesSo 35 = .ok (.ifCond .eq 7, 3) := by decide +kernel
theorem dX6_divesSo_38 : decode cX6_divesSo 38 = .ok (.iconst 1, 1) := by decide +kernel
theorem dX6_divesSo_39 : decode cX6_divesSo 39 = .ok (.goto 4, 3) := by decide +kernel
theorem dX6_divesSo_42 : decode cX6_divesSo 42 = .ok (.iconst 0, 1) := by decide +kernel
theorem dX6_divesSo_43 : decode cX6_divesSo 43 = .ok (.if_icmp .eq 5, 3) := by decide +kernel
theorem dX6_divesSo_46 : decode cX6_divesSo 46 = .ok (.iconst 0, 1) := by decide +kernel
theorem dX6_divesSo_47 : decode cX6_divesSo 47 = .ok (.ireturn, 1) := by decide +kernel
theorem dX6_divesSo_48 : decode cX6_divesSo 48 = .ok (.iinc 3 1, 3) := by decide +kernel
theorem dX6_divesSo_51 : decode cX6_divesSo 51 = .ok (.goto (-49), 3) := by decide +kernel
theorem dX6_divesSo_54 : decode cX6_divesSo 54 = .ok (.iconst 1, 1) := by decide +kernel
theorem dX6_divesSo_55 : decode cX6_divesSo 55 = .ok (.ireturn, 1) := by decide +kernel
theorem dX6_kinds_0 : decode cX6_kinds 0 = .ok (.aload_n 0, 1) := by decide +kernel
theorem dX6_kinds_1 : decode cX6_kinds 1 = .ok (.iload_n 1, 1) := by decide +kernel
theorem dX6_kinds_2 : decode cX6_kinds 2 = .ok (.iload_n 2, 1) := by decide +kernel
theorem dX6_kinds_3 : decode cX6_kinds 3 = .ok (.invokevirtual 254, 3) := by decide +kernel
theorem dX6_kinds_6 : decode cX6_kinds 6 = .ok (.istore 4, 2) := by decide +kernel
theorem dX6_kinds_8 : decode cX6_kinds 8 = .ok (.iload 4, 2) := by decide +kernel
theorem dX6_kinds_10 : decode cX6_kinds 10 = .ok (.ifCond .eq 6, 3) := by decide +kernel
theorem dX6_kinds_13 : decode cX6_kinds 13 = .ok (.iload 4, 2) := by decide +kernel
theorem dX6_kinds_15 : decode cX6_kinds 15 = .ok (.ireturn, 1) := by decide +kernel
theorem dX6_kinds_16 : decode cX6_kinds 16 = .ok (.iload_n 3, 1) := by decide +kernel
theorem dX6_kinds_17 : decode cX6_kinds 17 = .ok (.iconst 0, 1) := by decide +kernel
theorem dX6_kinds_18 : decode cX6_kinds 18 = .ok (.iconst 1, 1) := by decide +kernel
theorem dX6_kinds_19 : decode cX6_kinds 19 = .ok (.invokestatic 78, 3) := by decide +kernel
theorem dX6_kinds_22 : decode cX6_kinds 22 = .ok (.ifCond .ne 6, 3) := by decide +kernel
theorem dX6_kinds_25 : decode cX6_kinds 25 = .ok (.bipush (-7), 2) := by decide +kernel
theorem dX6_kinds_27 : decode cX6_kinds 27 = .ok (.ireturn, 1) := by decide +kernel
theorem dX6_kinds_28 : decode cX6_kinds 28 = .ok (.aload_n 0, 1) := by decide +kernel
theorem dX6_kinds_29 : decode cX6_kinds 29 = .ok (.getfield 7, 3) := by decide +kernel
theorem dX6_kinds_32 : decode cX6_kinds 32 = .ok (.iload_n 2, 1) := by decide +kernel
theorem dX6_kinds_33 : decode cX6_kinds 33 = .ok (.iaload, 1) := by decide +kernel
theorem dX6_kinds_34 : decode cX6_kinds 34 = .ok (.istore 5, 2) := by decide +kernel
theorem dX6_kinds_36 : decode cX6_kinds 36 = .ok (.aload_n 0, 1) := by decide +kernel
theorem dX6_kinds_37 : decode cX6_kinds 37 = .ok (.getfield 13, 3) := by decide +kernel
theorem dX6_kinds_40 : decode cX6_kinds 40 = .ok (.iload_n 2, 1) := by decide +kernel
theorem dX6_kinds_41 : decode cX6_kinds 41 = .ok (.iaload, 1) := by decide +kernel
theorem dX6_kinds_42 : decode cX6_kinds 42 = .ok (.istore 6, 2) := by decide +kernel
theorem dX6_kinds_44 : decode cX6_kinds 44 = .ok (.iconst 0, 1) := by decide +kernel
theorem dX6_kinds_45 : decode cX6_kinds 45 = .ok (.istore 7, 2) := by decide +kernel
theorem dX6_kinds_47 : decode cX6_kinds 47 = .ok (.iconst 0, 1) := by decide +kernel
theorem dX6_kinds_48 : decode cX6_kinds 48 = .ok (.istore 8, 2) := by decide +kernel
theorem dX6_kinds_50 : decode cX6_kinds 50 = .ok (.iload 8, 2) := by decide +kernel
theorem dX6_kinds_52 : decode cX6_kinds 52 = .ok (.iload_n 3, 1) := by decide +kernel
theorem dX6_kinds_53 : decode cX6_kinds 53 = .ok (.ifCond .ne 8, 3) := by decide +kernel
theorem dX6_kinds_56 : decode cX6_kinds 56 = .ok (.bipush 6, 2) := by decide +kernel
theorem dX6_kinds_58 : decode cX6_kinds 58 = .ok (.goto 5, 3) := by decide +kernel
theorem dX6_kinds_61 : decode cX6_kinds 61 = .ok (.bipush 10, 2) := by decide +kernel
theorem dX6_kinds_63 : decode cX6_kinds 63 = .ok (.if_icmp .ge 66, 3) := by decide +kernel
theorem dX6_kinds_66 : decode cX6_kinds 66 = .ok (.aload_n 0, 1) := by decide +kernel
theorem dX6_kinds_67 : decode cX6_kinds 67 = .ok (.getfield 7, 3) := by decide +kernel
theorem dX6_kinds_70 : decode cX6_kinds 70 = .ok (.iload_n 2, 1) := by decide +kernel
theorem dX6_kinds_71 : decode cX6_kinds 71 = .ok (.iload_n 3, 1) := by decide +kernel
theorem dX6_kinds_72 : decode cX6_kinds 72 = .ok (.ifCond .ne 8, 3) := by decide +kernel
theorem dX6_kinds_75 : decode cX6_kinds 75 = .ok (.iload 8, 2) := by decide +kernel
theorem dX6_kinds_77 : decode cX6_kinds 77 = .ok (.goto 5, 3) := by decide +kernel
theorem dX6_kinds_80 : decode cX6_kinds 80 = .ok (.iload 5, 2) := by decide +kernel
theorem dX6_kinds_82 : decode cX6_kinds 82 = .ok (.iastore, 1) := by decide +kernel
theorem dX6_kinds_83 : decode cX6_kinds 83 = .ok (.aload_n 0, 1) := by decide +kernel
theorem dX6_kinds_84 : decode cX6_kinds 84 = .ok (.getfield 13, 3) := by decide +kernel
theorem dX6_kinds_87 : decode cX6_kinds 87 = .ok (.iload_n 2, 1) := by decide +kernel
theorem dX6_kinds_88 : decode cX6_kinds 88 = .ok (.iload_n 3, 1) := by decide +kernel
theorem dX6_kinds_89 : decode cX6_kinds 89 = .ok (.iconst 1, 1) := by decide +kernel
theorem dX6_kinds_90 : decode cX6_kinds 90 = .ok (.if_icmp .ne 8, 3) := by decide +kernel
theorem dX6_kinds_93 : decode cX6_kinds 93 = .ok (.iload 8, 2) := by decide +kernel
theorem dX6_kinds_95 : decode cX6_kinds 95 = .ok (.goto 5, 3) := by decide +kernel
theorem dX6_kinds_98 : decode cX6_kinds 98 = .ok (.iload 6, 2) := by decide +kernel
theorem dX6_kinds_100 : decode cX6_kinds 100 = .ok (.iastore, 1) := by decide +kernel
theorem dX6_kinds_101 : decode cX6_kinds 101 = .ok (.iload 7, 2) := by decide +kernel
theorem dX6_kinds_103 : decode cX6_kinds 103 = .ok (.aload_n 0, 1) := by decide +kernel
theorem dX6_kinds_104 : decode cX6_kinds 104 = .ok (.iload_n 1, 1) := by decide +kernel
theorem dX6_kinds_105 : decode cX6_kinds 105 = .ok (.iload_n 2, 1) := by decide +kernel
theorem dX6_kinds_106 : decode cX6_kinds 106 = .ok (.invokevirtual 257, 3) := by decide +kernel
theorem dX6_kinds_109 : decode cX6_kinds 109 = .ok (.ifCond .eq 10, 3) := by decide +kernel
theorem dX6_kinds_112 : decode cX6_kinds 112 = .ok (.iconst 1, 1) := by decide +kernel
theorem dX6_kinds_113 : decode cX6_kinds 113 = .ok (.iload 8, 2) := by decide +kernel
theorem dX6_kinds_115 : decode cX6_kinds 115 = .ok (.ishl, 1) := by decide +kernel
theorem dX6_kinds_116 : decode cX6_kinds 116 = .ok (.goto 4, 3) := by decide +kernel
theorem dX6_kinds_119 : decode cX6_kinds 119 = .ok (.iconst 0, 1) := by decide +kernel
theorem dX6_kinds_120 : decode cX6_kinds 120 = .ok (.ior, 1) := by decide +kernel
theorem dX6_kinds_121 : decode cX6_kinds 121 = .ok (.istore 7, 2) := by decide +kernel
theorem dX6_kinds_123 : decode cX6_kinds 123 = .ok (.iinc 8 1, 3) := by decide +kernel
theorem dX6_kinds_126 : decode cX6_kinds 126 = .ok (.goto (-76), 3) := by decide +kernel
theorem dX6_kinds_129 : decode cX6_kinds 129 = .ok (.aload_n 0, 1) := by decide +kernel
theorem dX6_kinds_130 : decode cX6_kinds 130 = .ok (.getfield 7, 3) := by decide +kernel
theorem dX6_kinds_133 : decode cX6_kinds 133 = .ok (.iload_n 2, 1) := by decide +kernel
theorem dX6_kinds_134 : decode cX6_kinds 134 = .ok (.iload 5, 2) := by decide +kernel
theorem dX6_kinds_136 : decode cX6_kinds 136 = .ok (.iastore, 1) := by decide +kernel
theorem dX6_kinds_137 : decode cX6_kinds 137 = .ok (.aload_n 0, 1) := by decide +kernel
theorem dX6_kinds_138 : decode cX6_kinds 138 = .ok (.getfield 13, 3) := by decide +kernel
theorem dX6_kinds_141 : decode cX6_kinds 141 = .ok (.iload_n 2, 1) := by decide +kernel
theorem dX6_kinds_142 : decode cX6_kinds 142 = .ok (.iload 6, 2) := by decide +kernel
theorem dX6_kinds_144 : decode cX6_kinds 144 = .ok (.iastore, 1) := by decide +kernel
theorem dX6_kinds_145 : decode cX6_kinds 145 = .ok (.iload 7, 2) := by decide +kernel
theorem dX6_kinds_147 : decode cX6_kinds 147 = .ok (.ireturn, 1) := by decide +kernel
theorem dX6_breaths_0 : decode cX6_breaths 0 = .ok (.aload_n 0, 1) := by decide +kernel
theorem dX6_breaths_1 : decode cX6_breaths 1 = .ok (.iload_n 1, 1) := by decide +kernel
theorem dX6_breaths_2 : decode cX6_breaths 2 = .ok (.iload_n 2, 1) := by decide +kernel
theorem dX6_breaths_3 : decode cX6_breaths 3 = .ok (.invokevirtual 254, 3) := by decide +kernel
theorem dX6_breaths_6 : decode cX6_breaths 6 = .ok (.istore 4, 2) := by decide +kernel
theorem dX6_breaths_8 : decode cX6_breaths 8 = .ok (.iload 4, 2) := by decide +kernel
theorem dX6_breaths_10 : decode cX6_breaths 10 = .ok (.ifCond .eq 6, 3) := by decide +kernel
theorem dX6_breaths_13 : decode cX6_breaths 13 = .ok (.iload 4, 2) := by decide +kernel
theorem dX6_breaths_15 : decode cX6_breaths 15 = .ok (.ireturn, 1) := by decide +kernel
theorem dX6_breaths_16 : decode cX6_breaths 16 = .ok (.iload_n 3, 1) := by decide +kernel
theorem dX6_breaths_17 : decode cX6_breaths 17 = .ok (.iconst 0, 1) := by decide +kernel
theorem dX6_breaths_18 : decode cX6_breaths 18 = .ok (.iconst 1, 1) := by decide +kernel
theorem dX6_breaths_19 : decode cX6_breaths 19 = .ok (.invokestatic 78, 3) := by decide +kernel
theorem dX6_breaths_22 : decode cX6_breaths 22 = .ok (.ifCond .ne 6, 3) := by decide +kernel
theorem dX6_breaths_25 : decode cX6_breaths 25 = .ok (.bipush (-7), 2) := by decide +kernel
theorem dX6_breaths_27 : decode cX6_breaths 27 = .ok (.ireturn, 1) := by decide +kernel
theorem dX6_breaths_28 : decode cX6_breaths 28 = .ok (.aload_n 0, 1) := by decide +kernel
theorem dX6_breaths_29 : decode cX6_breaths 29 = .ok (.getfield 16, 3) := by decide +kernel
theorem dX6_breaths_32 : decode cX6_breaths 32 = .ok (.iconst 2, 1) := by decide +kernel
theorem dX6_breaths_33 : decode cX6_breaths 33 = .ok (.iload_n 2, 1) := by decide +kernel
theorem dX6_breaths_34 : decode cX6_breaths 34 = .ok (.imul, 1) := by decide +kernel
theorem dX6_breaths_35 : decode cX6_breaths 35 = .ok (.iaload, 1) := by decide +kernel
theorem dX6_breaths_36 : decode cX6_breaths 36 = .ok (.istore 5, 2) := by decide +kernel
theorem dX6_breaths_38 : decode cX6_breaths 38 = .ok (.iconst 0, 1) := by decide +kernel
theorem dX6_breaths_39 : decode cX6_breaths 39 = .ok (.istore 6, 2) := by decide +kernel
theorem dX6_breaths_41 : decode cX6_breaths 41 = .ok (.iconst (-1), 1) := by decide +kernel
theorem dX6_breaths_42 : decode cX6_breaths 42 = .ok (.istore 7, 2) := by decide +kernel
theorem dX6_breaths_44 : decode cX6_breaths 44 = .ok (.iconst 0, 1) := by decide +kernel
theorem dX6_breaths_45 : decode cX6_breaths 45 = .ok (.istore 8, 2) := by decide +kernel
theorem dX6_breaths_47 : decode cX6_breaths 47 = .ok (.iload 8, 2) := by decide +kernel
theorem dX6_breaths_49 : decode cX6_breaths 49 = .ok (.bipush 99, 2) := by decide +kernel
theorem dX6_breaths_51 : decode cX6_breaths 51 = .ok (.if_icmp .gt 62, 3) := by decide +kernel
theorem dX6_breaths_54 : decode cX6_breaths 54 = .ok (.aload_n 0, 1) := by decide +kernel
theorem dX6_breaths_55 : decode cX6_breaths 55 = .ok (.getfield 16, 3) := by decide +kernel
theorem dX6_breaths_58 : decode cX6_breaths 58 = .ok (.iconst 2, 1) := by decide +kernel
theorem dX6_breaths_59 : decode cX6_breaths 59 = .ok (.iload_n 2, 1) := by decide +kernel
theorem dX6_breaths_60 : decode cX6_breaths 60 = .ok (.imul, 1) := by decide +kernel
theorem dX6_breaths_61 : decode cX6_breaths 61 = .ok (.iload 8, 2) := by decide +kernel
theorem dX6_breaths_63 : decode cX6_breaths 63 = .ok (.iastore, 1) := by decide +kernel
theorem dX6_breaths_64 : decode cX6_breaths 64 = .ok (.aload_n 0, 1) := by decide +kernel
theorem dX6_breaths_65 : decode cX6_breaths 65 = .ok (.iload_n 1, 1) := by decide +kernel
theorem dX6_breaths_66 : decode cX6_breaths 66 = .ok (.iload_n 2, 1) := by decide +kernel
theorem dX6_breaths_67 : decode cX6_breaths 67 = .ok (.invokevirtual 257, 3) := by decide +kernel
theorem dX6_breaths_70 : decode cX6_breaths 70 = .ok (.istore 9, 2) := by decide +kernel
theorem dX6_breaths_72 : decode cX6_breaths 72 = .ok (.iload 6, 2) := by decide +kernel
theorem dX6_breaths_74 : decode cX6_breaths 74 = .ok (.iload 9, 2) := by decide +kernel
theorem dX6_breaths_76 : decode cX6_breaths 76 = .ok (.ifCond .eq 7, 3) := by decide +kernel
theorem dX6_breaths_79 : decode cX6_breaths 79 = .ok (.iconst 1, 1) := by decide +kernel
theorem dX6_breaths_80 : decode cX6_breaths 80 = .ok (.goto 4, 3) := by decide +kernel
theorem dX6_breaths_83 : decode cX6_breaths 83 = .ok (.iconst 0, 1) := by decide +kernel
theorem dX6_breaths_84 : decode cX6_breaths 84 = .ok (.iadd, 1) := by decide +kernel
theorem dX6_breaths_85 : decode cX6_breaths 85 = .ok (.istore 6, 2) := by decide +kernel
theorem dX6_breaths_87 : decode cX6_breaths 87 = .ok (.iload 9, 2) := by decide +kernel
theorem dX6_breaths_89 : decode cX6_breaths 89 = .ok (.ifCond .eq 14, 3) := by decide +kernel
theorem dX6_breaths_92 : decode cX6_breaths 92 = .ok (.iload 7, 2) := by decide +kernel
theorem dX6_breaths_94 : decode cX6_breaths 94 = .ok (.iconst (-1), 1) := by decide +kernel
theorem dX6_breaths_95 : decode cX6_breaths 95 = .ok (.if_icmp .ne 8, 3) := by decide +kernel
theorem dX6_breaths_98 : decode cX6_breaths 98 = .ok (.iload 8, 2) := by decide +kernel
theorem dX6_breaths_100 : decode cX6_breaths 100 = .ok (.goto 5, 3) := by decide +kernel
theorem dX6_breaths_103 : decode cX6_breaths 103 = .ok (.iload 7, 2) := by decide +kernel
theorem dX6_breaths_105 : decode cX6_breaths 105 = .ok (.istore 7, 2) := by decide +kernel
theorem dX6_breaths_107 : decode cX6_breaths 107 = .ok (.iinc 8 1, 3) := by decide +kernel
theorem dX6_breaths_110 : decode cX6_breaths 110 = .ok (.goto (-63), 3) := by decide +kernel
theorem dX6_breaths_113 : decode cX6_breaths 113 = .ok (.aload_n 0, 1) := by decide +kernel
theorem dX6_breaths_114 : decode cX6_breaths 114 = .ok (.getfield 16, 3) := by decide +kernel
theorem dX6_breaths_117 : decode cX6_breaths 117 = .ok (.iconst 2, 1) := by decide +kernel
theorem dX6_breaths_118 : decode cX6_breaths 118 = .ok (.iload_n 2, 1) := by decide +kernel
theorem dX6_breaths_119 : decode cX6_breaths 119 = .ok (.imul, 1) := by decide +kernel
theorem dX6_breaths_120 : decode cX6_breaths 120 = .ok (.iload 5, 2) := by decide +kernel
theorem dX6_breaths_122 : decode cX6_breaths 122 = .ok (.iastore, 1) := by decide +kernel
theorem dX6_breaths_123 : decode cX6_breaths 123 = .ok (.iload_n 3, 1) := by decide +kernel
theorem dX6_breaths_124 : decode cX6_breaths 124 = .ok (.ifCond .ne 8, 3) := by decide +kernel
theorem dX6_breaths_127 : decode cX6_breaths 127 = .ok (.iload 6, 2) := by decide +kernel
theorem dX6_breaths_129 : decode cX6_breaths 129 = .ok (.goto 5, 3) := by decide +kernel
theorem dX6_breaths_132 : decode cX6_breaths 132 = .ok (.iload 7, 2) := by decide +kernel
theorem dX6_breaths_134 : decode cX6_breaths 134 = .ok (.ireturn, 1) := by decide +kernel
theorem dX6_storms_0 : decode cX6_storms 0 = .ok (.iload_n 1, 1) := by decide +kernel
theorem dX6_storms_1 : decode cX6_storms 1 = .ok (.i2l, 1) := by decide +kernel
theorem dX6_storms_2 : decode cX6_storms 2 = .ok (.lconst 1, 1) := by decide +kernel
theorem dX6_storms_3 : decode cX6_storms 3 = .ok (.ladd, 1) := by decide +kernel
theorem dX6_storms_4 : decode cX6_storms 4 = .ok (.lstore_n 2, 1) := by decide +kernel
theorem dX6_storms_5 : decode cX6_storms 5 = .ok (.aload_n 0, 1) := by decide +kernel
theorem dX6_storms_6 : decode cX6_storms 6 = .ok (.invokevirtual 214, 3) := by decide +kernel
theorem dX6_storms_9 : decode cX6_storms 9 = .ok (.iconst 0, 1) := by decide +kernel
theorem dX6_storms_10 : decode cX6_storms 10 = .ok (.istore 4, 2) := by decide +kernel
theorem dX6_storms_12 : decode cX6_storms 12 = .ok (.iload 4, 2) := by decide +kernel
theorem dX6_storms_14 : decode cX6_storms 14 = .ok (.bipush 8, 2) := by decide +kernel
theorem dX6_storms_16 : decode cX6_storms 16 = .ok (.if_icmp .ge 73, 3) := by decide +kernel
theorem dX6_storms_19 : decode cX6_storms 19 = .ok (.lload_n 2, 1) := by decide +kernel
theorem dX6_storms_20 : decode cX6_storms 20 = .ok (.ldc2_w 260, 3) := by decide +kernel
theorem dX6_storms_23 : decode cX6_storms 23 = .ok (.lmul, 1) := by decide +kernel
theorem dX6_storms_24 : decode cX6_storms 24 = .ok (.ldc2_w 262, 3) := by decide +kernel
theorem dX6_storms_27 : decode cX6_storms 27 = .ok (.lrem, 1) := by decide +kernel
theorem dX6_storms_28 : decode cX6_storms 28 = .ok (.lstore_n 2, 1) := by decide +kernel
theorem dX6_storms_29 : decode cX6_storms 29 = .ok (.lload_n 2, 1) := by decide +kernel
theorem dX6_storms_30 : decode cX6_storms 30 = .ok (.ldc2_w 264, 3) := by decide +kernel
theorem dX6_storms_33 : decode cX6_storms 33 = .ok (.lrem, 1) := by decide +kernel
theorem dX6_storms_34 : decode cX6_storms 34 = .ok (.l2i, 1) := by decide +kernel
theorem dX6_storms_35 : decode cX6_storms 35 = .ok (.iconst 0, 1) := by decide +kernel
theorem dX6_storms_36 : decode cX6_storms 36 = .ok (.iconst 5, 1) := by decide +kernel
theorem dX6_storms_37 : decode cX6_storms 37 = .ok (.invokestatic 167, 3) := by decide +kernel
theorem dX6_storms_40 : decode cX6_storms 40 = .ok (.istore 5, 2) := by decide +kernel
theorem dX6_storms_42 : decode cX6_storms 42 = .ok (.lload_n 2, 1) := by decide +kernel
theorem dX6_storms_43 : decode cX6_storms 43 = .ok (.ldc2_w 260, 3) := by decide +kernel
theorem dX6_storms_46 : decode cX6_storms 46 = .ok (.lmul, 1) := by decide +kernel
theorem dX6_storms_47 : decode cX6_storms 47 = .ok (.ldc2_w 262, 3) := by decide +kernel
theorem dX6_storms_50 : decode cX6_storms 50 = .ok (.lrem, 1) := by decide +kernel
theorem dX6_storms_51 : decode cX6_storms 51 = .ok (.lstore_n 2, 1) := by decide +kernel
theorem dX6_storms_52 : decode cX6_storms 52 = .ok (.aload_n 0, 1) := by decide +kernel
theorem dX6_storms_53 : decode cX6_storms 53 = .ok (.getfield 22, 3) := by decide +kernel
theorem dX6_storms_56 : decode cX6_storms 56 = .ok (.iload 5, 2) := by decide +kernel
theorem dX6_storms_58 : decode cX6_storms 58 = .ok (.aload_n 0, 1) := by decide +kernel
theorem dX6_storms_59 : decode cX6_storms 59 = .ok (.getfield 22, 3) := by decide +kernel
theorem dX6_storms_62 : decode cX6_storms 62 = .ok (.iload 5, 2) := by decide +kernel
theorem dX6_storms_64 : decode cX6_storms 64 = .ok (.iaload, 1) := by decide +kernel
theorem dX6_storms_65 : decode cX6_storms 65 = .ok (.lload_n 2, 1) := by decide +kernel
theorem dX6_storms_66 : decode cX6_storms 66 = .ok (.ldc2_w 266, 3) := by decide +kernel
theorem dX6_storms_69 : decode cX6_storms 69 = .ok (.lrem, 1) := by decide +kernel
theorem dX6_storms_70 : decode cX6_storms 70 = .ok (.l2i, 1) := by decide +kernel
theorem dX6_storms_71 : decode cX6_storms 71 = .ok (.iadd, 1) := by decide +kernel
theorem dX6_storms_72 : decode cX6_storms 72 = .ok (.iconst 0, 1) := by decide +kernel
theorem dX6_storms_73 : decode cX6_storms 73 = .ok (.bipush 99, 2) := by decide +kernel
theorem dX6_storms_75 : decode cX6_storms 75 = .ok (.invokestatic 167, 3) := by decide +kernel
theorem dX6_storms_78 : decode cX6_storms 78 = .ok (.iastore, 1) := by decide +kernel
theorem dX6_storms_79 : decode cX6_storms 79 = .ok (.aload_n 0, 1) := by decide +kernel
theorem dX6_storms_80 : decode cX6_storms 80 = .ok (.invokevirtual 202, 3) := by decide +kernel
theorem dX6_storms_83 : decode cX6_storms 83 = .ok (.iinc 4 1, 3) := by decide +kernel
theorem dX6_storms_86 : decode cX6_storms 86 = .ok (.goto (-74), 3) := by decide +kernel
theorem dX6_storms_89 : decode cX6_storms 89 = .ok (.aload_n 0, 1) := by decide +kernel
theorem dX6_storms_90 : decode cX6_storms 90 = .ok (.invokevirtual 205, 3) := by decide +kernel
theorem dX6_storms_93 : decode cX6_storms 93 = .ok (.istore 4, 2) := by decide +kernel
theorem dX6_storms_95 : decode cX6_storms 95 = .ok (.aload_n 0, 1) := by decide +kernel
theorem dX6_storms_96 : decode cX6_storms 96 = .ok (.aload_n 0, 1) := by decide +kernel
theorem dX6_storms_97 : decode cX6_storms 97 = .ok (.invokevirtual 208, 3) := by decide +kernel
theorem dX6_storms_100 : decode cX6_storms 100 = .ok (.putfield 268, 3) := by decide +kernel
theorem dX6_storms_103 : decode cX6_storms 103 = .ok (.aload_n 0, 1) := by decide +kernel
theorem dX6_storms_104 : decode cX6_storms 104 = .ok (.invokevirtual 220, 3) := by decide +kernel
theorem dX6_storms_107 : decode cX6_storms 107 = .ok (.iload 4, 2) := by decide +kernel
theorem dX6_storms_109 : decode cX6_storms 109 = .ok (.ireturn, 1) := by decide +kernel
theorem dX6_drawn_0 : decode cX6_drawn 0 = .ok (.iload_n 1, 1) := by decide +kernel
theorem dX6_drawn_1 : decode cX6_drawn 1 = .ok (.iconst 0, 1) := by decide +kernel
theorem dX6_drawn_2 : decode cX6_drawn 2 = .ok (.ldc_w 271, 3) := by decide +kernel
theorem dX6_drawn_5 : decode cX6_drawn 5 = .ok (.invokestatic 78, 3) := by decide +kernel
theorem dX6_drawn_8 : decode cX6_drawn 8 = .ok (.ifCond .eq 12, 3) := by decide +kernel
theorem dX6_drawn_11 : decode cX6_drawn 11 = .ok (.iload_n 2, 1) := by decide +kernel
theorem dX6_drawn_12 : decode cX6_drawn 12 = .ok (.iconst 0, 1) := by decide +kernel
theorem dX6_drawn_13 : decode cX6_drawn 13 = .ok (.iconst 1, 1) := by decide +kernel
theorem dX6_drawn_14 : decode cX6_drawn 14 = .ok (.invokestatic 78, 3) := by decide +kernel
theorem dX6_drawn_17 : decode cX6_drawn 17 = .ok (.ifCond .ne 7, 3) := by decide +kernel
theorem dX6_drawn_20 : decode cX6_drawn 20 = .ok (.sipush (-1000), 3) := by decide +kernel
theorem dX6_drawn_23 : decode cX6_drawn 23 = .ok (.ireturn, 1) := by decide +kernel
theorem dX6_drawn_24 : decode cX6_drawn 24 = .ok (.aload_n 0, 1) := by decide +kernel
theorem dX6_drawn_25 : decode cX6_drawn 25 = .ok (.iload_n 1, 1) := by decide +kernel
theorem dX6_drawn_26 : decode cX6_drawn 26 = .ok (.invokevirtual 272, 3) := by decide +kernel
theorem dX6_drawn_29 : decode cX6_drawn 29 = .ok (.istore_n 3, 1) := by decide +kernel
theorem dX6_drawn_30 : decode cX6_drawn 30 = .ok (.iload_n 2, 1) := by decide +kernel
theorem dX6_drawn_31 : decode cX6_drawn 31 = .ok (.ifCond .ne 7, 3) := by decide +kernel
theorem dX6_drawn_34 : decode cX6_drawn 34 = .ok (.iload_n 3, 1) := by decide +kernel
theorem dX6_drawn_35 : decode cX6_drawn 35 = .ok (.goto 7, 3) := by decide +kernel
theorem dX6_drawn_38 : decode cX6_drawn 38 = .ok (.aload_n 0, 1) := by decide +kernel
theorem dX6_drawn_39 : decode cX6_drawn 39 = .ok (.getfield 268, 3) := by decide +kernel
theorem dX6_drawn_42 : decode cX6_drawn 42 = .ok (.ireturn, 1) := by decide +kernel
theorem dX6_odds_0 : decode cX6_odds 0 = .ok (.iload_n 1, 1) := by decide +kernel
theorem dX6_odds_1 : decode cX6_odds 1 = .ok (.iconst 0, 1) := by decide +kernel
theorem dX6_odds_2 : decode cX6_odds 2 = .ok (.ldc_w 271, 3) := by decide +kernel
theorem dX6_odds_5 : decode cX6_odds 5 = .ok (.invokestatic 78, 3) := by decide +kernel
theorem dX6_odds_8 : decode cX6_odds 8 = .ok (.ifCond .eq 30, 3) := by decide +kernel
theorem dX6_odds_11 : decode cX6_odds 11 = .ok (.iload_n 2, 1) := by decide +kernel
theorem dX6_odds_12 : decode cX6_odds 12 = .ok (.iconst 1, 1) := by decide +kernel
theorem dX6_odds_13 : decode cX6_odds 13 = .ok (.bipush 40, 2) := by decide +kernel
theorem dX6_odds_15 : decode cX6_odds 15 = .ok (.invokestatic 78, 3) := by decide +kernel
theorem dX6_odds_18 : decode cX6_odds 18 = .ok (.ifCond .eq 20, 3) := by decide +kernel
theorem dX6_odds_21 : decode cX6_odds 21 = .ok (.iload_n 3, 1) := by decide +kernel
theorem dX6_odds_22 : decode cX6_odds 22 = .ok (.invokestatic 170, 3) := by decide +kernel
theorem dX6_odds_25 : decode cX6_odds 25 = .ok (.ifCond .eq 13, 3) := by decide +kernel
theorem dX6_odds_28 : decode cX6_odds 28 = .ok (.iload 4, 2) := by decide +kernel
theorem dX6_odds_30 : decode cX6_odds 30 = .ok (.iconst 0, 1) := by decide +kernel
theorem dX6_odds_31 : decode cX6_odds 31 = .ok (.iconst 1, 1) := by decide +kernel
theorem dX6_odds_32 : decode cX6_odds 32 = .ok (.invokestatic 78, 3) := by decide +kernel
theorem dX6_odds_35 : decode cX6_odds 35 = .ok (.ifCond .ne 7, 3) := by decide +kernel
theorem dX6_odds_38 : decode cX6_odds 38 = .ok (.ldc2_w 243, 3) := by decide +kernel
theorem dX6_odds_41 : decode cX6_odds 41 = .ok (.lreturn, 1) := by decide +kernel
theorem dX6_odds_42 : decode cX6_odds 42 = .ok (.lconst 0, 1) := by decide +kernel
theorem dX6_odds_43 : decode cX6_odds 43 = .ok (.lstore 5, 2) := by decide +kernel
theorem dX6_odds_45 : decode cX6_odds 45 = .ok (.iconst 0, 1) := by decide +kernel
theorem dX6_odds_46 : decode cX6_odds 46 = .ok (.istore 7, 2) := by decide +kernel
theorem dX6_odds_48 : decode cX6_odds 48 = .ok (.iload 7, 2) := by decide +kernel
theorem dX6_odds_50 : decode cX6_odds 50 = .ok (.iload_n 2, 1) := by decide +kernel
theorem dX6_odds_51 : decode cX6_odds 51 = .ok (.if_icmp .ge 31, 3) := by decide +kernel
theorem dX6_odds_54 : decode cX6_odds 54 = .ok (.lload 5, 2) := by decide +kernel
theorem dX6_odds_56 : decode cX6_odds 56 = .ok (.aload_n 0, 1) := by decide +kernel
theorem dX6_odds_57 : decode cX6_odds 57 = .ok (.iload_n 1, 1) := by decide +kernel
theorem dX6_odds_58 : decode cX6_odds 58 = .ok (.iload 7, 2) := by decide +kernel
theorem dX6_odds_60 : decode cX6_odds 60 = .ok (.iadd, 1) := by decide +kernel
theorem dX6_odds_61 : decode cX6_odds 61 = .ok (.invokevirtual 272, 3) := by decide +kernel
theorem dX6_odds_64 : decode cX6_odds 64 = .ok (.iload_n 3, 1) := by decide +kernel
theorem dX6_odds_65 : decode cX6_odds 65 = .ok (.if_icmp .ne 7, 3) := by decide +kernel
theorem dX6_odds_68 : decode cX6_odds 68 = .ok (.lconst 1, 1) := by decide +kernel
theorem dX6_odds_69 : decode cX6_odds 69 = .ok (.goto 4, 3) := by decide +kernel
theorem dX6_odds_72 : decode cX6_odds 72 = .ok (.lconst 0, 1) := by decide +kernel
theorem dX6_odds_73 : decode cX6_odds 73 = .ok (.ladd, 1) := by decide +kernel
theorem dX6_odds_74 : decode cX6_odds 74 = .ok (.lstore 5, 2) := by decide +kernel
theorem dX6_odds_76 : decode cX6_odds 76 = .ok (.iinc 7 1, 3) := by decide +kernel
theorem dX6_odds_79 : decode cX6_odds 79 = .ok (.goto (-31), 3) := by decide +kernel
theorem dX6_odds_82 : decode cX6_odds 82 = .ok (.lload 5, 2) := by decide +kernel
theorem dX6_odds_84 : decode cX6_odds 84 = .ok (.iload_n 2, 1) := by decide +kernel
theorem dX6_odds_85 : decode cX6_odds 85 = .ok (.i2l, 1) := by decide +kernel
theorem dX6_odds_86 : decode cX6_odds 86 = .ok (.iload 4, 2) := by decide +kernel
theorem dX6_odds_88 : decode cX6_odds 88 = .ok (.invokestatic 239, 3) := by decide +kernel
theorem dX6_odds_91 : decode cX6_odds 91 = .ok (.lreturn, 1) := by decide +kernel
theorem dX6_image_0 : decode cX6_image 0 = .ok (.aload_n 0, 1) := by decide +kernel
theorem dX6_image_1 : decode cX6_image 1 = .ok (.iconst 1, 1) := by decide +kernel
theorem dX6_image_2 : decode cX6_image 2 = .ok (.putfield 275, 3) := by decide +kernel
theorem dX6_image_5 : decode cX6_image 5 = .ok (.iconst 0, 1) := by decide +kernel
theorem dX6_image_6 : decode cX6_image 6 = .ok (.istore_n 1, 1) := by decide +kernel
theorem dX6_image_7 : decode cX6_image 7 = .ok (.iload_n 1, 1) := by decide +kernel
theorem dX6_image_8 : decode cX6_image 8 = .ok (.bipush 12, 2) := by decide +kernel
theorem dX6_image_10 : decode cX6_image 10 = .ok (.if_icmp .ge 21, 3) := by decide +kernel
theorem dX6_image_13 : decode cX6_image 13 = .ok (.aload_n 0, 1) := by decide +kernel
theorem dX6_image_14 : decode cX6_image 14 = .ok (.getfield 34, 3) := by decide +kernel
theorem dX6_image_17 : decode cX6_image 17 = .ok (.iload_n 1, 1) := by decide +kernel
theorem dX6_image_18 : decode cX6_image 18 = .ok (.aload_n 0, 1) := by decide +kernel
theorem dX6_image_19 : decode cX6_image 19 = .ok (.getfield 16, 3) := by decide +kernel
theorem dX6_image_22 : decode cX6_image 22 = .ok (.iload_n 1, 1) := by decide +kernel
theorem dX6_image_23 : decode cX6_image 23 = .ok (.iaload, 1) := by decide +kernel
theorem dX6_image_24 : decode cX6_image 24 = .ok (.iastore, 1) := by decide +kernel
theorem dX6_image_25 : decode cX6_image 25 = .ok (.iinc 1 1, 3) := by decide +kernel
theorem dX6_image_28 : decode cX6_image 28 = .ok (.goto (-21), 3) := by decide +kernel
theorem dX6_image_31 : decode cX6_image 31 = .ok (.iconst 0, 1) := by decide +kernel
theorem dX6_image_32 : decode cX6_image 32 = .ok (.istore_n 1, 1) := by decide +kernel
theorem dX6_image_33 : decode cX6_image 33 = .ok (.iload_n 1, 1) := by decide +kernel
theorem dX6_image_34 : decode cX6_image 34 = .ok (.bipush 48, 2) := by decide +kernel
theorem dX6_image_36 : decode cX6_image 36 = .ok (.if_icmp .ge 24, 3) := by decide +kernel
theorem dX6_image_39 : decode cX6_image 39 = .ok (.aload_n 0, 1) := by decide +kernel
theorem dX6_image_40 : decode cX6_image 40 = .ok (.getfield 34, 3) := by decide +kernel
theorem dX6_image_43 : decode cX6_image 43 = .ok (.bipush 12, 2) := by decide +kernel
theorem dX6_image_45 : decode cX6_image 45 = .ok (.iload_n 1, 1) := by decide +kernel
theorem dX6_image_46 : decode cX6_image 46 = .ok (.iadd, 1) := by decide +kernel
theorem dX6_image_47 : decode cX6_image 47 = .ok (.aload_n 0, 1) := by decide +kernel
theorem dX6_image_48 : decode cX6_image 48 = .ok (.getfield 19, 3) := by decide +kernel
theorem dX6_image_51 : decode cX6_image 51 = .ok (.iload_n 1, 1) := by decide +kernel
theorem dX6_image_52 : decode cX6_image 52 = .ok (.iaload, 1) := by decide +kernel
theorem dX6_image_53 : decode cX6_image 53 = .ok (.iastore, 1) := by decide +kernel
theorem dX6_image_54 : decode cX6_image 54 = .ok (.iinc 1 1, 3) := by decide +kernel
theorem dX6_image_57 : decode cX6_image 57 = .ok (.goto (-24), 3) := by decide +kernel
theorem dX6_image_60 : decode cX6_image 60 = .ok (.iconst 0, 1) := by decide +kernel
theorem dX6_image_61 : decode cX6_image 61 = .ok (.istore_n 1, 1) := by decide +kernel
theorem dX6_image_62 : decode cX6_image 62 = .ok (.iload_n 1, 1) := by decide +kernel
theorem dX6_image_63 : decode cX6_image 63 = .ok (.bipush 6, 2) := by decide +kernel
theorem dX6_image_65 : decode cX6_image 65 = .ok (.if_icmp .ge 24, 3) := by decide +kernel
theorem dX6_image_68 : decode cX6_image 68 = .ok (.aload_n 0, 1) := by decide +kernel
theorem dX6_image_69 : decode cX6_image 69 = .ok (.getfield 34, 3) := by decide +kernel
theorem dX6_image_72 : decode cX6_image 72 = .ok (.bipush 60, 2) := by decide +kernel
theorem dX6_image_74 : decode cX6_image 74 = .ok (.iload_n 1, 1) := by decide +kernel
theorem dX6_image_75 : decode cX6_image 75 = .ok (.iadd, 1) := by decide +kernel
theorem dX6_image_76 : decode cX6_image 76 = .ok (.aload_n 0, 1) := by decide +kernel
theorem dX6_image_77 : decode cX6_image 77 = .ok (.getfield 22, 3) := by decide +kernel
theorem dX6_image_80 : decode cX6_image 80 = .ok (.iload_n 1, 1) := by decide +kernel
theorem dX6_image_81 : decode cX6_image 81 = .ok (.iaload, 1) := by decide +kernel
theorem dX6_image_82 : decode cX6_image 82 = .ok (.iastore, 1) := by decide +kernel
theorem dX6_image_83 : decode cX6_image 83 = .ok (.iinc 1 1, 3) := by decide +kernel
theorem dX6_image_86 : decode cX6_image 86 = .ok (.goto (-24), 3) := by decide +kernel
theorem dX6_image_89 : decode cX6_image 89 = .ok (.aload_n 0, 1) := by decide +kernel
theorem dX6_image_90 : decode cX6_image 90 = .ok (.getfield 37, 3) := by decide +kernel
theorem dX6_image_93 : decode cX6_image 93 = .ok (.iconst 0, 1) := by decide +kernel
theorem dX6_image_94 : decode cX6_image 94 = .ok (.aload_n 0, 1) := by decide +kernel
theorem dX6_image_95 : decode cX6_image 95 = .ok (.getfield 75, 3) := by decide +kernel
theorem dX6_image_98 : decode cX6_image 98 = .ok (.iastore, 1) := by decide +kernel
theorem dX6_image_99 : decode cX6_image 99 = .ok (.aload_n 0, 1) := by decide +kernel
theorem dX6_image_100 : decode cX6_image 100 = .ok (.getfield 37, 3) := by decide +kernel
theorem dX6_image_103 : decode cX6_image 103 = .ok (.iconst 1, 1) := by decide +kernel
theorem dX6_image_104 : decode cX6_image 104 = .ok (.aload_n 0, 1) := by decide +kernel
theorem dX6_image_105 : decode cX6_image 105 = .ok (.getfield 89, 3) := by decide +kernel
theorem dX6_image_108 : decode cX6_image 108 = .ok (.iastore, 1) := by decide +kernel
theorem dX6_image_109 : decode cX6_image 109 = .ok (.aload_n 0, 1) := by decide +kernel
theorem dX6_image_110 : decode cX6_image 110 = .ok (.getfield 37, 3) := by decide +kernel
theorem dX6_image_113 : decode cX6_image 113 = .ok (.iconst 2, 1) := by decide +kernel
theorem dX6_image_114 : decode cX6_image 114 = .ok (.aload_n 0, 1) := by decide +kernel
theorem dX6_image_115 : decode cX6_image 115 = .ok (.getfield 95, 3) := by decide +kernel
theorem dX6_image_118 : decode cX6_image 118 = .ok (.iastore, 1) := by decide +kernel
theorem dX6_image_119 : decode cX6_image 119 = .ok (.aload_n 0, 1) := by decide +kernel
theorem dX6_image_120 : decode cX6_image 120 = .ok (.getfield 75, 3) := by decide +kernel
theorem dX6_image_123 : decode cX6_image 123 = .ok (.ireturn, 1) := by decide +kernel
theorem dX6_back_0 : decode cX6_back 0 = .ok (.aload_n 0, 1) := by decide +kernel
theorem dX6_back_1 : decode cX6_back 1 = .ok (.getfield 275, 3) := by decide +kernel
theorem dX6_back_4 : decode cX6_back 4 = .ok (.ifCond .ne 6, 3) := by decide +kernel
theorem dX6_back_7 : decode cX6_back 7 = .ok (.bipush (-3), 2) := by decide +kernel
theorem dX6_back_9 : decode cX6_back 9 = .ok (.ireturn, 1) := by decide +kernel
theorem dX6_back_10 : decode cX6_back 10 = .ok (.iconst 0, 1) := by decide +kernel
theorem dX6_back_11 : decode cX6_back 11 = .ok (.istore_n 1, 1) := by decide +kernel
theorem dX6_back_12 : decode cX6_back 12 = .ok (.iload_n 1, 1) := by decide +kernel
theorem dX6_back_13 : decode cX6_back 13 = .ok (.bipush 12, 2) := by decide +kernel
theorem dX6_back_15 : decode cX6_back 15 = .ok (.if_icmp .ge 21, 3) := by decide +kernel
theorem dX6_back_18 : decode cX6_back 18 = .ok (.aload_n 0, 1) := by decide +kernel
theorem dX6_back_19 : decode cX6_back 19 = .ok (.getfield 16, 3) := by decide +kernel
theorem dX6_back_22 : decode cX6_back 22 = .ok (.iload_n 1, 1) := by decide +kernel
theorem dX6_back_23 : decode cX6_back 23 = .ok (.aload_n 0, 1) := by decide +kernel
theorem dX6_back_24 : decode cX6_back 24 = .ok (.getfield 34, 3) := by decide +kernel
theorem dX6_back_27 : decode cX6_back 27 = .ok (.iload_n 1, 1) := by decide +kernel
theorem dX6_back_28 : decode cX6_back 28 = .ok (.iaload, 1) := by decide +kernel
theorem dX6_back_29 : decode cX6_back 29 = .ok (.iastore, 1) := by decide +kernel
theorem dX6_back_30 : decode cX6_back 30 = .ok (.iinc 1 1, 3) := by decide +kernel
theorem dX6_back_33 : decode cX6_back 33 = .ok (.goto (-21), 3) := by decide +kernel
theorem dX6_back_36 : decode cX6_back 36 = .ok (.iconst 0, 1) := by decide +kernel
theorem dX6_back_37 : decode cX6_back 37 = .ok (.istore_n 1, 1) := by decide +kernel
theorem dX6_back_38 : decode cX6_back 38 = .ok (.iload_n 1, 1) := by decide +kernel
theorem dX6_back_39 : decode cX6_back 39 = .ok (.bipush 48, 2) := by decide +kernel
theorem dX6_back_41 : decode cX6_back 41 = .ok (.if_icmp .ge 24, 3) := by decide +kernel
theorem dX6_back_44 : decode cX6_back 44 = .ok (.aload_n 0, 1) := by decide +kernel
theorem dX6_back_45 : decode cX6_back 45 = .ok (.getfield 19, 3) := by decide +kernel
theorem dX6_back_48 : decode cX6_back 48 = .ok (.iload_n 1, 1) := by decide +kernel
theorem dX6_back_49 : decode cX6_back 49 = .ok (.aload_n 0, 1) := by decide +kernel
theorem dX6_back_50 : decode cX6_back 50 = .ok (.getfield 34, 3) := by decide +kernel
theorem dX6_back_53 : decode cX6_back 53 = .ok (.bipush 12, 2) := by decide +kernel
theorem dX6_back_55 : decode cX6_back 55 = .ok (.iload_n 1, 1) := by decide +kernel
theorem dX6_back_56 : decode cX6_back 56 = .ok (.iadd, 1) := by decide +kernel
theorem dX6_back_57 : decode cX6_back 57 = .ok (.iaload, 1) := by decide +kernel
theorem dX6_back_58 : decode cX6_back 58 = .ok (.iastore, 1) := by decide +kernel
theorem dX6_back_59 : decode cX6_back 59 = .ok (.iinc 1 1, 3) := by decide +kernel
theorem dX6_back_62 : decode cX6_back 62 = .ok (.goto (-24), 3) := by decide +kernel
theorem dX6_back_65 : decode cX6_back 65 = .ok (.iconst 0, 1) := by decide +kernel
theorem dX6_back_66 : decode cX6_back 66 = .ok (.istore_n 1, 1) := by decide +kernel
theorem dX6_back_67 : decode cX6_back 67 = .ok (.iload_n 1, 1) := by decide +kernel
theorem dX6_back_68 : decode cX6_back 68 = .ok (.bipush 6, 2) := by decide +kernel
theorem dX6_back_70 : decode cX6_back 70 = .ok (.if_icmp .ge 24, 3) := by decide +kernel
theorem dX6_back_73 : decode cX6_back 73 = .ok (.aload_n 0, 1) := by decide +kernel
theorem dX6_back_74 : decode cX6_back 74 = .ok (.getfield 22, 3) := by decide +kernel
theorem dX6_back_77 : decode cX6_back 77 = .ok (.iload_n 1, 1) := by decide +kernel
theorem dX6_back_78 : decode cX6_back 78 = .ok (.aload_n 0, 1) := by decide +kernel
theorem dX6_back_79 : decode cX6_back 79 = .ok (.getfield 34, 3) := by decide +kernel
theorem dX6_back_82 : decode cX6_back 82 = .ok (.bipush 60, 2) := by decide +kernel
theorem dX6_back_84 : decode cX6_back 84 = .ok (.iload_n 1, 1) := by decide +kernel
theorem dX6_back_85 : decode cX6_back 85 = .ok (.iadd, 1) := by decide +kernel
theorem dX6_back_86 : decode cX6_back 86 = .ok (.iaload, 1) := by decide +kernel
theorem dX6_back_87 : decode cX6_back 87 = .ok (.iastore, 1) := by decide +kernel
theorem dX6_back_88 : decode cX6_back 88 = .ok (.iinc 1 1, 3) := by decide +kernel
theorem dX6_back_91 : decode cX6_back 91 = .ok (.goto (-24), 3) := by decide +kernel
theorem dX6_back_94 : decode cX6_back 94 = .ok (.aload_n 0, 1) := by decide +kernel
theorem dX6_back_95 : decode cX6_back 95 = .ok (.aload_n 0, 1) := by decide +kernel
theorem dX6_back_96 : decode cX6_back 96 = .ok (.getfield 37, 3) := by decide +kernel
theorem dX6_back_99 : decode cX6_back 99 = .ok (.iconst 0, 1) := by decide +kernel
theorem dX6_back_100 : decode cX6_back 100 = .ok (.iaload, 1) := by decide +kernel
theorem dX6_back_101 : decode cX6_back 101 = .ok (.putfield 75, 3) := by decide +kernel
theorem dX6_back_104 : decode cX6_back 104 = .ok (.aload_n 0, 1) := by decide +kernel
theorem dX6_back_105 : decode cX6_back 105 = .ok (.aload_n 0, 1) := by decide +kernel
theorem dX6_back_106 : decode cX6_back 106 = .ok (.getfield 37, 3) := by decide +kernel
theorem dX6_back_109 : decode cX6_back 109 = .ok (.iconst 1, 1) := by decide +kernel
theorem dX6_back_110 : decode cX6_back 110 = .ok (.iaload, 1) := by decide +kernel
theorem dX6_back_111 : decode cX6_back 111 = .ok (.putfield 89, 3) := by decide +kernel
theorem dX6_back_114 : decode cX6_back 114 = .ok (.aload_n 0, 1) := by decide +kernel
theorem dX6_back_115 : decode cX6_back 115 = .ok (.aload_n 0, 1) := by decide +kernel
theorem dX6_back_116 : decode cX6_back 116 = .ok (.getfield 37, 3) := by decide +kernel
theorem dX6_back_119 : decode cX6_back 119 = .ok (.iconst 2, 1) := by decide +kernel
theorem dX6_back_120 : decode cX6_back 120 = .ok (.iaload, 1) := by decide +kernel
theorem dX6_back_121 : decode cX6_back 121 = .ok (.putfield 95, 3) := by decide +kernel
theorem dX6_back_124 : decode cX6_back 124 = .ok (.aload_n 0, 1) := by decide +kernel
theorem dX6_back_125 : decode cX6_back 125 = .ok (.getfield 75, 3) := by decide +kernel
theorem dX6_back_128 : decode cX6_back 128 = .ok (.ireturn, 1) := by decide +kernel
theorem dX6_sheet_0 : decode cX6_sheet 0 = .ok (.iload_n 1, 1) := by decide +kernel
theorem dX6_sheet_1 : decode cX6_sheet 1 = .ok (.iconst 0, 1) := by decide +kernel
theorem dX6_sheet_2 : decode cX6_sheet 2 = .ok (.iconst 3, 1) := by decide +kernel
theorem dX6_sheet_3 : decode cX6_sheet 3 = .ok (.invokestatic 78, 3) := by decide +kernel
theorem dX6_sheet_6 : decode cX6_sheet 6 = .ok (.ifCond .eq 23, 3) := by decide +kernel
theorem dX6_sheet_9 : decode cX6_sheet 9 = .ok (.iload_n 2, 1) := by decide +kernel
theorem dX6_sheet_10 : decode cX6_sheet 10 = .ok (.iconst (-1), 1) := by decide +kernel
theorem dX6_sheet_11 : decode cX6_sheet 11 = .ok (.iconst 2, 1) := by decide +kernel
theorem dX6_sheet_12 : decode cX6_sheet 12 = .ok (.invokestatic 78, 3) := by decide +kernel
theorem dX6_sheet_15 : decode cX6_sheet 15 = .ok (.ifCond .eq 14, 3) := by decide +kernel
theorem dX6_sheet_18 : decode cX6_sheet 18 = .ok (.iload_n 2, 1) := by decide +kernel
theorem dX6_sheet_19 : decode cX6_sheet 19 = .ok (.iconst (-1), 1) := by decide +kernel
theorem dX6_sheet_20 : decode cX6_sheet 20 = .ok (.if_icmp .eq 12, 3) := by decide +kernel
theorem dX6_sheet_23 : decode cX6_sheet 23 = .ok (.iload_n 3, 1) := by decide +kernel
theorem dX6_sheet_24 : decode cX6_sheet 24 = .ok (.bipush 40, 2) := by decide +kernel
theorem dX6_sheet_26 : decode cX6_sheet 26 = .ok (.if_icmp .le 6, 3) := by decide +kernel
theorem dX6_sheet_29 : decode cX6_sheet 29 = .ok (.bipush (-2), 2) := by decide +kernel
theorem dX6_sheet_31 : decode cX6_sheet 31 = .ok (.ireturn, 1) := by decide +kernel
theorem dX6_sheet_32 : decode cX6_sheet 32 = .ok (.iload_n 2, 1) := by decide +kernel
theorem dX6_sheet_33 : decode cX6_sheet 33 = .ok (.iconst (-1), 1) := by decide +kernel
theorem dX6_sheet_34 : decode cX6_sheet 34 = .ok (.if_icmp .eq 10, 3) := by decide +kernel
theorem dX6_sheet_37 : decode cX6_sheet 37 = .ok (.iload_n 3, 1) := by decide +kernel
theorem dX6_sheet_38 : decode cX6_sheet 38 = .ok (.ifCond .ge 6, 3) := by decide +kernel
theorem dX6_sheet_41 : decode cX6_sheet 41 = .ok (.bipush (-14), 2) := by decide +kernel
theorem dX6_sheet_43 : decode cX6_sheet 43 = .ok (.ireturn, 1) := by decide +kernel
theorem dX6_sheet_44 : decode cX6_sheet 44 = .ok (.aload_n 0, 1) := by decide +kernel
theorem dX6_sheet_45 : decode cX6_sheet 45 = .ok (.getfield 40, 3) := by decide +kernel
theorem dX6_sheet_48 : decode cX6_sheet 48 = .ok (.iload_n 1, 1) := by decide +kernel
theorem dX6_sheet_49 : decode cX6_sheet 49 = .ok (.iload_n 2, 1) := by decide +kernel
theorem dX6_sheet_50 : decode cX6_sheet 50 = .ok (.iastore, 1) := by decide +kernel
theorem dX6_sheet_51 : decode cX6_sheet 51 = .ok (.aload_n 0, 1) := by decide +kernel
theorem dX6_sheet_52 : decode cX6_sheet 52 = .ok (.getfield 43, 3) := by decide +kernel
theorem dX6_sheet_55 : decode cX6_sheet 55 = .ok (.iload_n 1, 1) := by decide +kernel
theorem dX6_sheet_56 : decode cX6_sheet 56 = .ok (.iload_n 2, 1) := by decide +kernel
theorem dX6_sheet_57 : decode cX6_sheet 57 = .ok (.iconst (-1), 1) := by decide +kernel
theorem dX6_sheet_58 : decode cX6_sheet 58 = .ok (.if_icmp .ne 7, 3) := by decide +kernel
theorem dX6_sheet_61 : decode cX6_sheet 61 = .ok (.iconst 0, 1) := by decide +kernel
theorem dX6_sheet_62 : decode cX6_sheet 62 = .ok (.goto 4, 3) := by decide +kernel
theorem dX6_sheet_65 : decode cX6_sheet 65 = .ok (.iload_n 3, 1) := by decide +kernel
theorem dX6_sheet_66 : decode cX6_sheet 66 = .ok (.iastore, 1) := by decide +kernel
theorem dX6_sheet_67 : decode cX6_sheet 67 = .ok (.iconst 0, 1) := by decide +kernel
theorem dX6_sheet_68 : decode cX6_sheet 68 = .ok (.istore 4, 2) := by decide +kernel
theorem dX6_sheet_70 : decode cX6_sheet 70 = .ok (.iload 4, 2) := by decide +kernel
theorem dX6_sheet_72 : decode cX6_sheet 72 = .ok (.bipush 40, 2) := by decide +kernel
theorem dX6_sheet_74 : decode cX6_sheet 74 = .ok (.if_icmp .ge 22, 3) := by decide +kernel
theorem dX6_sheet_77 : decode cX6_sheet 77 = .ok (.aload_n 0, 1) := by decide +kernel
theorem dX6_sheet_78 : decode cX6_sheet 78 = .ok (.getfield 46, 3) := by decide +kernel
theorem dX6_sheet_81 : decode cX6_sheet 81 = .ok (.bipush 40, 2) := by decide +kernel
theorem dX6_sheet_83 : decode cX6_sheet 83 = .ok (.iload_n 1, 1) := by decide +kernel
theorem dX6_sheet_84 : decode cX6_sheet 84 = .ok (.imul, 1) := by decide +kernel
theorem dX6_sheet_85 : decode cX6_sheet 85 = .ok (.iload 4, 2) := by decide +kernel
theorem dX6_sheet_87 : decode cX6_sheet 87 = .ok (.iadd, 1) := by decide +kernel
theorem dX6_sheet_88 : decode cX6_sheet 88 = .ok (.iconst 0, 1) := by decide +kernel
theorem dX6_sheet_89 : decode cX6_sheet 89 = .ok (.iastore, 1) := by decide +kernel
theorem dX6_sheet_90 : decode cX6_sheet 90 = .ok (.iinc 4 1, 3) := by decide +kernel
theorem dX6_sheet_93 : decode cX6_sheet 93 = .ok (.goto (-23), 3) := by decide +kernel
theorem dX6_sheet_96 : decode cX6_sheet 96 = .ok (.iconst 1, 1) := by decide +kernel
theorem dX6_sheet_97 : decode cX6_sheet 97 = .ok (.ireturn, 1) := by decide +kernel
theorem dX6_cell_0 : decode cX6_cell 0 = .ok (.iload_n 1, 1) := by decide +kernel
theorem dX6_cell_1 : decode cX6_cell 1 = .ok (.iconst 0, 1) := by decide +kernel
theorem dX6_cell_2 : decode cX6_cell 2 = .ok (.iconst 3, 1) := by decide +kernel
theorem dX6_cell_3 : decode cX6_cell 3 = .ok (.invokestatic 78, 3) := by decide +kernel
theorem dX6_cell_6 : decode cX6_cell 6 = .ok (.ifCond .ne 6, 3) := by decide +kernel
theorem dX6_cell_9 : decode cX6_cell 9 = .ok (.bipush (-2), 2) := by decide +kernel
theorem dX6_cell_11 : decode cX6_cell 11 = .ok (.ireturn, 1) := by decide +kernel
theorem dX6_cell_12 : decode cX6_cell 12 = .ok (.aload_n 0, 1) := by decide +kernel
theorem dX6_cell_13 : decode cX6_cell 13 = .ok (.getfield 40, 3) := by decide +kernel
theorem dX6_cell_16 : decode cX6_cell 16 = .ok (.iload_n 1, 1) := by decide +kernel
theorem dX6_cell_17 : decode cX6_cell 17 = .ok (.iaload, 1) := by decide +kernel
theorem dX6_cell_18 : decode cX6_cell 18 = .ok (.iconst (-1), 1) := by decide +kernel
theorem dX6_cell_19 : decode cX6_cell 19 = .ok (.if_icmp .ne 6, 3) := by decide +kernel
theorem dX6_cell_22 : decode cX6_cell 22 = .ok (.bipush (-11), 2) := by decide +kernel
theorem dX6_cell_24 : decode cX6_cell 24 = .ok (.ireturn, 1) := by decide +kernel
theorem dX6_cell_25 : decode cX6_cell 25 = .ok (.iload_n 2, 1) := by decide +kernel
theorem dX6_cell_26 : decode cX6_cell 26 = .ok (.iconst 0, 1) := by decide +kernel
theorem dX6_cell_27 : decode cX6_cell 27 = .ok (.aload_n 0, 1) := by decide +kernel
theorem dX6_cell_28 : decode cX6_cell 28 = .ok (.getfield 43, 3) := by decide +kernel
theorem dX6_cell_31 : decode cX6_cell 31 = .ok (.iload_n 1, 1) := by decide +kernel
theorem dX6_cell_32 : decode cX6_cell 32 = .ok (.iaload, 1) := by decide +kernel
theorem dX6_cell_33 : decode cX6_cell 33 = .ok (.iconst 1, 1) := by decide +kernel
theorem dX6_cell_34 : decode cX6_cell 34 = .ok (.isub, 1) := by decide +kernel
theorem dX6_cell_35 : decode cX6_cell 35 = .ok (.invokestatic 78, 3) := by decide +kernel
theorem dX6_cell_38 : decode cX6_cell 38 = .ok (.ifCond .ne 6, 3) := by decide +kernel
theorem dX6_cell_41 : decode cX6_cell 41 = .ok (.bipush (-12), 2) := by decide +kernel
theorem dX6_cell_43 : decode cX6_cell 43 = .ok (.ireturn, 1) := by decide +kernel
theorem dX6_cell_44 : decode cX6_cell 44 = .ok (.aload_n 0, 1) := by decide +kernel
theorem dX6_cell_45 : decode cX6_cell 45 = .ok (.getfield 46, 3) := by decide +kernel
theorem dX6_cell_48 : decode cX6_cell 48 = .ok (.bipush 40, 2) := by decide +kernel
theorem dX6_cell_50 : decode cX6_cell 50 = .ok (.iload_n 1, 1) := by decide +kernel
theorem dX6_cell_51 : decode cX6_cell 51 = .ok (.imul, 1) := by decide +kernel
theorem dX6_cell_52 : decode cX6_cell 52 = .ok (.iload_n 2, 1) := by decide +kernel
theorem dX6_cell_53 : decode cX6_cell 53 = .ok (.iadd, 1) := by decide +kernel
theorem dX6_cell_54 : decode cX6_cell 54 = .ok (.aload_n 0, 1) := by decide +kernel
theorem dX6_cell_55 : decode cX6_cell 55 = .ok (.getfield 40, 3) := by decide +kernel
theorem dX6_cell_58 : decode cX6_cell 58 = .ok (.iload_n 1, 1) := by decide +kernel
theorem dX6_cell_59 : decode cX6_cell 59 = .ok (.iaload, 1) := by decide +kernel
theorem dX6_cell_60 : decode cX6_cell 60 = .ok (.ifCond .ne 8, 3) := by decide +kernel
theorem dX6_cell_63 : decode cX6_cell 63 = .ok (.iload_n 3, 1) := by decide +kernel
theorem dX6_cell_64 : decode cX6_cell 64 = .ok (.i2b, 1) := by decide +kernel
theorem dX6_cell_65 : decode cX6_cell 65 = .ok (.goto 19, 3) := by decide +kernel
theorem dX6_cell_68 : decode cX6_cell 68 = .ok (.aload_n 0, 1) := by decide +kernel
theorem dX6_cell_69 : decode cX6_cell 69 = .ok (.getfield 40, 3) := by decide +kernel
theorem dX6_cell_72 : decode cX6_cell 72 = .ok (.iload_n 1, 1) := by decide +kernel
theorem dX6_cell_73 : decode cX6_cell 73 = .ok (.iaload, 1) := by decide +kernel
theorem dX6_cell_74 : decode cX6_cell 74 = .ok (.iconst 1, 1) := by decide +kernel
theorem dX6_cell_75 : decode cX6_cell 75 = .ok (.if_icmp .ne 8, 3) := by decide +kernel
theorem dX6_cell_78 : decode cX6_cell 78 = .ok (.iload_n 3, 1) := by decide +kernel
theorem dX6_cell_79 : decode cX6_cell 79 = .ok (.i2s, 1) := by decide +kernel
theorem dX6_cell_80 : decode cX6_cell 80 = .ok (.goto 4, 3) := by decide +kernel
theorem dX6_cell_83 : decode cX6_cell 83 = .ok (.iload_n 3, 1) := by decide +kernel
theorem dX6_cell_84 : decode cX6_cell 84 = .ok (.iastore, 1) := by decide +kernel
theorem dX6_cell_85 : decode cX6_cell 85 = .ok (.iconst 1, 1) := by decide +kernel
theorem dX6_cell_86 : decode cX6_cell 86 = .ok (.ireturn, 1) := by decide +kernel
theorem dX6_copy_0 : decode cX6_copy 0 = .ok (.iload_n 1, 1) := by decide +kernel
theorem dX6_copy_1 : decode cX6_copy 1 = .ok (.iconst 0, 1) := by decide +kernel
theorem dX6_copy_2 : decode cX6_copy 2 = .ok (.iconst 3, 1) := by decide +kernel
theorem dX6_copy_3 : decode cX6_copy 3 = .ok (.invokestatic 78, 3) := by decide +kernel
theorem dX6_copy_6 : decode cX6_copy 6 = .ok (.ifCond .eq 12, 3) := by decide +kernel
theorem dX6_copy_9 : decode cX6_copy 9 = .ok (.iload_n 3, 1) := by decide +kernel
theorem dX6_copy_10 : decode cX6_copy 10 = .ok (.iconst 0, 1) := by decide +kernel
theorem dX6_copy_11 : decode cX6_copy 11 = .ok (.iconst 3, 1) := by decide +kernel
theorem dX6_copy_12 : decode cX6_copy 12 = .ok (.invokestatic 78, 3) := by decide +kernel
theorem dX6_copy_15 : decode cX6_copy 15 = .ok (.ifCond .ne 6, 3) := by decide +kernel
theorem dX6_copy_18 : decode cX6_copy 18 = .ok (.bipush (-2), 2) := by decide +kernel
theorem dX6_copy_20 : decode cX6_copy 20 = .ok (.ireturn, 1) := by decide +kernel
theorem dX6_copy_21 : decode cX6_copy 21 = .ok (.aload_n 0, 1) := by decide +kernel
theorem dX6_copy_22 : decode cX6_copy 22 = .ok (.getfield 40, 3) := by decide +kernel
theorem dX6_copy_25 : decode cX6_copy 25 = .ok (.iload_n 1, 1) := by decide +kernel
theorem dX6_copy_26 : decode cX6_copy 26 = .ok (.iaload, 1) := by decide +kernel
theorem dX6_copy_27 : decode cX6_copy 27 = .ok (.iconst (-1), 1) := by decide +kernel
theorem dX6_copy_28 : decode cX6_copy 28 = .ok (.if_icmp .eq 13, 3) := by decide +kernel
theorem dX6_copy_31 : decode cX6_copy 31 = .ok (.aload_n 0, 1) := by decide +kernel
theorem dX6_copy_32 : decode cX6_copy 32 = .ok (.getfield 40, 3) := by decide +kernel
theorem dX6_copy_35 : decode cX6_copy 35 = .ok (.iload_n 3, 1) := by decide +kernel
theorem dX6_copy_36 : decode cX6_copy 36 = .ok (.iaload, 1) := by decide +kernel
theorem dX6_copy_37 : decode cX6_copy 37 = .ok (.iconst (-1), 1) := by decide +kernel
theorem dX6_copy_38 : decode cX6_copy 38 = .ok (.if_icmp .ne 6, 3) := by decide +kernel
theorem dX6_copy_41 : decode cX6_copy 41 = .ok (.bipush (-11), 2) := by decide +kernel
theorem dX6_copy_43 : decode cX6_copy 43 = .ok (.ireturn, 1) := by decide +kernel
theorem dX6_copy_44 : decode cX6_copy 44 = .ok (.aload_n 0, 1) := by decide +kernel
theorem dX6_copy_45 : decode cX6_copy 45 = .ok (.getfield 40, 3) := by decide +kernel
theorem dX6_copy_48 : decode cX6_copy 48 = .ok (.iload_n 1, 1) := by decide +kernel
theorem dX6_copy_49 : decode cX6_copy 49 = .ok (.iaload, 1) := by decide +kernel
theorem dX6_copy_50 : decode cX6_copy 50 = .ok (.aload_n 0, 1) := by decide +kernel
theorem dX6_copy_51 : decode cX6_copy 51 = .ok (.getfield 40, 3) := by decide +kernel
theorem dX6_copy_54 : decode cX6_copy 54 = .ok (.iload_n 3, 1) := by decide +kernel
theorem dX6_copy_55 : decode cX6_copy 55 = .ok (.iaload, 1) := by decide +kernel
theorem dX6_copy_56 : decode cX6_copy 56 = .ok (.if_icmp .eq 6, 3) := by decide +kernel
theorem dX6_copy_59 : decode cX6_copy 59 = .ok (.bipush (-13), 2) := by decide +kernel
theorem dX6_copy_61 : decode cX6_copy 61 = .ok (.ireturn, 1) := by decide +kernel
theorem dX6_copy_62 : decode cX6_copy 62 = .ok (.iload 5, 2) := by decide +kernel
theorem dX6_copy_64 : decode cX6_copy 64 = .ok (.ifCond .lt 60, 3) := by decide +kernel
theorem dX6_copy_67 : decode cX6_copy 67 = .ok (.iload_n 2, 1) := by decide +kernel
theorem dX6_copy_68 : decode cX6_copy 68 = .ok (.ifCond .lt 56, 3) := by decide +kernel
theorem dX6_copy_71 : decode cX6_copy 71 = .ok (.iload 4, 2) := by decide +kernel
theorem dX6_copy_73 : decode cX6_copy 73 = .ok (.ifCond .lt 51, 3) := by decide +kernel
theorem dX6_copy_76 : decode cX6_copy 76 = .ok (.iload_n 2, 1) := by decide +kernel
theorem dX6_copy_77 : decode cX6_copy 77 = .ok (.aload_n 0, 1) := by decide +kernel
theorem dX6_copy_78 : decode cX6_copy 78 = .ok (.getfield 43, 3) := by decide +kernel
theorem dX6_copy_81 : decode cX6_copy 81 = .ok (.iload_n 1, 1) := by decide +kernel
theorem dX6_copy_82 : decode cX6_copy 82 = .ok (.iaload, 1) := by decide +kernel
theorem dX6_copy_83 : decode cX6_copy 83 = .ok (.if_icmp .gt 41, 3) := by decide +kernel
theorem dX6_copy_86 : decode cX6_copy 86 = .ok (.iload 4, 2) := by decide +kernel
theorem dX6_copy_88 : decode cX6_copy 88 = .ok (.aload_n 0, 1) := by decide +kernel
theorem dX6_copy_89 : decode cX6_copy 89 = .ok (.getfield 43, 3) := by decide +kernel
theorem dX6_copy_92 : decode cX6_copy 92 = .ok (.iload_n 3, 1) := by decide +kernel
theorem dX6_copy_93 : decode cX6_copy 93 = .ok (.iaload, 1) := by decide +kernel
theorem dX6_copy_94 : decode cX6_copy 94 = .ok (.if_icmp .gt 30, 3) := by decide +kernel
theorem dX6_copy_97 : decode cX6_copy 97 = .ok (.iload 5, 2) := by decide +kernel
theorem dX6_copy_99 : decode cX6_copy 99 = .ok (.aload_n 0, 1) := by decide +kernel
theorem dX6_copy_100 : decode cX6_copy 100 = .ok (.getfield 43, 3) := by decide +kernel
theorem dX6_copy_103 : decode cX6_copy 103 = .ok (.iload_n 1, 1) := by decide +kernel
theorem dX6_copy_104 : decode cX6_copy 104 = .ok (.iaload, 1) := by decide +kernel
theorem dX6_copy_105 : decode cX6_copy 105 = .ok (.iload_n 2, 1) := by decide +kernel
theorem dX6_copy_106 : decode cX6_copy 106 = .ok (.isub, 1) := by decide +kernel
theorem dX6_copy_107 : decode cX6_copy 107 = .ok (.if_icmp .gt 17, 3) := by decide +kernel
theorem dX6_copy_110 : decode cX6_copy 110 = .ok (.iload 5, 2) := by decide +kernel
theorem dX6_copy_112 : decode cX6_copy 112 = .ok (.aload_n 0, 1) := by decide +kernel
theorem dX6_copy_113 : decode cX6_copy 113 = .ok (.getfield 43, 3) := by decide +kernel
theorem dX6_copy_116 : decode cX6_copy 116 = .ok (.iload_n 3, 1) := by decide +kernel
theorem dX6_copy_117 : decode cX6_copy 117 = .ok (.iaload, 1) := by decide +kernel
theorem dX6_copy_118 : decode cX6_copy 118 = .ok (.iload 4, 2) := by decide +kernel
theorem dX6_copy_120 : decode cX6_copy 120 = .ok (.isub, 1) := by decide +kernel
theorem dX6_copy_121 : decode cX6_copy 121 = .ok (.if_icmp .le 6, 3) := by decide +kernel
theorem dX6_copy_124 : decode cX6_copy 124 = .ok (.bipush (-12), 2) := by decide +kernel
theorem dX6_copy_126 : decode cX6_copy 126 = .ok (.ireturn, 1) := by decide +kernel
theorem dX6_copy_127 : decode cX6_copy 127 = .ok (.bipush 40, 2) := by decide +kernel
theorem dX6_copy_129 : decode cX6_copy 129 = .ok (.iload_n 1, 1) := by decide +kernel
theorem dX6_copy_130 : decode cX6_copy 130 = .ok (.imul, 1) := by decide +kernel
theorem dX6_copy_131 : decode cX6_copy 131 = .ok (.iload_n 2, 1) := by decide +kernel
theorem dX6_copy_132 : decode cX6_copy 132 = .ok (.iadd, 1) := by decide +kernel
theorem dX6_copy_133 : decode cX6_copy 133 = .ok (.istore 6, 2) := by decide +kernel
theorem dX6_copy_135 : decode cX6_copy 135 = .ok (.bipush 40, 2) := by decide +kernel
theorem dX6_copy_137 : decode cX6_copy 137 = .ok (.iload_n 3, 1) := by decide +kernel
theorem dX6_copy_138 : decode cX6_copy 138 = .ok (.imul, 1) := by decide +kernel
theorem dX6_copy_139 : decode cX6_copy 139 = .ok (.iload 4, 2) := by decide +kernel
theorem dX6_copy_141 : decode cX6_copy 141 = .ok (.iadd, 1) := by decide +kernel
theorem dX6_copy_142 : decode cX6_copy 142 = .ok (.istore 7, 2) := by decide +kernel
theorem dX6_copy_144 : decode cX6_copy 144 = .ok (.iconst 0, 1) := by decide +kernel
theorem dX6_copy_145 : decode cX6_copy 145 = .ok (.istore 8, 2) := by decide +kernel
theorem dX6_copy_147 : decode cX6_copy 147 = .ok (.iload 8, 2) := by decide +kernel
theorem dX6_copy_149 : decode cX6_copy 149 = .ok (.iload 5, 2) := by decide +kernel
theorem dX6_copy_151 : decode cX6_copy 151 = .ok (.if_icmp .ge 50, 3) := by decide +kernel
theorem dX6_copy_154 : decode cX6_copy 154 = .ok (.iload 6, 2) := by decide +kernel
theorem dX6_copy_156 : decode cX6_copy 156 = .ok (.iload 7, 2) := by decide +kernel
theorem dX6_copy_158 : decode cX6_copy 158 = .ok (.if_icmp .ge 13, 3) := by decide +kernel
theorem dX6_copy_161 : decode cX6_copy 161 = .ok (.iload 5, 2) := by decide +kernel
theorem dX6_copy_163 : decode cX6_copy 163 = .ok (.iconst 1, 1) := by decide +kernel
theorem dX6_copy_164 : decode cX6_copy 164 = .ok (.isub, 1) := by decide +kernel
theorem dX6_copy_165 : decode cX6_copy 165 = .ok (.iload 8, 2) := by decide +kernel
theorem dX6_copy_167 : decode cX6_copy 167 = .ok (.isub, 1) := by decide +kernel
theorem dX6_copy_168 : decode cX6_copy 168 = .ok (.goto 5, 3) := by decide +kernel
theorem dX6_copy_171 : decode cX6_copy 171 = .ok (.iload 8, 2) := by decide +kernel
theorem dX6_copy_173 : decode cX6_copy 173 = .ok (.istore 9, 2) := by decide +kernel
theorem dX6_copy_175 : decode cX6_copy 175 = .ok (.aload_n 0, 1) := by decide +kernel
theorem dX6_copy_176 : decode cX6_copy 176 = .ok (.getfield 46, 3) := by decide +kernel
theorem dX6_copy_179 : decode cX6_copy 179 = .ok (.iload 7, 2) := by decide +kernel
theorem dX6_copy_181 : decode cX6_copy 181 = .ok (.iload 9, 2) := by decide +kernel
theorem dX6_copy_183 : decode cX6_copy 183 = .ok (.iadd, 1) := by decide +kernel
theorem dX6_copy_184 : decode cX6_copy 184 = .ok (.aload_n 0, 1) := by decide +kernel
theorem dX6_copy_185 : decode cX6_copy 185 = .ok (.getfield 46, 3) := by decide +kernel
theorem dX6_copy_188 : decode cX6_copy 188 = .ok (.iload 6, 2) := by decide +kernel
theorem dX6_copy_190 : decode cX6_copy 190 = .ok (.iload 9, 2) := by decide +kernel
theorem dX6_copy_192 : decode cX6_copy 192 = .ok (.iadd, 1) := by decide +kernel
theorem dX6_copy_193 : decode cX6_copy 193 = .ok (.iaload, 1) := by decide +kernel
theorem dX6_copy_194 : decode cX6_copy 194 = .ok (.iastore, 1) := by decide +kernel
theorem dX6_copy_195 : decode cX6_copy 195 = .ok (.iinc 8 1, 3) := by decide +kernel
theorem dX6_copy_198 : decode cX6_copy 198 = .ok (.goto (-51), 3) := by decide +kernel
theorem dX6_copy_201 : decode cX6_copy 201 = .ok (.iload 5, 2) := by decide +kernel
theorem dX6_copy_203 : decode cX6_copy 203 = .ok (.ireturn, 1) := by decide +kernel
theorem dX6_diversBy_0 : decode cX6_diversBy 0 = .ok (.iload_n 1, 1) := by decide +kernel
theorem dX6_diversBy_1 : decode cX6_diversBy 1 = .ok (.iconst 0, 1) := by decide +kernel
theorem dX6_diversBy_2 : decode cX6_diversBy 2 = .ok (.iconst 3, 1) := by decide +kernel
theorem dX6_diversBy_3 : decode cX6_diversBy 3 = .ok (.invokestatic 78, 3) := by decide +kernel
theorem dX6_diversBy_6 : decode cX6_diversBy 6 = .ok (.ifCond .eq 23, 3) := by decide +kernel
theorem dX6_diversBy_9 : decode cX6_diversBy 9 = .ok (.iload_n 2, 1) := by decide +kernel
theorem dX6_diversBy_10 : decode cX6_diversBy 10 = .ok (.iconst 0, 1) := by decide +kernel
theorem dX6_diversBy_11 : decode cX6_diversBy 11 = .ok (.iconst 2, 1) := by decide +kernel
theorem dX6_diversBy_12 : decode cX6_diversBy 12 = .ok (.invokestatic 78, 3) := by decide +kernel
theorem dX6_diversBy_15 : decode cX6_diversBy 15 = .ok (.ifCond .eq 14, 3) := by decide +kernel
theorem dX6_diversBy_18 : decode cX6_diversBy 18 = .ok (.iload 4, 2) := by decide +kernel
theorem dX6_diversBy_20 : decode cX6_diversBy 20 = .ok (.iconst 0, 1) := by decide +kernel
theorem dX6_diversBy_21 : decode cX6_diversBy 21 = .ok (.bipush 6, 2) := by decide +kernel
theorem dX6_diversBy_23 : decode cX6_diversBy 23 = .ok (.invokestatic 78, 3) := by decide +kernel
theorem dX6_diversBy_26 : decode cX6_diversBy 26 = .ok (.ifCond .ne 6, 3) := by decide +kernel
theorem dX6_diversBy_29 : decode cX6_diversBy 29 = .ok (.bipush (-2), 2) := by decide +kernel
theorem dX6_diversBy_31 : decode cX6_diversBy 31 = .ok (.ireturn, 1) := by decide +kernel
theorem dX6_diversBy_32 : decode cX6_diversBy 32 = .ok (.aload_n 0, 1) := by decide +kernel
theorem dX6_diversBy_33 : decode cX6_diversBy 33 = .ok (.getfield 40, 3) := by decide +kernel
theorem dX6_diversBy_36 : decode cX6_diversBy 36 = .ok (.iload_n 1, 1) := by decide +kernel
theorem dX6_diversBy_37 : decode cX6_diversBy 37 = .ok (.iaload, 1) := by decide +kernel
theorem dX6_diversBy_38 : decode cX6_diversBy 38 = .ok (.iconst (-1), 1) := by decide +kernel
theorem dX6_diversBy_39 : decode cX6_diversBy 39 = .ok (.if_icmp .ne 6, 3) := by decide +kernel
theorem dX6_diversBy_42 : decode cX6_diversBy 42 = .ok (.bipush (-11), 2) := by decide +kernel
theorem dX6_diversBy_44 : decode cX6_diversBy 44 = .ok (.ireturn, 1) := by decide +kernel
theorem dX6_diversBy_45 : decode cX6_diversBy 45 = .ok (.aload_n 0, 1) := by decide +kernel
theorem dX6_diversBy_46 : decode cX6_diversBy 46 = .ok (.getfield 40, 3) := by decide +kernel
theorem dX6_diversBy_49 : decode cX6_diversBy 49 = .ok (.iload_n 1, 1) := by decide +kernel
theorem dX6_diversBy_50 : decode cX6_diversBy 50 = .ok (.iaload, 1) := by decide +kernel
theorem dX6_diversBy_51 : decode cX6_diversBy 51 = .ok (.iload_n 2, 1) := by decide +kernel
theorem dX6_diversBy_52 : decode cX6_diversBy 52 = .ok (.if_icmp .eq 6, 3) := by decide +kernel
theorem dX6_diversBy_55 : decode cX6_diversBy 55 = .ok (.bipush (-13), 2) := by decide +kernel
theorem dX6_diversBy_57 : decode cX6_diversBy 57 = .ok (.ireturn, 1) := by decide +kernel
theorem dX6_diversBy_58 : decode cX6_diversBy 58 = .ok (.iconst 0, 1) := by decide +kernel
theorem dX6_diversBy_59 : decode cX6_diversBy 59 = .ok (.istore 5, 2) := by decide +kernel
theorem dX6_diversBy_61 : decode cX6_diversBy 61 = .ok (.iconst 0, 1) := by decide +kernel
theorem dX6_diversBy_62 : decode cX6_diversBy 62 = .ok (.istore 6, 2) := by decide +kernel
theorem dX6_diversBy_64 : decode cX6_diversBy 64 = .ok (.iload 6, 2) := by decide +kernel
theorem dX6_diversBy_66 : decode cX6_diversBy 66 = .ok (.iload 4, 2) := by decide +kernel
theorem dX6_diversBy_68 : decode cX6_diversBy 68 = .ok (.if_icmp .ge 85, 3) := by decide +kernel
theorem dX6_diversBy_71 : decode cX6_diversBy 71 = .ok (.iload_n 3, 1) := by decide +kernel
theorem dX6_diversBy_72 : decode cX6_diversBy 72 = .ok (.iconst 2, 1) := by decide +kernel
theorem dX6_diversBy_73 : decode cX6_diversBy 73 = .ok (.iload 6, 2) := by decide +kernel
theorem dX6_diversBy_75 : decode cX6_diversBy 75 = .ok (.imul, 1) := by decide +kernel
theorem dX6_diversBy_76 : decode cX6_diversBy 76 = .ok (.iadd, 1) := by decide +kernel
theorem dX6_diversBy_77 : decode cX6_diversBy 77 = .ok (.istore 7, 2) := by decide +kernel
theorem dX6_diversBy_79 : decode cX6_diversBy 79 = .ok (.iload_n 3, 1) := by decide +kernel
theorem dX6_diversBy_80 : decode cX6_diversBy 80 = .ok (.ifCond .lt 22, 3) := by decide +kernel
theorem dX6_diversBy_83 : decode cX6_diversBy 83 = .ok (.iload 7, 2) := by decide +kernel
theorem dX6_diversBy_85 : decode cX6_diversBy 85 = .ok (.iload_n 3, 1) := by decide +kernel
theorem dX6_diversBy_86 : decode cX6_diversBy 86 = .ok (.if_icmp .lt 16, 3) := by decide +kernel
theorem dX6_diversBy_89 : decode cX6_diversBy 89 = .ok (.iload 7, 2) := by decide +kernel
theorem dX6_diversBy_91 : decode cX6_diversBy 91 = .ok (.aload_n 0, 1) := by decide +kernel
theorem dX6_diversBy_92 : decode cX6_diversBy 92 = .ok (.getfield 43, 3) := by decide +kernel
theorem dX6_diversBy_95 : decode cX6_diversBy 95 = .ok (.iload_n 1, 1) := by decide +kernel
theorem dX6_diversBy_96 : decode cX6_diversBy 96 = .ok (.iaload, 1) := by decide +kernel
theorem dX6_diversBy_97 : decode cX6_diversBy 97 = .ok (.iconst 2, 1) := by decide +kernel
theorem dX6_diversBy_98 : decode cX6_diversBy 98 = .ok (.isub, 1) := by decide +kernel
theorem dX6_diversBy_99 : decode cX6_diversBy 99 = .ok (.if_icmp .le 6, 3) := by decide +kernel
theorem dX6_diversBy_102 : decode cX6_diversBy 102 = .ok (.bipush (-12), 2) := by decide +kernel
theorem dX6_diversBy_104 : decode cX6_diversBy 104 = .ok (.ireturn, 1) := by decide +kernel
theorem dX6_diversBy_105 : decode cX6_diversBy 105 = .ok (.bipush 40, 2) := by decide +kernel
theorem dX6_diversBy_107 : decode cX6_diversBy 107 = .ok (.iload_n 1, 1) := by decide +kernel
theorem dX6_diversBy_108 : decode cX6_diversBy 108 = .ok (.imul, 1) := by decide +kernel
theorem dX6_diversBy_109 : decode cX6_diversBy 109 = .ok (.iload 7, 2) := by decide +kernel
theorem dX6_diversBy_111 : decode cX6_diversBy 111 = .ok (.iadd, 1) := by decide +kernel
theorem dX6_diversBy_112 : decode cX6_diversBy 112 = .ok (.istore 8, 2) := by decide +kernel
theorem dX6_diversBy_114 : decode cX6_diversBy 114 = .ok (.iload 5, 2) := by decide +kernel
theorem dX6_diversBy_116 : decode cX6_diversBy 116 = .ok (.aload_n 0, 1) := by decide +kernel
theorem dX6_diversBy_117 : decode cX6_diversBy 117 = .ok (.aload_n 0, 1) := by decide +kernel
theorem dX6_diversBy_118 : decode cX6_diversBy 118 = .ok (.getfield 46, 3) := by decide +kernel
theorem dX6_diversBy_121 : decode cX6_diversBy 121 = .ok (.iload 8, 2) := by decide +kernel
theorem dX6_diversBy_123 : decode cX6_diversBy 123 = .ok (.iaload, 1) := by decide +kernel
theorem dX6_diversBy_124 : decode cX6_diversBy 124 = .ok (.aload_n 0, 1) := by decide +kernel
theorem dX6_diversBy_125 : decode cX6_diversBy 125 = .ok (.getfield 46, 3) := by decide +kernel
theorem dX6_diversBy_128 : decode cX6_diversBy 128 = .ok (.iload 8, 2) := by decide +kernel
theorem dX6_diversBy_130 : decode cX6_diversBy 130 = .ok (.iconst 1, 1) := by decide +kernel
theorem dX6_diversBy_131 : decode cX6_diversBy 131 = .ok (.iadd, 1) := by decide +kernel
theorem dX6_diversBy_132 : decode cX6_diversBy 132 = .ok (.iaload, 1) := by decide +kernel
theorem dX6_diversBy_133 : decode cX6_diversBy 133 = .ok (.invokevirtual 279, 3) := by decide +kernel
theorem dX6_diversBy_136 : decode cX6_diversBy 136 = .ok (.ifCond .lt 7, 3) := by decide +kernel
theorem dX6_diversBy_139 : decode cX6_diversBy 139 = .ok (.iconst 1, 1) := by decide +kernel
theorem dX6_diversBy_140 : decode cX6_diversBy 140 = .ok (.goto 4, 3) := by decide +kernel
theorem dX6_diversBy_143 : decode cX6_diversBy 143 = .ok (.iconst 0, 1) := by decide +kernel
theorem dX6_diversBy_144 : decode cX6_diversBy 144 = .ok (.iadd, 1) := by decide +kernel
theorem dX6_diversBy_145 : decode cX6_diversBy 145 = .ok (.istore 5, 2) := by decide +kernel
theorem dX6_diversBy_147 : decode cX6_diversBy 147 = .ok (.iinc 6 1, 3) := by decide +kernel
theorem dX6_diversBy_150 : decode cX6_diversBy 150 = .ok (.goto (-86), 3) := by decide +kernel
theorem dX6_diversBy_153 : decode cX6_diversBy 153 = .ok (.iload 5, 2) := by decide +kernel
theorem dX6_diversBy_155 : decode cX6_diversBy 155 = .ok (.ireturn, 1) := by decide +kernel
theorem dX6_isUnder_0 : decode cX6_isUnder 0 = .ok (.iload_n 1, 1) := by decide +kernel
theorem dX6_isUnder_1 : decode cX6_isUnder 1 = .ok (.ifCond .eq 28, 3) := by decide +kernel
theorem dX6_isUnder_4 : decode cX6_isUnder 4 = .ok (.iload_n 0, 1) := by decide +kernel
theorem dX6_isUnder_5 : decode cX6_isUnder 5 = .ok (.iload_n 1, 1) := by decide +kernel
theorem dX6_isUnder_6 : decode cX6_isUnder 6 = .ok (.if_icmp .eq 23, 3) := by decide +kernel
theorem dX6_isUnder_9 : decode cX6_isUnder 9 = .ok (.iload_n 1, 1) := by decide +kernel
theorem dX6_isUnder_10 : decode cX6_isUnder 10 = .ok (.iconst 1, 1) := by decide +kernel
theorem dX6_isUnder_11 : decode cX6_isUnder 11 = .ok (.if_icmp .ne 8, 3) := by decide +kernel
theorem dX6_isUnder_14 : decode cX6_isUnder 14 = .ok (.iload_n 0, 1) := by decide +kernel
theorem dX6_isUnder_15 : decode cX6_isUnder 15 = .ok (.iconst 3, 1) := by decide +kernel
theorem dX6_isUnder_16 : decode cX6_isUnder 16 = .ok (.if_icmp .eq 13, 3) := by decide +kernel
theorem dX6_isUnder_19 : decode cX6_isUnder 19 = .ok (.iload_n 1, 1) := by decide +kernel
theorem dX6_isUnder_20 : decode cX6_isUnder 20 = .ok (.iconst 2, 1) := by decide +kernel
theorem dX6_isUnder_21 : decode cX6_isUnder 21 = .ok (.if_icmp .ne 12, 3) := by decide +kernel
theorem dX6_isUnder_24 : decode cX6_isUnder 24 = .ok (.iload_n 0, 1) := by decide +kernel
theorem dX6_isUnder_25 : decode cX6_isUnder 25 = .ok (.iconst 4, 1) := by decide +kernel
theorem dX6_isUnder_26 : decode cX6_isUnder 26 = .ok (.if_icmp .ne 7, 3) := by decide +kernel
theorem dX6_isUnder_29 : decode cX6_isUnder 29 = .ok (.iconst 1, 1) := by decide +kernel
theorem dX6_isUnder_30 : decode cX6_isUnder 30 = .ok (.goto 4, 3) := by decide +kernel
theorem dX6_isUnder_33 : decode cX6_isUnder 33 = .ok (.iconst 0, 1) := by decide +kernel
theorem dX6_isUnder_34 : decode cX6_isUnder 34 = .ok (.ireturn, 1) := by decide +kernel
theorem dX6_taken_0 : decode cX6_taken 0 = .ok (.iload_n 2, 1) := by decide +kernel
theorem dX6_taken_1 : decode cX6_taken 1 = .ok (.iconst 0, 1) := by decide +kernel
theorem dX6_taken_2 : decode cX6_taken 2 = .ok (.bipush 6, 2) := by decide +kernel
theorem dX6_taken_4 : decode cX6_taken 4 = .ok (.invokestatic 78, 3) := by decide +kernel
theorem dX6_taken_7 : decode cX6_taken 7 = .ok (.ifCond .ne 6, 3) := by decide +kernel
theorem dX6_taken_10 : decode cX6_taken 10 = .ok (.bipush (-2), 2) := by decide +kernel
theorem dX6_taken_12 : decode cX6_taken 12 = .ok (.ireturn, 1) := by decide +kernel
theorem dX6_taken_13 : decode cX6_taken 13 = .ok (.iload_n 1, 1) := by decide +kernel
theorem dX6_taken_14 : decode cX6_taken 14 = .ok (.iconst 0, 1) := by decide +kernel
theorem dX6_taken_15 : decode cX6_taken 15 = .ok (.bipush 17, 2) := by decide +kernel
theorem dX6_taken_17 : decode cX6_taken 17 = .ok (.invokestatic 78, 3) := by decide +kernel
theorem dX6_taken_20 : decode cX6_taken 20 = .ok (.ifCond .ne 6, 3) := by decide +kernel
theorem dX6_taken_23 : decode cX6_taken 23 = .ok (.bipush (-12), 2) := by decide +kernel
theorem dX6_taken_25 : decode cX6_taken 25 = .ok (.ireturn, 1) := by decide +kernel
theorem dX6_taken_26 : decode cX6_taken 26 = .ok (.iload_n 1, 1) := by decide +kernel
theorem dX6_taken_27 : decode cX6_taken 27 = .ok (.bipush 6, 2) := by decide +kernel
theorem dX6_taken_29 : decode cX6_taken 29 = .ok (.if_icmp .lt 49, 3) := by decide +kernel
theorem dX6_taken_32 : decode cX6_taken 32 = .ok (.iload_n 1, 1) := by decide +kernel
theorem dX6_taken_33 : decode cX6_taken 33 = .ok (.bipush 6, 2) := by decide +kernel
theorem dX6_taken_35 : decode cX6_taken 35 = .ok (.isub, 1) := by decide +kernel
theorem dX6_taken_36 : decode cX6_taken 36 = .ok (.istore_n 3, 1) := by decide +kernel
theorem dX6_taken_37 : decode cX6_taken 37 = .ok (.aload_n 0, 1) := by decide +kernel
theorem dX6_taken_38 : decode cX6_taken 38 = .ok (.getfield 19, 3) := by decide +kernel
theorem dX6_taken_41 : decode cX6_taken 41 = .ok (.iconst 4, 1) := by decide +kernel
theorem dX6_taken_42 : decode cX6_taken 42 = .ok (.iload_n 3, 1) := by decide +kernel
theorem dX6_taken_43 : decode cX6_taken 43 = .ok (.imul, 1) := by decide +kernel
theorem dX6_taken_44 : decode cX6_taken 44 = .ok (.iconst 3, 1) := by decide +kernel
theorem dX6_taken_45 : decode cX6_taken 45 = .ok (.iadd, 1) := by decide +kernel
theorem dX6_taken_46 : decode cX6_taken 46 = .ok (.iaload, 1) := by decide +kernel
theorem dX6_taken_47 : decode cX6_taken 47 = .ok (.iconst 2, 1) := by decide +kernel
theorem dX6_taken_48 : decode cX6_taken 48 = .ok (.if_icmp .ne 8, 3) := by decide +kernel
theorem dX6_taken_51 : decode cX6_taken 51 = .ok (.bipush (-11), 2) := by decide +kernel
theorem dX6_taken_53 : decode cX6_taken 53 = .ok (.goto 24, 3) := by decide +kernel
theorem dX6_taken_56 : decode cX6_taken 56 = .ok (.iload_n 2, 1) := by decide +kernel
theorem dX6_taken_57 : decode cX6_taken 57 = .ok (.bipush 6, 2) := by decide +kernel
theorem dX6_taken_59 : decode cX6_taken 59 = .ok (.if_icmp .ne 16, 3) := by decide +kernel
theorem dX6_taken_62 : decode cX6_taken 62 = .ok (.aload_n 0, 1) := by decide +kernel
theorem dX6_taken_63 : decode cX6_taken 63 = .ok (.getfield 19, 3) := by decide +kernel
theorem dX6_taken_66 : decode cX6_taken 66 = .ok (.iconst 4, 1) := by decide +kernel
theorem dX6_taken_67 : decode cX6_taken 67 = .ok (.iload_n 3, 1) := by decide +kernel
theorem dX6_taken_68 : decode cX6_taken 68 = .ok (.imul, 1) := by decide +kernel
theorem dX6_taken_69 : decode cX6_taken 69 = .ok (.iconst 1, 1) := by decide +kernel
theorem dX6_taken_70 : decode cX6_taken 70 = .ok (.iadd, 1) := by decide +kernel
theorem dX6_taken_71 : decode cX6_taken 71 = .ok (.iaload, 1) := by decide +kernel
theorem dX6_taken_72 : decode cX6_taken 72 = .ok (.goto 5, 3) := by decide +kernel
theorem dX6_taken_75 : decode cX6_taken 75 = .ok (.bipush (-13), 2) := by decide +kernel
theorem dX6_taken_77 : decode cX6_taken 77 = .ok (.ireturn, 1) := by decide +kernel
theorem dX6_taken_78 : decode cX6_taken 78 = .ok (.iload_n 1, 1) := by decide +kernel
theorem dX6_taken_79 : decode cX6_taken 79 = .ok (.aload_n 0, 1) := by decide +kernel
theorem dX6_taken_80 : decode cX6_taken 80 = .ok (.getfield 75, 3) := by decide +kernel
theorem dX6_taken_83 : decode cX6_taken 83 = .ok (.if_icmp .lt 8, 3) := by decide +kernel
theorem dX6_taken_86 : decode cX6_taken 86 = .ok (.bipush (-11), 2) := by decide +kernel
theorem dX6_taken_88 : decode cX6_taken 88 = .ok (.goto 28, 3) := by decide +kernel
theorem dX6_taken_91 : decode cX6_taken 91 = .ok (.iload_n 2, 1) := by decide +kernel
theorem dX6_taken_92 : decode cX6_taken 92 = .ok (.bipush 6, 2) := by decide +kernel
theorem dX6_taken_94 : decode cX6_taken 94 = .ok (.if_icmp .ge 20, 3) := by decide +kernel
theorem dX6_taken_97 : decode cX6_taken 97 = .ok (.aload_n 0, 1) := by decide +kernel
theorem dX6_taken_98 : decode cX6_taken 98 = .ok (.getfield 7, 3) := by decide +kernel
theorem dX6_taken_101 : decode cX6_taken 101 = .ok (.iload_n 1, 1) := by decide +kernel
theorem dX6_taken_102 : decode cX6_taken 102 = .ok (.iaload, 1) := by decide +kernel
theorem dX6_taken_103 : decode cX6_taken 103 = .ok (.iload_n 2, 1) := by decide +kernel
theorem dX6_taken_104 : decode cX6_taken 104 = .ok (.invokestatic 282, 3) := by decide +kernel
theorem dX6_taken_107 : decode cX6_taken 107 = .ok (.ifCond .eq 7, 3) := by decide +kernel
theorem dX6_taken_110 : decode cX6_taken 110 = .ok (.iload_n 1, 1) := by decide +kernel
theorem dX6_taken_111 : decode cX6_taken 111 = .ok (.goto 5, 3) := by decide +kernel
theorem dX6_taken_114 : decode cX6_taken 114 = .ok (.bipush (-13), 2) := by decide +kernel
theorem dX6_taken_116 : decode cX6_taken 116 = .ok (.ireturn, 1) := by decide +kernel
