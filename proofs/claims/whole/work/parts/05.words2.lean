/-! words of the tables by their places; what calls want of each method -/
theorem w_0 : Cond.selects RX3 yX3_next yX3_next ∈ TT := TT_of (i := 0) (by decide +kernel) rfl
theorem w_1 : Cond.selects RX3 yX3_nextWord yX3_nextWord ∈ TT := TT_of (i := 1) (by decide +kernel) rfl
theorem w_2 : Cond.selects RX3 yX3_spells yX3_spells ∈ TT := TT_of (i := 2) (by decide +kernel) rfl
theorem w_3 : Cond.selects RX3 yX3_nextNumber yX3_nextNumber ∈ TT := TT_of (i := 3) (by decide +kernel) rfl
theorem w_4 : Cond.selects RX3 yX3_readsParts yX3_readsParts ∈ TT := TT_of (i := 4) (by decide +kernel) rfl
theorem w_5 : Cond.selects RX3 yX3_passes yX3_passes ∈ TT := TT_of (i := 5) (by decide +kernel) rfl
theorem w_6 : Cond.selects RX3 yX3_readsOr yX3_readsOr ∈ TT := TT_of (i := 6) (by decide +kernel) rfl
theorem w_7 : Cond.selects RX3 yX3_readsAnd yX3_readsAnd ∈ TT := TT_of (i := 7) (by decide +kernel) rfl
theorem w_8 : Cond.selects RX3 yX3_readsNot yX3_readsNot ∈ TT := TT_of (i := 8) (by decide +kernel) rfl
theorem w_9 : Cond.selects RX3 yX3_readsNotBehindNot yX3_readsNotBehindNot ∈ TT := TT_of (i := 9) (by decide +kernel) rfl
theorem w_10 : Cond.selects RX3 yX3_readsSum yX3_readsSum ∈ TT := TT_of (i := 10) (by decide +kernel) rfl
theorem w_11 : Cond.selects RX3 yX3_readsTerm yX3_readsTerm ∈ TT := TT_of (i := 11) (by decide +kernel) rfl
theorem w_12 : Cond.selects RX3 yX3_readsOne yX3_readsOne ∈ TT := TT_of (i := 12) (by decide +kernel) rfl
theorem w_13 : Cond.selects RX3 yX3_readsOneBehindMinus yX3_readsOneBehindMinus ∈ TT := TT_of (i := 13) (by decide +kernel) rfl
theorem w_14 : Cond.selects RX5 yX5_setHour yX5_setHour ∈ TT := TT_of (i := 14) (by decide +kernel) rfl
theorem w_15 : Cond.selects RX5 yX5_isDiver yX5_isDiver ∈ TT := TT_of (i := 15) (by decide +kernel) rfl
theorem w_16 : Cond.selects RX5 yX5_refusalOfRow yX5_refusalOfRow ∈ TT := TT_of (i := 16) (by decide +kernel) rfl
theorem w_17 : Cond.selects RX5 yX5_refusalOfSheet yX5_refusalOfSheet ∈ TT := TT_of (i := 17) (by decide +kernel) rfl
theorem w_18 : Cond.selects RX5 yX5_fairBehind yX5_fairBehind ∈ TT := TT_of (i := 18) (by decide +kernel) rfl
theorem w_19 : Cond.selects RX5 yX5_refusalOfHours yX5_refusalOfHours ∈ TT := TT_of (i := 19) (by decide +kernel) rfl
theorem w_20 : Cond.selects RX5 yX5_refusalOfTries yX5_refusalOfTries ∈ TT := TT_of (i := 20) (by decide +kernel) rfl
theorem w_21 : Cond.selects RX5 yX5_storm yX5_storm ∈ TT := TT_of (i := 21) (by decide +kernel) rfl
theorem w_22 : Cond.selects RX6 yX6_next yX6_next ∈ TT := TT_of (i := 22) (by decide +kernel) rfl
theorem w_23 : Cond.selects RX6 yX6_wordFrom yX6_wordFrom ∈ TT := TT_of (i := 23) (by decide +kernel) rfl
theorem w_24 : Cond.selects RX6 yX6_eRead yX6_eRead ∈ TT := TT_of (i := 24) (by decide +kernel) rfl
theorem w_25 : Cond.selects RX6 yX6_puts yX6_puts ∈ TT := TT_of (i := 25) (by decide +kernel) rfl
theorem w_26 : Cond.selects RX6 yX6_unwinds yX6_unwinds ∈ TT := TT_of (i := 26) (by decide +kernel) rfl
theorem w_27 : Cond.selects RX6 yX6_opensOne yX6_opensOne ∈ TT := TT_of (i := 27) (by decide +kernel) rfl
theorem w_28 : Cond.selects RX6 yX6_holds yX6_holds ∈ TT := TT_of (i := 28) (by decide +kernel) rfl
theorem w_29 : Cond.selects RX6 yX6_signOf yX6_signOf ∈ TT := TT_of (i := 29) (by decide +kernel) rfl
theorem w_30 : Cond.selects RX6 yX6_between yX6_between ∈ TT := TT_of (i := 30) (by decide +kernel) rfl
theorem w_31 : Cond.selects RX6 yX6_placed yX6_placed ∈ TT := TT_of (i := 31) (by decide +kernel) rfl
theorem w_32 : Cond.selects RX6 yX6_isOne yX6_isOne ∈ TT := TT_of (i := 32) (by decide +kernel) rfl
theorem w_33 : Cond.selects RX6 yX6_asksOf yX6_asksOf ∈ TT := TT_of (i := 33) (by decide +kernel) rfl
theorem w_34 : Cond.selects RX6 yX6_says yX6_says ∈ TT := TT_of (i := 34) (by decide +kernel) rfl
theorem w_35 : Cond.selects RX6 yX6_canSet yX6_canSet ∈ TT := TT_of (i := 35) (by decide +kernel) rfl
theorem w_36 : Cond.selects RX6 yX6_can yX6_can ∈ TT := TT_of (i := 36) (by decide +kernel) rfl
theorem w_37 : Cond.selects RX6 yX6_reachesOf yX6_reachesOf ∈ TT := TT_of (i := 37) (by decide +kernel) rfl
theorem w_38 : Cond.selects RX6 yX6_costsOf yX6_costsOf ∈ TT := TT_of (i := 38) (by decide +kernel) rfl
theorem w_39 : Cond.selects RX6 yX6_breathesOf yX6_breathesOf ∈ TT := TT_of (i := 39) (by decide +kernel) rfl
theorem w_40 : Cond.selects RX6 yX6_diveOf yX6_diveOf ∈ TT := TT_of (i := 40) (by decide +kernel) rfl
theorem w_41 : Cond.selects RX6 yX6_opens0 yX6_opens0 ∈ TT := TT_of (i := 41) (by decide +kernel) rfl
theorem w_42 : Cond.selects RX6 yX6_hourOf yX6_hourOf ∈ TT := TT_of (i := 42) (by decide +kernel) rfl
theorem w_43 : Cond.selects RX6 yX6_main0 yX6_main0 ∈ TT := TT_of (i := 43) (by decide +kernel) rfl
theorem w_44 : Cond.selects RX6 yX6_bayOf yX6_bayOf ∈ TT := TT_of (i := 44) (by decide +kernel) rfl
theorem w_45 : Cond.selects RX6 yX6_fair yX6_fair ∈ TT := TT_of (i := 45) (by decide +kernel) rfl
theorem w_46 : Cond.selects RX6 yX6_keeps yX6_keeps ∈ TT := TT_of (i := 46) (by decide +kernel) rfl
theorem w_47 : Cond.selects RX6 yX6_goes yX6_goes ∈ TT := TT_of (i := 47) (by decide +kernel) rfl
theorem w_48 : Cond.selects RX6 yX6_lays yX6_lays ∈ TT := TT_of (i := 48) (by decide +kernel) rfl
theorem w_49 : Cond.selects RX6 yX6_rowWrong yX6_rowWrong ∈ TT := TT_of (i := 49) (by decide +kernel) rfl
theorem w_50 : Cond.selects RX6 yX6_rowOf yX6_rowOf ∈ TT := TT_of (i := 50) (by decide +kernel) rfl
theorem w_51 : Cond.selects RX6 yX6_fairBehind yX6_fairBehind ∈ TT := TT_of (i := 51) (by decide +kernel) rfl
theorem w_52 : Cond.selects RX6 yX6_leftBy yX6_leftBy ∈ TT := TT_of (i := 52) (by decide +kernel) rfl
theorem w_53 : Cond.selects RX6 yX6_toldWrong yX6_toldWrong ∈ TT := TT_of (i := 53) (by decide +kernel) rfl
theorem w_54 : Cond.selects RX6 yX6_sheetWrong yX6_sheetWrong ∈ TT := TT_of (i := 54) (by decide +kernel) rfl
theorem w_55 : Cond.selects RX6 yX6_unlike yX6_unlike ∈ TT := TT_of (i := 55) (by decide +kernel) rfl
theorem w_56 : Cond.selects RX6 yX6_divesWrong yX6_divesWrong ∈ TT := TT_of (i := 56) (by decide +kernel) rfl
theorem w_57 : Cond.selects RX6 yX6_divesSo yX6_divesSo ∈ TT := TT_of (i := 57) (by decide +kernel) rfl
theorem w_58 : Cond.selects RX6 yX6_storms yX6_storms ∈ TT := TT_of (i := 58) (by decide +kernel) rfl
theorem w_60 : Cond.initialized RX5 ∈ TT := TT_of (i := 60) (by decide +kernel) rfl
theorem w_61 : Cond.initialized RX3 ∈ TT := TT_of (i := 61) (by decide +kernel) rfl
theorem w_62 : Cond.initialized RX4 ∈ TT := TT_of (i := 62) (by decide +kernel) rfl
theorem w_63 : Cond.initialized RX2 ∈ TT := TT_of (i := 63) (by decide +kernel) rfl
theorem w_68 : Cond.initialized RX1 ∈ TT := TT_of (i := 68) (by decide +kernel) rfl
theorem w_69 : Cond.initialized RX6 ∈ TT := TT_of (i := 69) (by decide +kernel) rfl
theorem w_70 : Cond.initialized RJ6 ∈ TT := TT_of (i := 70) (by decide +kernel) rfl
theorem w_72 : Cond.initialized RX0 ∈ TT := TT_of (i := 72) (by decide +kernel) rfl
theorem w_74 : Cond.initialized RJ7 ∈ TT := TT_of (i := 74) (by decide +kernel) rfl
theorem w_89 : Cond.fieldLink RX3 11 (TX3 0).1 (TX3 0).2.1 (TX3 0).2.2.1 ∈ TT := TT_of (i := 89) (by decide +kernel) rfl
theorem w_90 : Cond.fieldLink RX3 15 (TX3 1).1 (TX3 1).2.1 (TX3 1).2.2.1 ∈ TT := TT_of (i := 90) (by decide +kernel) rfl
theorem w_91 : Cond.fieldLink RX5 95 (TX3 1).1 (TX3 1).2.1 (TX3 1).2.2.1 ∈ TT := TT_of (i := 91) (by decide +kernel) rfl
theorem w_92 : Cond.fieldLink RX3 28 (TX3 2).1 (TX3 2).2.1 (TX3 2).2.2.1 ∈ TT := TT_of (i := 92) (by decide +kernel) rfl
theorem w_93 : Cond.fieldLink RX3 38 (TX3 3).1 (TX3 3).2.1 (TX3 3).2.2.1 ∈ TT := TT_of (i := 93) (by decide +kernel) rfl
theorem w_94 : Cond.fieldLink RX3 52 (TX3 4).1 (TX3 4).2.1 (TX3 4).2.2.1 ∈ TT := TT_of (i := 94) (by decide +kernel) rfl
theorem w_95 : Cond.fieldLink RX3 79 (TX3 5).1 (TX3 5).2.1 (TX3 5).2.2.1 ∈ TT := TT_of (i := 95) (by decide +kernel) rfl
theorem w_96 : Cond.fieldLink RX3 19 (TX3 6).1 (TX3 6).2.1 (TX3 6).2.2.1 ∈ TT := TT_of (i := 96) (by decide +kernel) rfl
theorem w_123 : Cond.fieldLink RX5 92 (TX4 0).1 (TX4 0).2.1 (TX4 0).2.2.1 ∈ TT := TT_of (i := 123) (by decide +kernel) rfl
theorem w_124 : Cond.fieldLink RX4 11 (TX4 1).1 (TX4 1).2.1 (TX4 1).2.2.1 ∈ TT := TT_of (i := 124) (by decide +kernel) rfl
theorem w_125 : Cond.fieldLink RX4 30 (TX4 2).1 (TX4 2).2.1 (TX4 2).2.2.1 ∈ TT := TT_of (i := 125) (by decide +kernel) rfl
theorem w_126 : Cond.fieldLink RX4 17 (TX4 3).1 (TX4 3).2.1 (TX4 3).2.2.1 ∈ TT := TT_of (i := 126) (by decide +kernel) rfl
theorem w_127 : Cond.fieldLink RX4 20 (TX4 4).1 (TX4 4).2.1 (TX4 4).2.2.1 ∈ TT := TT_of (i := 127) (by decide +kernel) rfl
theorem w_128 : Cond.fieldLink RX4 23 (TX4 5).1 (TX4 5).2.1 (TX4 5).2.2.1 ∈ TT := TT_of (i := 128) (by decide +kernel) rfl
theorem w_147 : Cond.fieldLink RX2 9 (TX2 0).1 (TX2 0).2.1 (TX2 0).2.2.1 ∈ TT := TT_of (i := 147) (by decide +kernel) rfl
theorem w_148 : Cond.fieldLink RX1 92 (TX2 0).1 (TX2 0).2.1 (TX2 0).2.2.1 ∈ TT := TT_of (i := 148) (by decide +kernel) rfl
theorem w_149 : Cond.fieldLink RX5 299 (TX2 0).1 (TX2 0).2.1 (TX2 0).2.2.1 ∈ TT := TT_of (i := 149) (by decide +kernel) rfl
theorem w_150 : Cond.fieldLink RX2 13 (TX2 1).1 (TX2 1).2.1 (TX2 1).2.2.1 ∈ TT := TT_of (i := 150) (by decide +kernel) rfl
theorem w_151 : Cond.fieldLink RX5 294 (TX2 1).1 (TX2 1).2.1 (TX2 1).2.2.1 ∈ TT := TT_of (i := 151) (by decide +kernel) rfl
theorem w_152 : Cond.fieldLink RX2 23 (TX2 2).1 (TX2 2).2.1 (TX2 2).2.2.1 ∈ TT := TT_of (i := 152) (by decide +kernel) rfl
theorem w_153 : Cond.fieldLink RX1 87 (TX2 2).1 (TX2 2).2.1 (TX2 2).2.2.1 ∈ TT := TT_of (i := 153) (by decide +kernel) rfl
theorem w_154 : Cond.fieldLink RX5 209 (TX2 2).1 (TX2 2).2.1 (TX2 2).2.2.1 ∈ TT := TT_of (i := 154) (by decide +kernel) rfl
theorem w_211 : Cond.methodLink RX5 44 yX3_add ∈ TT := TT_of (i := 211) (by decide +kernel) rfl
theorem w_212 : Cond.instanceMethod yX3_add ∈ TT := TT_of (i := 212) (by decide +kernel) rfl
theorem w_213 : Cond.selects RX3 yX3_add yX3_add ∈ TT := TT_of (i := 213) (by decide +kernel) rfl
theorem w_214 : Cond.code yX3_add cX3_add 2 none ∈ TT := TT_of (i := 214) (by decide +kernel) rfl
theorem w_215 : Cond.methodLink RX5 47 yX3_readInto ∈ TT := TT_of (i := 215) (by decide +kernel) rfl
theorem w_216 : Cond.instanceMethod yX3_readInto ∈ TT := TT_of (i := 216) (by decide +kernel) rfl
theorem w_217 : Cond.selects RX3 yX3_readInto yX3_readInto ∈ TT := TT_of (i := 217) (by decide +kernel) rfl
theorem w_218 : Cond.code yX3_readInto cX3_readInto 2 (some .int) ∈ TT := TT_of (i := 218) (by decide +kernel) rfl
theorem w_219 : Cond.methodLink RX3 23 yX4_clear ∈ TT := TT_of (i := 219) (by decide +kernel) rfl
theorem w_220 : Cond.instanceMethod yX4_clear ∈ TT := TT_of (i := 220) (by decide +kernel) rfl
theorem w_221 : Cond.selects RX4 yX4_clear yX4_clear ∈ TT := TT_of (i := 221) (by decide +kernel) rfl
theorem w_222 : Cond.code yX4_clear cX4_clear 1 none ∈ TT := TT_of (i := 222) (by decide +kernel) rfl
theorem w_223 : Cond.methodLink RX3 31 yX3_next ∈ TT := TT_of (i := 223) (by decide +kernel) rfl
theorem w_225 : Cond.instanceMethod yX3_next ∈ TT := TT_of (i := 225) (by decide +kernel) rfl
theorem w_226 : Cond.code yX3_next cX3_next 1 none ∈ TT := TT_of (i := 226) (by decide +kernel) rfl
theorem w_227 : Cond.methodLink RX3 85 yX3_isBlank ∈ TT := TT_of (i := 227) (by decide +kernel) rfl
theorem w_228 : Cond.static yX3_isBlank ∈ TT := TT_of (i := 228) (by decide +kernel) rfl
theorem w_229 : Cond.code yX3_isBlank cX3_isBlank 1 (some .boolean) ∈ TT := TT_of (i := 229) (by decide +kernel) rfl
theorem w_230 : Cond.methodLink RX3 88 yX3_isLetter ∈ TT := TT_of (i := 230) (by decide +kernel) rfl
theorem w_231 : Cond.static yX3_isLetter ∈ TT := TT_of (i := 231) (by decide +kernel) rfl
theorem w_232 : Cond.code yX3_isLetter cX3_isLetter 1 (some .boolean) ∈ TT := TT_of (i := 232) (by decide +kernel) rfl
theorem w_233 : Cond.methodLink RX3 91 yX3_nextWord ∈ TT := TT_of (i := 233) (by decide +kernel) rfl
theorem w_235 : Cond.instanceMethod yX3_nextWord ∈ TT := TT_of (i := 235) (by decide +kernel) rfl
theorem w_236 : Cond.code yX3_nextWord cX3_nextWord 4 none ∈ TT := TT_of (i := 236) (by decide +kernel) rfl
theorem w_238 : Cond.methodLink RX3 105 yJ0_length_8abf5 ∈ TT := TT_of (i := 238) (by decide +kernel) rfl
theorem w_239 : Cond.methodLink RX3 111 yJ0_charAt_5068e ∈ TT := TT_of (i := 239) (by decide +kernel) rfl
theorem w_240 : Cond.methodLink RX3 115 yX3_spells ∈ TT := TT_of (i := 240) (by decide +kernel) rfl
theorem w_242 : Cond.instanceMethod yX3_spells ∈ TT := TT_of (i := 242) (by decide +kernel) rfl
theorem w_243 : Cond.code yX3_spells cX3_spells 4 (some .boolean) ∈ TT := TT_of (i := 243) (by decide +kernel) rfl
theorem w_244 : Cond.methodLink RX3 94 yX3_isDigit ∈ TT := TT_of (i := 244) (by decide +kernel) rfl
theorem w_245 : Cond.static yX3_isDigit ∈ TT := TT_of (i := 245) (by decide +kernel) rfl
theorem w_246 : Cond.code yX3_isDigit cX3_isDigit 1 (some .boolean) ∈ TT := TT_of (i := 246) (by decide +kernel) rfl
theorem w_247 : Cond.methodLink RX3 97 yX3_nextNumber ∈ TT := TT_of (i := 247) (by decide +kernel) rfl
theorem w_249 : Cond.instanceMethod yX3_nextNumber ∈ TT := TT_of (i := 249) (by decide +kernel) rfl
theorem w_250 : Cond.code yX3_nextNumber cX3_nextNumber 1 none ∈ TT := TT_of (i := 250) (by decide +kernel) rfl
theorem w_251 : Cond.methodLink RX3 100 yX3_isSign ∈ TT := TT_of (i := 251) (by decide +kernel) rfl
theorem w_252 : Cond.static yX3_isSign ∈ TT := TT_of (i := 252) (by decide +kernel) rfl
theorem w_253 : Cond.code yX3_isSign cX3_isSign 1 (some .boolean) ∈ TT := TT_of (i := 253) (by decide +kernel) rfl
theorem w_254 : Cond.methodLink RX3 34 yX3_readsParts ∈ TT := TT_of (i := 254) (by decide +kernel) rfl
theorem w_256 : Cond.instanceMethod yX3_readsParts ∈ TT := TT_of (i := 256) (by decide +kernel) rfl
theorem w_257 : Cond.code yX3_readsParts cX3_readsParts 2 (some .boolean) ∈ TT := TT_of (i := 257) (by decide +kernel) rfl
theorem w_258 : Cond.methodLink RX3 41 yX3_passes ∈ TT := TT_of (i := 258) (by decide +kernel) rfl
theorem w_260 : Cond.instanceMethod yX3_passes ∈ TT := TT_of (i := 260) (by decide +kernel) rfl
theorem w_261 : Cond.code yX3_passes cX3_passes 2 (some .boolean) ∈ TT := TT_of (i := 261) (by decide +kernel) rfl
theorem w_262 : Cond.methodLink RX3 45 yX3_readsOr ∈ TT := TT_of (i := 262) (by decide +kernel) rfl
theorem w_264 : Cond.instanceMethod yX3_readsOr ∈ TT := TT_of (i := 264) (by decide +kernel) rfl
theorem w_265 : Cond.code yX3_readsOr cX3_readsOr 4 (some .boolean) ∈ TT := TT_of (i := 265) (by decide +kernel) rfl
theorem w_266 : Cond.methodLink RX3 55 yX3_readsAnd ∈ TT := TT_of (i := 266) (by decide +kernel) rfl
theorem w_268 : Cond.instanceMethod yX3_readsAnd ∈ TT := TT_of (i := 268) (by decide +kernel) rfl
theorem w_269 : Cond.code yX3_readsAnd cX3_readsAnd 4 (some .boolean) ∈ TT := TT_of (i := 269) (by decide +kernel) rfl
theorem w_270 : Cond.methodLink RX3 61 yX3_readsNot ∈ TT := TT_of (i := 270) (by decide +kernel) rfl
theorem w_272 : Cond.instanceMethod yX3_readsNot ∈ TT := TT_of (i := 272) (by decide +kernel) rfl
theorem w_273 : Cond.code yX3_readsNot cX3_readsNot 4 (some .boolean) ∈ TT := TT_of (i := 273) (by decide +kernel) rfl
theorem w_274 : Cond.methodLink RX3 64 yX3_readsNotBehindNot ∈ TT := TT_of (i := 274) (by decide +kernel) rfl
theorem w_276 : Cond.instanceMethod yX3_readsNotBehindNot ∈ TT := TT_of (i := 276) (by decide +kernel) rfl
theorem w_277 : Cond.code yX3_readsNotBehindNot cX3_readsNotBehindNot 3 (some .boolean) ∈ TT := TT_of (i := 277) (by decide +kernel) rfl
theorem w_278 : Cond.methodLink RX3 58 yX4_add ∈ TT := TT_of (i := 278) (by decide +kernel) rfl
theorem w_279 : Cond.instanceMethod yX4_add ∈ TT := TT_of (i := 279) (by decide +kernel) rfl
theorem w_280 : Cond.selects RX4 yX4_add yX4_add ∈ TT := TT_of (i := 280) (by decide +kernel) rfl
theorem w_281 : Cond.code yX4_add cX4_add 2 none ∈ TT := TT_of (i := 281) (by decide +kernel) rfl
theorem w_282 : Cond.methodLink RX3 67 yX3_readsSum ∈ TT := TT_of (i := 282) (by decide +kernel) rfl
theorem w_284 : Cond.instanceMethod yX3_readsSum ∈ TT := TT_of (i := 284) (by decide +kernel) rfl
theorem w_285 : Cond.code yX3_readsSum cX3_readsSum 5 (some .boolean) ∈ TT := TT_of (i := 285) (by decide +kernel) rfl
theorem w_286 : Cond.methodLink RX3 70 yX3_readsTerm ∈ TT := TT_of (i := 286) (by decide +kernel) rfl
theorem w_288 : Cond.instanceMethod yX3_readsTerm ∈ TT := TT_of (i := 288) (by decide +kernel) rfl
theorem w_289 : Cond.code yX3_readsTerm cX3_readsTerm 4 (some .boolean) ∈ TT := TT_of (i := 289) (by decide +kernel) rfl
theorem w_290 : Cond.methodLink RX3 73 yX3_readsOne ∈ TT := TT_of (i := 290) (by decide +kernel) rfl
theorem w_292 : Cond.instanceMethod yX3_readsOne ∈ TT := TT_of (i := 292) (by decide +kernel) rfl
theorem w_293 : Cond.code yX3_readsOne cX3_readsOne 2 (some .boolean) ∈ TT := TT_of (i := 293) (by decide +kernel) rfl
theorem w_294 : Cond.methodLink RX3 76 yX3_isName ∈ TT := TT_of (i := 294) (by decide +kernel) rfl
theorem w_295 : Cond.static yX3_isName ∈ TT := TT_of (i := 295) (by decide +kernel) rfl
theorem w_296 : Cond.code yX3_isName cX3_isName 1 (some .boolean) ∈ TT := TT_of (i := 296) (by decide +kernel) rfl
theorem w_297 : Cond.methodLink RX3 82 yX3_readsOneBehindMinus ∈ TT := TT_of (i := 297) (by decide +kernel) rfl
theorem w_299 : Cond.instanceMethod yX3_readsOneBehindMinus ∈ TT := TT_of (i := 299) (by decide +kernel) rfl
theorem w_300 : Cond.code yX3_readsOneBehindMinus cX3_readsOneBehindMinus 3 (some .boolean) ∈ TT := TT_of (i := 300) (by decide +kernel) rfl
theorem w_301 : Cond.methodLink RX3 48 yX4_endPart ∈ TT := TT_of (i := 301) (by decide +kernel) rfl
theorem w_302 : Cond.instanceMethod yX4_endPart ∈ TT := TT_of (i := 302) (by decide +kernel) rfl
theorem w_303 : Cond.selects RX4 yX4_endPart yX4_endPart ∈ TT := TT_of (i := 303) (by decide +kernel) rfl
theorem w_304 : Cond.code yX4_endPart cX4_endPart 2 none ∈ TT := TT_of (i := 304) (by decide +kernel) rfl
theorem w_305 : Cond.methodLink RX5 51 yX3_clear ∈ TT := TT_of (i := 305) (by decide +kernel) rfl
theorem w_306 : Cond.instanceMethod yX3_clear ∈ TT := TT_of (i := 306) (by decide +kernel) rfl
theorem w_307 : Cond.selects RX3 yX3_clear yX3_clear ∈ TT := TT_of (i := 307) (by decide +kernel) rfl
theorem w_308 : Cond.code yX3_clear cX3_clear 1 none ∈ TT := TT_of (i := 308) (by decide +kernel) rfl
theorem w_315 : Cond.fieldLink RX1 9 (TX1 0).1 (TX1 0).2.1 (TX1 0).2.2.1 ∈ TT := TT_of (i := 315) (by decide +kernel) rfl
theorem w_316 : Cond.fieldLink RX5 120 (TX1 0).1 (TX1 0).2.1 (TX1 0).2.2.1 ∈ TT := TT_of (i := 316) (by decide +kernel) rfl
theorem w_317 : Cond.fieldLink RX1 15 (TX1 1).1 (TX1 1).2.1 (TX1 1).2.2.1 ∈ TT := TT_of (i := 317) (by decide +kernel) rfl
theorem w_318 : Cond.fieldLink RX5 186 (TX1 1).1 (TX1 1).2.1 (TX1 1).2.2.1 ∈ TT := TT_of (i := 318) (by decide +kernel) rfl
theorem w_319 : Cond.fieldLink RX1 18 (TX1 2).1 (TX1 2).2.1 (TX1 2).2.2.1 ∈ TT := TT_of (i := 319) (by decide +kernel) rfl
theorem w_320 : Cond.fieldLink RX5 229 (TX1 2).1 (TX1 2).2.1 (TX1 2).2.2.1 ∈ TT := TT_of (i := 320) (by decide +kernel) rfl
theorem w_321 : Cond.fieldLink RX1 21 (TX1 3).1 (TX1 3).2.1 (TX1 3).2.2.1 ∈ TT := TT_of (i := 321) (by decide +kernel) rfl
theorem w_322 : Cond.fieldLink RX5 222 (TX1 3).1 (TX1 3).2.1 (TX1 3).2.2.1 ∈ TT := TT_of (i := 322) (by decide +kernel) rfl
theorem w_323 : Cond.fieldLink RX1 24 (TX1 4).1 (TX1 4).2.1 (TX1 4).2.2.1 ∈ TT := TT_of (i := 323) (by decide +kernel) rfl
theorem w_324 : Cond.fieldLink RX5 180 (TX1 4).1 (TX1 4).2.1 (TX1 4).2.2.1 ∈ TT := TT_of (i := 324) (by decide +kernel) rfl
theorem w_325 : Cond.fieldLink RX1 27 (TX1 5).1 (TX1 5).2.1 (TX1 5).2.2.1 ∈ TT := TT_of (i := 325) (by decide +kernel) rfl
theorem w_326 : Cond.fieldLink RX5 153 (TX1 5).1 (TX1 5).2.1 (TX1 5).2.2.1 ∈ TT := TT_of (i := 326) (by decide +kernel) rfl
theorem w_327 : Cond.fieldLink RX1 30 (TX1 6).1 (TX1 6).2.1 (TX1 6).2.2.1 ∈ TT := TT_of (i := 327) (by decide +kernel) rfl
theorem w_328 : Cond.fieldLink RX5 156 (TX1 6).1 (TX1 6).2.1 (TX1 6).2.2.1 ∈ TT := TT_of (i := 328) (by decide +kernel) rfl
theorem w_329 : Cond.fieldLink RX1 33 (TX1 7).1 (TX1 7).2.1 (TX1 7).2.2.1 ∈ TT := TT_of (i := 329) (by decide +kernel) rfl
theorem w_330 : Cond.fieldLink RX5 147 (TX1 7).1 (TX1 7).2.1 (TX1 7).2.2.1 ∈ TT := TT_of (i := 330) (by decide +kernel) rfl
theorem w_331 : Cond.fieldLink RX1 36 (TX1 8).1 (TX1 8).2.1 (TX1 8).2.2.1 ∈ TT := TT_of (i := 331) (by decide +kernel) rfl
theorem w_332 : Cond.fieldLink RX5 150 (TX1 8).1 (TX1 8).2.1 (TX1 8).2.2.1 ∈ TT := TT_of (i := 332) (by decide +kernel) rfl
theorem w_333 : Cond.fieldLink RX5 73 (TX1 9).1 (TX1 9).2.1 (TX1 9).2.2.1 ∈ TT := TT_of (i := 333) (by decide +kernel) rfl
theorem w_334 : Cond.fieldLink RX1 49 (TX1 9).1 (TX1 9).2.1 (TX1 9).2.2.1 ∈ TT := TT_of (i := 334) (by decide +kernel) rfl
theorem w_335 : Cond.fieldLink RX5 85 (TX1 10).1 (TX1 10).2.1 (TX1 10).2.2.1 ∈ TT := TT_of (i := 335) (by decide +kernel) rfl
theorem w_336 : Cond.fieldLink RX1 53 (TX1 10).1 (TX1 10).2.1 (TX1 10).2.2.1 ∈ TT := TT_of (i := 336) (by decide +kernel) rfl
theorem w_337 : Cond.fieldLink RX1 39 (TX1 11).1 (TX1 11).2.1 (TX1 11).2.2.1 ∈ TT := TT_of (i := 337) (by decide +kernel) rfl
theorem w_338 : Cond.fieldLink RX5 88 (TX1 11).1 (TX1 11).2.1 (TX1 11).2.2.1 ∈ TT := TT_of (i := 338) (by decide +kernel) rfl
theorem w_365 : Cond.fieldLink RX5 10 (TX5 0).1 (TX5 0).2.1 (TX5 0).2.2.1 ∈ TT := TT_of (i := 365) (by decide +kernel) rfl
theorem w_366 : Cond.fieldLink RX5 18 (TX5 1).1 (TX5 1).2.1 (TX5 1).2.2.1 ∈ TT := TT_of (i := 366) (by decide +kernel) rfl
theorem w_367 : Cond.fieldLink RX5 54 (TX5 2).1 (TX5 2).2.1 (TX5 2).2.2.1 ∈ TT := TT_of (i := 367) (by decide +kernel) rfl
theorem w_368 : Cond.fieldLink RX5 24 (TX5 3).1 (TX5 3).2.1 (TX5 3).2.2.1 ∈ TT := TT_of (i := 368) (by decide +kernel) rfl
theorem w_369 : Cond.fieldLink RX5 63 (TX5 4).1 (TX5 4).2.1 (TX5 4).2.2.1 ∈ TT := TT_of (i := 369) (by decide +kernel) rfl
theorem w_370 : Cond.fieldLink RX5 67 (TX5 5).1 (TX5 5).2.1 (TX5 5).2.2.1 ∈ TT := TT_of (i := 370) (by decide +kernel) rfl
theorem w_371 : Cond.fieldLink RX5 70 (TX5 6).1 (TX5 6).2.1 (TX5 6).2.2.1 ∈ TT := TT_of (i := 371) (by decide +kernel) rfl
theorem w_372 : Cond.fieldLink RX5 290 (TX5 7).1 (TX5 7).2.1 (TX5 7).2.2.1 ∈ TT := TT_of (i := 372) (by decide +kernel) rfl
theorem w_391 : Cond.instanceMethod yX5_count ∈ TT := TT_of (i := 391) (by decide +kernel) rfl
theorem w_392 : Cond.selects RX5 yX5_count yX5_count ∈ TT := TT_of (i := 392) (by decide +kernel) rfl
theorem w_393 : Cond.code yX5_count cX5_count 2 (some .int) ∈ TT := TT_of (i := 393) (by decide +kernel) rfl
theorem w_394 : Cond.methodLink RX5 76 yX1_casksAt ∈ TT := TT_of (i := 394) (by decide +kernel) rfl
theorem w_395 : Cond.instanceMethod yX1_casksAt ∈ TT := TT_of (i := 395) (by decide +kernel) rfl
theorem w_396 : Cond.selects RX1 yX1_casksAt yX1_casksAt ∈ TT := TT_of (i := 396) (by decide +kernel) rfl
theorem w_397 : Cond.code yX1_casksAt cX1_casksAt 4 (some .int) ∈ TT := TT_of (i := 397) (by decide +kernel) rfl
theorem w_398 : Cond.methodLink RX5 80 yJ6_bitCount_0f7a4 ∈ TT := TT_of (i := 398) (by decide +kernel) rfl
theorem w_399 : Cond.static yJ6_bitCount_0f7a4 ∈ TT := TT_of (i := 399) (by decide +kernel) rfl
theorem w_400 : Cond.code yJ6_bitCount_0f7a4 cJ6_bitCount_0f7a4 1 (some .int) ∈ TT := TT_of (i := 400) (by decide +kernel) rfl
theorem w_401 : Cond.constant RJ6 265 (1431655765 : Int32) ∈ TT := TT_of (i := 401) (by decide +kernel) rfl
theorem w_402 : Cond.constant RJ6 266 (858993459 : Int32) ∈ TT := TT_of (i := 402) (by decide +kernel) rfl
theorem w_403 : Cond.constant RJ6 267 (252645135 : Int32) ∈ TT := TT_of (i := 403) (by decide +kernel) rfl
theorem w_405 : Cond.instanceMethod yX5_cask ∈ TT := TT_of (i := 405) (by decide +kernel) rfl
theorem w_406 : Cond.selects RX5 yX5_cask yX5_cask ∈ TT := TT_of (i := 406) (by decide +kernel) rfl
theorem w_407 : Cond.code yX5_cask cX5_cask 6 (some .int) ∈ TT := TT_of (i := 407) (by decide +kernel) rfl
theorem w_408 : Cond.methodLink RX5 98 yX5_isCask ∈ TT := TT_of (i := 408) (by decide +kernel) rfl
theorem w_409 : Cond.static yX5_isCask ∈ TT := TT_of (i := 409) (by decide +kernel) rfl
theorem w_410 : Cond.code yX5_isCask cX5_isCask 1 (some .boolean) ∈ TT := TT_of (i := 410) (by decide +kernel) rfl
theorem w_411 : Cond.methodLink RX5 106 yX5_isWithin ∈ TT := TT_of (i := 411) (by decide +kernel) rfl
theorem w_412 : Cond.static yX5_isWithin ∈ TT := TT_of (i := 412) (by decide +kernel) rfl
theorem w_413 : Cond.code yX5_isWithin cX5_isWithin 2 (some .boolean) ∈ TT := TT_of (i := 413) (by decide +kernel) rfl
theorem w_414 : Cond.fieldLink RX5 102 "SalvageOfDays" "CASK_MOST" "[I" ∈ TT := TT_of (i := 414) (by decide +kernel) rfl
theorem w_416 : Cond.methodLink RX5 110 yX1_caskRow ∈ TT := TT_of (i := 416) (by decide +kernel) rfl
theorem w_417 : Cond.instanceMethod yX1_caskRow ∈ TT := TT_of (i := 417) (by decide +kernel) rfl
theorem w_418 : Cond.selects RX1 yX1_caskRow yX1_caskRow ∈ TT := TT_of (i := 418) (by decide +kernel) rfl
theorem w_419 : Cond.code yX1_caskRow cX1_caskRow 2 (some (.array .int)) ∈ TT := TT_of (i := 419) (by decide +kernel) rfl
theorem w_421 : Cond.instanceMethod yX5_lies ∈ TT := TT_of (i := 421) (by decide +kernel) rfl
theorem w_422 : Cond.selects RX5 yX5_lies yX5_lies ∈ TT := TT_of (i := 422) (by decide +kernel) rfl
theorem w_423 : Cond.code yX5_lies cX5_lies 3 (some .int) ∈ TT := TT_of (i := 423) (by decide +kernel) rfl
theorem w_425 : Cond.instanceMethod yX5_sky ∈ TT := TT_of (i := 425) (by decide +kernel) rfl
theorem w_426 : Cond.selects RX5 yX5_sky yX5_sky ∈ TT := TT_of (i := 426) (by decide +kernel) rfl
theorem w_427 : Cond.code yX5_sky cX5_sky 4 (some .int) ∈ TT := TT_of (i := 427) (by decide +kernel) rfl
theorem w_428 : Cond.methodLink RX5 114 yX5_setHour ∈ TT := TT_of (i := 428) (by decide +kernel) rfl
theorem w_430 : Cond.instanceMethod yX5_setHour ∈ TT := TT_of (i := 430) (by decide +kernel) rfl
theorem w_431 : Cond.code yX5_setHour cX5_setHour 3 (some .int) ∈ TT := TT_of (i := 431) (by decide +kernel) rfl
theorem w_432 : Cond.methodLink RX5 117 yX5_isSort ∈ TT := TT_of (i := 432) (by decide +kernel) rfl
theorem w_433 : Cond.static yX5_isSort ∈ TT := TT_of (i := 433) (by decide +kernel) rfl
theorem w_434 : Cond.code yX5_isSort cX5_isSort 1 (some .boolean) ∈ TT := TT_of (i := 434) (by decide +kernel) rfl
theorem w_436 : Cond.instanceMethod yX5_feed ∈ TT := TT_of (i := 436) (by decide +kernel) rfl
theorem w_437 : Cond.selects RX5 yX5_feed yX5_feed ∈ TT := TT_of (i := 437) (by decide +kernel) rfl
theorem w_438 : Cond.code yX5_feed cX5_feed 7 (some .int) ∈ TT := TT_of (i := 438) (by decide +kernel) rfl
theorem w_439 : Cond.methodLink RX5 123 yX5_areBytes ∈ TT := TT_of (i := 439) (by decide +kernel) rfl
theorem w_440 : Cond.static yX5_areBytes ∈ TT := TT_of (i := 440) (by decide +kernel) rfl
theorem w_441 : Cond.code yX5_areBytes cX5_areBytes 5 (some .boolean) ∈ TT := TT_of (i := 441) (by decide +kernel) rfl
theorem w_442 : Cond.methodLink RX5 127 yX3_hasRoom ∈ TT := TT_of (i := 442) (by decide +kernel) rfl
theorem w_443 : Cond.instanceMethod yX3_hasRoom ∈ TT := TT_of (i := 443) (by decide +kernel) rfl
theorem w_444 : Cond.selects RX3 yX3_hasRoom yX3_hasRoom ∈ TT := TT_of (i := 444) (by decide +kernel) rfl
theorem w_445 : Cond.code yX3_hasRoom cX3_hasRoom 2 (some .boolean) ∈ TT := TT_of (i := 445) (by decide +kernel) rfl
theorem w_447 : Cond.instanceMethod yX5_text ∈ TT := TT_of (i := 447) (by decide +kernel) rfl
theorem w_448 : Cond.selects RX5 yX5_text yX5_text ∈ TT := TT_of (i := 448) (by decide +kernel) rfl
theorem w_449 : Cond.code yX5_text cX5_text 2 (some .int) ∈ TT := TT_of (i := 449) (by decide +kernel) rfl
theorem w_451 : Cond.instanceMethod yX5_force ∈ TT := TT_of (i := 451) (by decide +kernel) rfl
theorem w_452 : Cond.selects RX5 yX5_force yX5_force ∈ TT := TT_of (i := 452) (by decide +kernel) rfl
theorem w_453 : Cond.code yX5_force cX5_force 3 (some .int) ∈ TT := TT_of (i := 453) (by decide +kernel) rfl
theorem w_455 : Cond.instanceMethod yX5_asks ∈ TT := TT_of (i := 455) (by decide +kernel) rfl
theorem w_456 : Cond.selects RX5 yX5_asks yX5_asks ∈ TT := TT_of (i := 456) (by decide +kernel) rfl
theorem w_457 : Cond.code yX5_asks cX5_asks 4 (some .int) ∈ TT := TT_of (i := 457) (by decide +kernel) rfl
theorem w_458 : Cond.methodLink RX5 130 yX1_fading ∈ TT := TT_of (i := 458) (by decide +kernel) rfl
theorem w_459 : Cond.instanceMethod yX1_fading ∈ TT := TT_of (i := 459) (by decide +kernel) rfl
theorem w_460 : Cond.selects RX1 yX1_fading yX1_fading ∈ TT := TT_of (i := 460) (by decide +kernel) rfl
theorem w_461 : Cond.code yX1_fading cX1_fading 4 (some .int) ∈ TT := TT_of (i := 461) (by decide +kernel) rfl
theorem w_462 : Cond.methodLink RX1 58 yX4_says ∈ TT := TT_of (i := 462) (by decide +kernel) rfl
theorem w_463 : Cond.instanceMethod yX4_says ∈ TT := TT_of (i := 463) (by decide +kernel) rfl
theorem w_464 : Cond.selects RX4 yX4_says yX4_says ∈ TT := TT_of (i := 464) (by decide +kernel) rfl
theorem w_465 : Cond.code yX4_says cX4_says 11 (some .int) ∈ TT := TT_of (i := 465) (by decide +kernel) rfl
theorem w_466 : Cond.methodLink RX4 33 yX3_isName ∈ TT := TT_of (i := 466) (by decide +kernel) rfl
theorem w_467 : Cond.methodLink RX4 37 yX4_joined ∈ TT := TT_of (i := 467) (by decide +kernel) rfl
theorem w_468 : Cond.static yX4_joined ∈ TT := TT_of (i := 468) (by decide +kernel) rfl
theorem w_469 : Cond.code yX4_joined cX4_joined 3 (some .int) ∈ TT := TT_of (i := 469) (by decide +kernel) rfl
theorem w_470 : Cond.methodLink RX4 41 Lib.Math.min.name ∈ TT := TT_of (i := 470) (by decide +kernel) rfl
theorem w_473 : Cond.methodLink RX4 47 Lib.Math.max.name ∈ TT := TT_of (i := 473) (by decide +kernel) rfl
theorem w_476 : Cond.methodLink RX5 134 yX5_isDiver ∈ TT := TT_of (i := 476) (by decide +kernel) rfl
theorem w_478 : Cond.instanceMethod yX5_isDiver ∈ TT := TT_of (i := 478) (by decide +kernel) rfl
theorem w_479 : Cond.code yX5_isDiver cX5_isDiver 2 (some .boolean) ∈ TT := TT_of (i := 479) (by decide +kernel) rfl
theorem w_480 : Cond.methodLink RX5 137 yX1_saidReach ∈ TT := TT_of (i := 480) (by decide +kernel) rfl
theorem w_481 : Cond.instanceMethod yX1_saidReach ∈ TT := TT_of (i := 481) (by decide +kernel) rfl
theorem w_482 : Cond.selects RX1 yX1_saidReach yX1_saidReach ∈ TT := TT_of (i := 482) (by decide +kernel) rfl
theorem w_483 : Cond.code yX1_saidReach cX1_saidReach 3 (some .int) ∈ TT := TT_of (i := 483) (by decide +kernel) rfl
theorem w_484 : Cond.methodLink RX5 141 yX1_saidCost ∈ TT := TT_of (i := 484) (by decide +kernel) rfl
theorem w_485 : Cond.instanceMethod yX1_saidCost ∈ TT := TT_of (i := 485) (by decide +kernel) rfl
theorem w_486 : Cond.selects RX1 yX1_saidCost yX1_saidCost ∈ TT := TT_of (i := 486) (by decide +kernel) rfl
theorem w_487 : Cond.code yX1_saidCost cX1_saidCost 3 (some .int) ∈ TT := TT_of (i := 487) (by decide +kernel) rfl
theorem w_489 : Cond.instanceMethod yX5_diver ∈ TT := TT_of (i := 489) (by decide +kernel) rfl
theorem w_490 : Cond.selects RX5 yX5_diver yX5_diver ∈ TT := TT_of (i := 490) (by decide +kernel) rfl
theorem w_491 : Cond.code yX5_diver cX5_diver 3 (some .int) ∈ TT := TT_of (i := 491) (by decide +kernel) rfl
theorem w_492 : Cond.methodLink RX5 144 yX1_comes ∈ TT := TT_of (i := 492) (by decide +kernel) rfl
theorem w_493 : Cond.instanceMethod yX1_comes ∈ TT := TT_of (i := 493) (by decide +kernel) rfl
theorem w_494 : Cond.selects RX1 yX1_comes yX1_comes ∈ TT := TT_of (i := 494) (by decide +kernel) rfl
theorem w_495 : Cond.code yX1_comes cX1_comes 5 (some .int) ∈ TT := TT_of (i := 495) (by decide +kernel) rfl
theorem w_497 : Cond.instanceMethod yX5_put ∈ TT := TT_of (i := 497) (by decide +kernel) rfl
theorem w_498 : Cond.selects RX5 yX5_put yX5_put ∈ TT := TT_of (i := 498) (by decide +kernel) rfl
theorem w_499 : Cond.code yX5_put cX5_put 4 (some .int) ∈ TT := TT_of (i := 499) (by decide +kernel) rfl
theorem w_501 : Cond.instanceMethod yX5_told ∈ TT := TT_of (i := 501) (by decide +kernel) rfl
theorem w_502 : Cond.selects RX5 yX5_told yX5_told ∈ TT := TT_of (i := 502) (by decide +kernel) rfl
theorem w_503 : Cond.code yX5_told cX5_told 3 (some .int) ∈ TT := TT_of (i := 503) (by decide +kernel) rfl
theorem w_504 : Cond.methodLink RX5 159 yX1_casksFor ∈ TT := TT_of (i := 504) (by decide +kernel) rfl
theorem w_505 : Cond.instanceMethod yX1_casksFor ∈ TT := TT_of (i := 505) (by decide +kernel) rfl
theorem w_506 : Cond.selects RX1 yX1_casksFor yX1_casksFor ∈ TT := TT_of (i := 506) (by decide +kernel) rfl
theorem w_507 : Cond.code yX1_casksFor cX1_casksFor 4 (some .int) ∈ TT := TT_of (i := 507) (by decide +kernel) rfl
theorem w_508 : Cond.methodLink RX1 83 yX1_can ∈ TT := TT_of (i := 508) (by decide +kernel) rfl
theorem w_509 : Cond.instanceMethod yX1_can ∈ TT := TT_of (i := 509) (by decide +kernel) rfl
theorem w_510 : Cond.selects RX1 yX1_can yX1_can ∈ TT := TT_of (i := 510) (by decide +kernel) rfl
theorem w_511 : Cond.code yX1_can cX1_can 3 (some .boolean) ∈ TT := TT_of (i := 511) (by decide +kernel) rfl
theorem w_512 : Cond.methodLink RX1 79 yX1_reach ∈ TT := TT_of (i := 512) (by decide +kernel) rfl
theorem w_513 : Cond.instanceMethod yX1_reach ∈ TT := TT_of (i := 513) (by decide +kernel) rfl
theorem w_514 : Cond.selects RX1 yX1_reach yX1_reach ∈ TT := TT_of (i := 514) (by decide +kernel) rfl
theorem w_515 : Cond.code yX1_reach cX1_reach 3 (some .int) ∈ TT := TT_of (i := 515) (by decide +kernel) rfl
theorem w_516 : Cond.methodLink RX1 62 yX1_saidReach ∈ TT := TT_of (i := 516) (by decide +kernel) rfl
theorem w_517 : Cond.methodLink RX1 66 yX0_reach ∈ TT := TT_of (i := 517) (by decide +kernel) rfl
theorem w_518 : Cond.static yX0_reach ∈ TT := TT_of (i := 518) (by decide +kernel) rfl
theorem w_519 : Cond.code yX0_reach cX0_reach 3 (some .int) ∈ TT := TT_of (i := 519) (by decide +kernel) rfl
theorem w_520 : Cond.methodLink RX1 81 yX1_cost ∈ TT := TT_of (i := 520) (by decide +kernel) rfl
theorem w_521 : Cond.instanceMethod yX1_cost ∈ TT := TT_of (i := 521) (by decide +kernel) rfl
theorem w_522 : Cond.selects RX1 yX1_cost yX1_cost ∈ TT := TT_of (i := 522) (by decide +kernel) rfl
theorem w_523 : Cond.code yX1_cost cX1_cost 3 (some .int) ∈ TT := TT_of (i := 523) (by decide +kernel) rfl
theorem w_524 : Cond.methodLink RX1 72 yX1_saidCost ∈ TT := TT_of (i := 524) (by decide +kernel) rfl
theorem w_525 : Cond.methodLink RX1 75 yX0_cost ∈ TT := TT_of (i := 525) (by decide +kernel) rfl
theorem w_526 : Cond.static yX0_cost ∈ TT := TT_of (i := 526) (by decide +kernel) rfl
theorem w_527 : Cond.code yX0_cost cX0_cost 5 (some .int) ∈ TT := TT_of (i := 527) (by decide +kernel) rfl
theorem w_528 : Cond.methodLink RX5 162 yX0_breathing ∈ TT := TT_of (i := 528) (by decide +kernel) rfl
theorem w_529 : Cond.static yX0_breathing ∈ TT := TT_of (i := 529) (by decide +kernel) rfl
theorem w_530 : Cond.code yX0_breathing cX0_breathing 2 (some .int) ∈ TT := TT_of (i := 530) (by decide +kernel) rfl
theorem w_532 : Cond.instanceMethod yX5_dives ∈ TT := TT_of (i := 532) (by decide +kernel) rfl
theorem w_533 : Cond.selects RX5 yX5_dives yX5_dives ∈ TT := TT_of (i := 533) (by decide +kernel) rfl
theorem w_534 : Cond.code yX5_dives cX5_dives 4 (some .int) ∈ TT := TT_of (i := 534) (by decide +kernel) rfl
theorem w_535 : Cond.methodLink RX5 167 yX1_reach ∈ TT := TT_of (i := 535) (by decide +kernel) rfl
theorem w_536 : Cond.methodLink RX5 170 yX1_cost ∈ TT := TT_of (i := 536) (by decide +kernel) rfl
theorem w_537 : Cond.methodLink RX5 173 yX1_can ∈ TT := TT_of (i := 537) (by decide +kernel) rfl
theorem w_539 : Cond.instanceMethod yX5_dive ∈ TT := TT_of (i := 539) (by decide +kernel) rfl
theorem w_540 : Cond.selects RX5 yX5_dive yX5_dive ∈ TT := TT_of (i := 540) (by decide +kernel) rfl
theorem w_541 : Cond.code yX5_dive cX5_dive 3 (some .int) ∈ TT := TT_of (i := 541) (by decide +kernel) rfl
theorem w_542 : Cond.methodLink RX5 176 yX1_bringUp ∈ TT := TT_of (i := 542) (by decide +kernel) rfl
theorem w_543 : Cond.instanceMethod yX1_bringUp ∈ TT := TT_of (i := 543) (by decide +kernel) rfl
theorem w_544 : Cond.selects RX1 yX1_bringUp yX1_bringUp ∈ TT := TT_of (i := 544) (by decide +kernel) rfl
theorem w_545 : Cond.code yX1_bringUp cX1_bringUp 3 none ∈ TT := TT_of (i := 545) (by decide +kernel) rfl
theorem w_547 : Cond.instanceMethod yX5_open ∈ TT := TT_of (i := 547) (by decide +kernel) rfl
theorem w_548 : Cond.selects RX5 yX5_open yX5_open ∈ TT := TT_of (i := 548) (by decide +kernel) rfl
theorem w_549 : Cond.code yX5_open cX5_open 2 (some .int) ∈ TT := TT_of (i := 549) (by decide +kernel) rfl
theorem w_550 : Cond.methodLink RX5 183 yX1_letLoose ∈ TT := TT_of (i := 550) (by decide +kernel) rfl
theorem w_551 : Cond.instanceMethod yX1_letLoose ∈ TT := TT_of (i := 551) (by decide +kernel) rfl
theorem w_552 : Cond.selects RX1 yX1_letLoose yX1_letLoose ∈ TT := TT_of (i := 552) (by decide +kernel) rfl
theorem w_553 : Cond.code yX1_letLoose cX1_letLoose 2 none ∈ TT := TT_of (i := 553) (by decide +kernel) rfl
theorem w_554 : Cond.methodLink RX1 107 yX1_blowUp ∈ TT := TT_of (i := 554) (by decide +kernel) rfl
theorem w_555 : Cond.instanceMethod yX1_blowUp ∈ TT := TT_of (i := 555) (by decide +kernel) rfl
theorem w_556 : Cond.selects RX1 yX1_blowUp yX1_blowUp ∈ TT := TT_of (i := 556) (by decide +kernel) rfl
theorem w_557 : Cond.code yX1_blowUp cX1_blowUp 3 none ∈ TT := TT_of (i := 557) (by decide +kernel) rfl
theorem w_558 : Cond.methodLink RX1 110 Lib.Math.min.name ∈ TT := TT_of (i := 558) (by decide +kernel) rfl
theorem w_560 : Cond.instanceMethod yX5_hour ∈ TT := TT_of (i := 560) (by decide +kernel) rfl
theorem w_561 : Cond.selects RX5 yX5_hour yX5_hour ∈ TT := TT_of (i := 561) (by decide +kernel) rfl
theorem w_562 : Cond.code yX5_hour cX5_hour 1 (some .int) ∈ TT := TT_of (i := 562) (by decide +kernel) rfl
theorem w_563 : Cond.methodLink RX5 189 yX1_passHours ∈ TT := TT_of (i := 563) (by decide +kernel) rfl
theorem w_564 : Cond.instanceMethod yX1_passHours ∈ TT := TT_of (i := 564) (by decide +kernel) rfl
theorem w_565 : Cond.selects RX1 yX1_passHours yX1_passHours ∈ TT := TT_of (i := 565) (by decide +kernel) rfl
theorem w_566 : Cond.code yX1_passHours cX1_passHours 4 none ∈ TT := TT_of (i := 566) (by decide +kernel) rfl
theorem w_567 : Cond.methodLink RX1 121 yX1_faded ∈ TT := TT_of (i := 567) (by decide +kernel) rfl
theorem w_568 : Cond.instanceMethod yX1_faded ∈ TT := TT_of (i := 568) (by decide +kernel) rfl
theorem w_569 : Cond.selects RX1 yX1_faded yX1_faded ∈ TT := TT_of (i := 569) (by decide +kernel) rfl
theorem w_570 : Cond.code yX1_faded cX1_faded 4 (some .int) ∈ TT := TT_of (i := 570) (by decide +kernel) rfl
theorem w_571 : Cond.methodLink RX1 115 yX1_fading ∈ TT := TT_of (i := 571) (by decide +kernel) rfl
theorem w_572 : Cond.methodLink RX1 118 Lib.Math.max.name ∈ TT := TT_of (i := 572) (by decide +kernel) rfl
theorem w_573 : Cond.methodLink RX1 124 yX0_breathing ∈ TT := TT_of (i := 573) (by decide +kernel) rfl
theorem w_574 : Cond.methodLink RX5 192 yX1_mainSort ∈ TT := TT_of (i := 574) (by decide +kernel) rfl
theorem w_575 : Cond.instanceMethod yX1_mainSort ∈ TT := TT_of (i := 575) (by decide +kernel) rfl
theorem w_576 : Cond.selects RX1 yX1_mainSort yX1_mainSort ∈ TT := TT_of (i := 576) (by decide +kernel) rfl
theorem w_577 : Cond.code yX1_mainSort cX1_mainSort 4 (some .int) ∈ TT := TT_of (i := 577) (by decide +kernel) rfl
theorem w_579 : Cond.instanceMethod yX5_bay ∈ TT := TT_of (i := 579) (by decide +kernel) rfl
theorem w_580 : Cond.selects RX5 yX5_bay yX5_bay ∈ TT := TT_of (i := 580) (by decide +kernel) rfl
theorem w_581 : Cond.code yX5_bay cX5_bay 2 (some .int) ∈ TT := TT_of (i := 581) (by decide +kernel) rfl
theorem w_582 : Cond.methodLink RX5 195 yX1_overBay ∈ TT := TT_of (i := 582) (by decide +kernel) rfl
theorem w_583 : Cond.instanceMethod yX1_overBay ∈ TT := TT_of (i := 583) (by decide +kernel) rfl
theorem w_584 : Cond.selects RX1 yX1_overBay yX1_overBay ∈ TT := TT_of (i := 584) (by decide +kernel) rfl
theorem w_585 : Cond.code yX1_overBay cX1_overBay 2 (some .int) ∈ TT := TT_of (i := 585) (by decide +kernel) rfl
theorem w_586 : Cond.methodLink RX1 127 yX1_mainSort ∈ TT := TT_of (i := 586) (by decide +kernel) rfl
theorem w_588 : Cond.methodLink RX1 134 yX1_fair ∈ TT := TT_of (i := 588) (by decide +kernel) rfl
theorem w_589 : Cond.instanceMethod yX1_fair ∈ TT := TT_of (i := 589) (by decide +kernel) rfl
theorem w_590 : Cond.selects RX1 yX1_fair yX1_fair ∈ TT := TT_of (i := 590) (by decide +kernel) rfl
theorem w_591 : Cond.code yX1_fair cX1_fair 1 (some .int) ∈ TT := TT_of (i := 591) (by decide +kernel) rfl
theorem w_593 : Cond.instanceMethod yX5_run ∈ TT := TT_of (i := 593) (by decide +kernel) rfl
theorem w_594 : Cond.selects RX5 yX5_run yX5_run ∈ TT := TT_of (i := 594) (by decide +kernel) rfl
theorem w_595 : Cond.code yX5_run cX5_run 5 (some .int) ∈ TT := TT_of (i := 595) (by decide +kernel) rfl
theorem w_596 : Cond.methodLink RX5 198 yX1_becomes ∈ TT := TT_of (i := 596) (by decide +kernel) rfl
theorem w_597 : Cond.instanceMethod yX1_becomes ∈ TT := TT_of (i := 597) (by decide +kernel) rfl
theorem w_598 : Cond.selects RX1 yX1_becomes yX1_becomes ∈ TT := TT_of (i := 598) (by decide +kernel) rfl
theorem w_599 : Cond.code yX1_becomes cX1_becomes 2 none ∈ TT := TT_of (i := 599) (by decide +kernel) rfl
theorem w_600 : Cond.methodLink RX1 43 arraycopyName ∈ TT := TT_of (i := 600) (by decide +kernel) rfl
theorem w_604 : Cond.instanceMethod yX5_stills ∈ TT := TT_of (i := 604) (by decide +kernel) rfl
theorem w_605 : Cond.selects RX5 yX5_stills yX5_stills ∈ TT := TT_of (i := 605) (by decide +kernel) rfl
theorem w_606 : Cond.code yX5_stills cX5_stills 2 (some .int) ∈ TT := TT_of (i := 606) (by decide +kernel) rfl
theorem w_608 : Cond.instanceMethod yX5_row ∈ TT := TT_of (i := 608) (by decide +kernel) rfl
theorem w_609 : Cond.selects RX5 yX5_row yX5_row ∈ TT := TT_of (i := 609) (by decide +kernel) rfl
theorem w_610 : Cond.code yX5_row cX5_row 6 (some .int) ∈ TT := TT_of (i := 610) (by decide +kernel) rfl
theorem w_611 : Cond.methodLink RX5 202 yX5_refusalOfRow ∈ TT := TT_of (i := 611) (by decide +kernel) rfl
theorem w_613 : Cond.instanceMethod yX5_refusalOfRow ∈ TT := TT_of (i := 613) (by decide +kernel) rfl
theorem w_614 : Cond.code yX5_refusalOfRow cX5_refusalOfRow 4 (some .int) ∈ TT := TT_of (i := 614) (by decide +kernel) rfl
theorem w_615 : Cond.methodLink RX5 210 yX5_refusalOfSheet ∈ TT := TT_of (i := 615) (by decide +kernel) rfl
theorem w_617 : Cond.instanceMethod yX5_refusalOfSheet ∈ TT := TT_of (i := 617) (by decide +kernel) rfl
theorem w_618 : Cond.code yX5_refusalOfSheet cX5_refusalOfSheet 3 (some .int) ∈ TT := TT_of (i := 618) (by decide +kernel) rfl
theorem w_619 : Cond.methodLink RX5 253 yX5_isSheet ∈ TT := TT_of (i := 619) (by decide +kernel) rfl
theorem w_620 : Cond.static yX5_isSheet ∈ TT := TT_of (i := 620) (by decide +kernel) rfl
theorem w_621 : Cond.code yX5_isSheet cX5_isSheet 1 (some .boolean) ∈ TT := TT_of (i := 621) (by decide +kernel) rfl
theorem w_622 : Cond.methodLink RX5 213 yX2_tellsOnly ∈ TT := TT_of (i := 622) (by decide +kernel) rfl
theorem w_623 : Cond.instanceMethod yX2_tellsOnly ∈ TT := TT_of (i := 623) (by decide +kernel) rfl
theorem w_624 : Cond.selects RX2 yX2_tellsOnly yX2_tellsOnly ∈ TT := TT_of (i := 624) (by decide +kernel) rfl
theorem w_625 : Cond.code yX2_tellsOnly cX2_tellsOnly 3 (some .boolean) ∈ TT := TT_of (i := 625) (by decide +kernel) rfl
theorem w_626 : Cond.methodLink RX5 205 yX1_bringsInRow ∈ TT := TT_of (i := 626) (by decide +kernel) rfl
theorem w_627 : Cond.instanceMethod yX1_bringsInRow ∈ TT := TT_of (i := 627) (by decide +kernel) rfl
theorem w_628 : Cond.selects RX1 yX1_bringsInRow yX1_bringsInRow ∈ TT := TT_of (i := 628) (by decide +kernel) rfl
theorem w_629 : Cond.code yX1_bringsInRow cX1_bringsInRow 6 (some .int) ∈ TT := TT_of (i := 629) (by decide +kernel) rfl
theorem w_631 : Cond.methodLink RX1 99 yX1_bringUp ∈ TT := TT_of (i := 631) (by decide +kernel) rfl
theorem w_632 : Cond.methodLink RX1 103 yX1_passHours ∈ TT := TT_of (i := 632) (by decide +kernel) rfl
theorem w_634 : Cond.instanceMethod yX5_salvage ∈ TT := TT_of (i := 634) (by decide +kernel) rfl
theorem w_635 : Cond.selects RX5 yX5_salvage yX5_salvage ∈ TT := TT_of (i := 635) (by decide +kernel) rfl
theorem w_636 : Cond.code yX5_salvage cX5_salvage 4 (some .int) ∈ TT := TT_of (i := 636) (by decide +kernel) rfl
theorem w_638 : Cond.instanceMethod yX5_which ∈ TT := TT_of (i := 638) (by decide +kernel) rfl
theorem w_639 : Cond.selects RX5 yX5_which yX5_which ∈ TT := TT_of (i := 639) (by decide +kernel) rfl
theorem w_640 : Cond.code yX5_which cX5_which 7 (some .int) ∈ TT := TT_of (i := 640) (by decide +kernel) rfl
theorem w_641 : Cond.methodLink RX5 216 yX5_fairBehind ∈ TT := TT_of (i := 641) (by decide +kernel) rfl
theorem w_643 : Cond.instanceMethod yX5_fairBehind ∈ TT := TT_of (i := 643) (by decide +kernel) rfl
theorem w_644 : Cond.code yX5_fairBehind cX5_fairBehind 3 (some .int) ∈ TT := TT_of (i := 644) (by decide +kernel) rfl
theorem w_645 : Cond.methodLink RX5 219 yX1_fair ∈ TT := TT_of (i := 645) (by decide +kernel) rfl
theorem w_647 : Cond.instanceMethod yX5_cargo ∈ TT := TT_of (i := 647) (by decide +kernel) rfl
theorem w_648 : Cond.selects RX5 yX5_cargo yX5_cargo ∈ TT := TT_of (i := 648) (by decide +kernel) rfl
theorem w_649 : Cond.code yX5_cargo cX5_cargo 8 (some .int) ∈ TT := TT_of (i := 649) (by decide +kernel) rfl
theorem w_650 : Cond.methodLink RX5 225 yX1_sum ∈ TT := TT_of (i := 650) (by decide +kernel) rfl
theorem w_651 : Cond.static yX1_sum ∈ TT := TT_of (i := 651) (by decide +kernel) rfl
theorem w_652 : Cond.code yX1_sum cX1_sum 4 (some .int) ∈ TT := TT_of (i := 652) (by decide +kernel) rfl
theorem w_654 : Cond.instanceMethod yX5_last ∈ TT := TT_of (i := 654) (by decide +kernel) rfl
theorem w_655 : Cond.selects RX5 yX5_last yX5_last ∈ TT := TT_of (i := 655) (by decide +kernel) rfl
theorem w_656 : Cond.code yX5_last cX5_last 4 (some .int) ∈ TT := TT_of (i := 656) (by decide +kernel) rfl
theorem w_657 : Cond.methodLink RX5 232 yX5_mostLeft ∈ TT := TT_of (i := 657) (by decide +kernel) rfl
theorem w_658 : Cond.static yX5_mostLeft ∈ TT := TT_of (i := 658) (by decide +kernel) rfl
theorem w_659 : Cond.code yX5_mostLeft cX5_mostLeft 7 (some .int) ∈ TT := TT_of (i := 659) (by decide +kernel) rfl
theorem w_660 : Cond.methodLink RX5 236 Lib.Math.max.name ∈ TT := TT_of (i := 660) (by decide +kernel) rfl
theorem w_662 : Cond.instanceMethod yX5_best ∈ TT := TT_of (i := 662) (by decide +kernel) rfl
theorem w_663 : Cond.selects RX5 yX5_best yX5_best ∈ TT := TT_of (i := 663) (by decide +kernel) rfl
theorem w_664 : Cond.code yX5_best cX5_best 6 (some .int) ∈ TT := TT_of (i := 664) (by decide +kernel) rfl
theorem w_666 : Cond.instanceMethod yX5_share ∈ TT := TT_of (i := 666) (by decide +kernel) rfl
theorem w_667 : Cond.selects RX5 yX5_share yX5_share ∈ TT := TT_of (i := 667) (by decide +kernel) rfl
theorem w_668 : Cond.code yX5_share cX5_share 5 (some .long) ∈ TT := TT_of (i := 668) (by decide +kernel) rfl
theorem w_669 : Cond.constantLong RX5 241 (-4611686018427387904 : Int64) ∈ TT := TT_of (i := 669) (by decide +kernel) rfl
theorem w_670 : Cond.methodLink RX5 243 yX5_lowest ∈ TT := TT_of (i := 670) (by decide +kernel) rfl
theorem w_671 : Cond.static yX5_lowest ∈ TT := TT_of (i := 671) (by decide +kernel) rfl
theorem w_672 : Cond.code yX5_lowest cX5_lowest 7 (some .long) ∈ TT := TT_of (i := 672) (by decide +kernel) rfl
theorem w_674 : Cond.instanceMethod yX5_judge ∈ TT := TT_of (i := 674) (by decide +kernel) rfl
theorem w_675 : Cond.selects RX5 yX5_judge yX5_judge ∈ TT := TT_of (i := 675) (by decide +kernel) rfl
theorem w_676 : Cond.code yX5_judge cX5_judge 4 (some .int) ∈ TT := TT_of (i := 676) (by decide +kernel) rfl
theorem w_677 : Cond.methodLink RX5 247 yX5_refusalOfHours ∈ TT := TT_of (i := 677) (by decide +kernel) rfl
theorem w_679 : Cond.instanceMethod yX5_refusalOfHours ∈ TT := TT_of (i := 679) (by decide +kernel) rfl
theorem w_680 : Cond.code yX5_refusalOfHours cX5_refusalOfHours 4 (some .int) ∈ TT := TT_of (i := 680) (by decide +kernel) rfl
theorem w_681 : Cond.methodLink RX5 250 yX1_firstOtherwise ∈ TT := TT_of (i := 681) (by decide +kernel) rfl
theorem w_682 : Cond.instanceMethod yX1_firstOtherwise ∈ TT := TT_of (i := 682) (by decide +kernel) rfl
theorem w_683 : Cond.selects RX1 yX1_firstOtherwise yX1_firstOtherwise ∈ TT := TT_of (i := 683) (by decide +kernel) rfl
theorem w_684 : Cond.code yX1_firstOtherwise cX1_firstOtherwise 5 (some .int) ∈ TT := TT_of (i := 684) (by decide +kernel) rfl
theorem w_686 : Cond.instanceMethod yX5_opened ∈ TT := TT_of (i := 686) (by decide +kernel) rfl
theorem w_687 : Cond.selects RX5 yX5_opened yX5_opened ∈ TT := TT_of (i := 687) (by decide +kernel) rfl
theorem w_688 : Cond.code yX5_opened cX5_opened 6 (some .int) ∈ TT := TT_of (i := 688) (by decide +kernel) rfl
theorem w_690 : Cond.instanceMethod yX5_skies ∈ TT := TT_of (i := 690) (by decide +kernel) rfl
theorem w_691 : Cond.selects RX5 yX5_skies yX5_skies ∈ TT := TT_of (i := 691) (by decide +kernel) rfl
theorem w_692 : Cond.code yX5_skies cX5_skies 8 (some .int) ∈ TT := TT_of (i := 692) (by decide +kernel) rfl
theorem w_694 : Cond.instanceMethod yX5_whose ∈ TT := TT_of (i := 694) (by decide +kernel) rfl
theorem w_695 : Cond.selects RX5 yX5_whose yX5_whose ∈ TT := TT_of (i := 695) (by decide +kernel) rfl
theorem w_696 : Cond.code yX5_whose cX5_whose 5 (some .int) ∈ TT := TT_of (i := 696) (by decide +kernel) rfl
theorem w_698 : Cond.instanceMethod yX5_laws ∈ TT := TT_of (i := 698) (by decide +kernel) rfl
theorem w_699 : Cond.selects RX5 yX5_laws yX5_laws ∈ TT := TT_of (i := 699) (by decide +kernel) rfl
theorem w_700 : Cond.code yX5_laws cX5_laws 6 (some .int) ∈ TT := TT_of (i := 700) (by decide +kernel) rfl
theorem w_702 : Cond.instanceMethod yX5_film ∈ TT := TT_of (i := 702) (by decide +kernel) rfl
theorem w_703 : Cond.selects RX5 yX5_film yX5_film ∈ TT := TT_of (i := 703) (by decide +kernel) rfl
theorem w_704 : Cond.code yX5_film cX5_film 6 (some .int) ∈ TT := TT_of (i := 704) (by decide +kernel) rfl
theorem w_705 : Cond.methodLink RX5 256 yX2_becomes ∈ TT := TT_of (i := 705) (by decide +kernel) rfl
theorem w_706 : Cond.instanceMethod yX2_becomes ∈ TT := TT_of (i := 706) (by decide +kernel) rfl
theorem w_707 : Cond.selects RX2 yX2_becomes yX2_becomes ∈ TT := TT_of (i := 707) (by decide +kernel) rfl
theorem w_708 : Cond.code yX2_becomes cX2_becomes 3 none ∈ TT := TT_of (i := 708) (by decide +kernel) rfl
theorem w_709 : Cond.methodLink RX2 17 yJ7_fill_53178 ∈ TT := TT_of (i := 709) (by decide +kernel) rfl
theorem w_710 : Cond.static yJ7_fill_53178 ∈ TT := TT_of (i := 710) (by decide +kernel) rfl
theorem w_711 : Cond.code yJ7_fill_53178 cJ7_fill_53178 4 none ∈ TT := TT_of (i := 711) (by decide +kernel) rfl
theorem w_712 : Cond.methodLink RX5 258 yX1_faded ∈ TT := TT_of (i := 712) (by decide +kernel) rfl
theorem w_713 : Cond.methodLink RX5 261 yX2_set ∈ TT := TT_of (i := 713) (by decide +kernel) rfl
theorem w_714 : Cond.instanceMethod yX2_set ∈ TT := TT_of (i := 714) (by decide +kernel) rfl
theorem w_715 : Cond.selects RX2 yX2_set yX2_set ∈ TT := TT_of (i := 715) (by decide +kernel) rfl
theorem w_716 : Cond.code yX2_set cX2_set 3 (some .boolean) ∈ TT := TT_of (i := 716) (by decide +kernel) rfl
theorem w_717 : Cond.methodLink RX2 26 yX2_holds ∈ TT := TT_of (i := 717) (by decide +kernel) rfl
theorem w_718 : Cond.instanceMethod yX2_holds ∈ TT := TT_of (i := 718) (by decide +kernel) rfl
theorem w_719 : Cond.selects RX2 yX2_holds yX2_holds ∈ TT := TT_of (i := 719) (by decide +kernel) rfl
theorem w_720 : Cond.code yX2_holds cX2_holds 3 (some .boolean) ∈ TT := TT_of (i := 720) (by decide +kernel) rfl
theorem w_722 : Cond.instanceMethod yX5_kinds ∈ TT := TT_of (i := 722) (by decide +kernel) rfl
theorem w_723 : Cond.selects RX5 yX5_kinds yX5_kinds ∈ TT := TT_of (i := 723) (by decide +kernel) rfl
theorem w_724 : Cond.code yX5_kinds cX5_kinds 8 (some .int) ∈ TT := TT_of (i := 724) (by decide +kernel) rfl
theorem w_725 : Cond.methodLink RX5 264 yX5_refusalOfTries ∈ TT := TT_of (i := 725) (by decide +kernel) rfl
theorem w_727 : Cond.instanceMethod yX5_refusalOfTries ∈ TT := TT_of (i := 727) (by decide +kernel) rfl
theorem w_728 : Cond.code yX5_refusalOfTries cX5_refusalOfTries 5 (some .int) ∈ TT := TT_of (i := 728) (by decide +kernel) rfl
theorem w_729 : Cond.methodLink RX5 267 yX1_isSoOfAll ∈ TT := TT_of (i := 729) (by decide +kernel) rfl
theorem w_730 : Cond.instanceMethod yX1_isSoOfAll ∈ TT := TT_of (i := 730) (by decide +kernel) rfl
theorem w_731 : Cond.selects RX1 yX1_isSoOfAll yX1_isSoOfAll ∈ TT := TT_of (i := 731) (by decide +kernel) rfl
theorem w_732 : Cond.code yX1_isSoOfAll cX1_isSoOfAll 4 (some .boolean) ∈ TT := TT_of (i := 732) (by decide +kernel) rfl
theorem w_734 : Cond.instanceMethod yX5_breaths ∈ TT := TT_of (i := 734) (by decide +kernel) rfl
theorem w_735 : Cond.selects RX5 yX5_breaths yX5_breaths ∈ TT := TT_of (i := 735) (by decide +kernel) rfl
theorem w_736 : Cond.code yX5_breaths cX5_breaths 8 (some .int) ∈ TT := TT_of (i := 736) (by decide +kernel) rfl
theorem w_738 : Cond.instanceMethod yX5_drawn ∈ TT := TT_of (i := 738) (by decide +kernel) rfl
theorem w_739 : Cond.selects RX5 yX5_drawn yX5_drawn ∈ TT := TT_of (i := 739) (by decide +kernel) rfl
theorem w_740 : Cond.code yX5_drawn cX5_drawn 3 (some .int) ∈ TT := TT_of (i := 740) (by decide +kernel) rfl
theorem w_741 : Cond.constant RX5 271 (99999 : Int32) ∈ TT := TT_of (i := 741) (by decide +kernel) rfl
theorem w_742 : Cond.methodLink RX5 272 yX5_storm ∈ TT := TT_of (i := 742) (by decide +kernel) rfl
theorem w_744 : Cond.instanceMethod yX5_storm ∈ TT := TT_of (i := 744) (by decide +kernel) rfl
theorem w_745 : Cond.code yX5_storm cX5_storm 6 none ∈ TT := TT_of (i := 745) (by decide +kernel) rfl
theorem w_746 : Cond.methodLink RX5 275 yX5_nextLot ∈ TT := TT_of (i := 746) (by decide +kernel) rfl
theorem w_747 : Cond.static yX5_nextLot ∈ TT := TT_of (i := 747) (by decide +kernel) rfl
theorem w_748 : Cond.code yX5_nextLot cX5_nextLot 2 (some .long) ∈ TT := TT_of (i := 748) (by decide +kernel) rfl
theorem w_749 : Cond.constantLong RX5 286 (48271 : Int64) ∈ TT := TT_of (i := 749) (by decide +kernel) rfl
theorem w_750 : Cond.constantLong RX5 288 (2147483647 : Int64) ∈ TT := TT_of (i := 750) (by decide +kernel) rfl
theorem w_751 : Cond.constantLong RX5 279 (6 : Int64) ∈ TT := TT_of (i := 751) (by decide +kernel) rfl
theorem w_752 : Cond.constantLong RX5 281 (30 : Int64) ∈ TT := TT_of (i := 752) (by decide +kernel) rfl
theorem w_753 : Cond.methodLink RX5 283 yX1_blowUp ∈ TT := TT_of (i := 753) (by decide +kernel) rfl
theorem w_755 : Cond.instanceMethod yX5_odds ∈ TT := TT_of (i := 755) (by decide +kernel) rfl
theorem w_756 : Cond.selects RX5 yX5_odds yX5_odds ∈ TT := TT_of (i := 756) (by decide +kernel) rfl
theorem w_757 : Cond.code yX5_odds cX5_odds 7 (some .long) ∈ TT := TT_of (i := 757) (by decide +kernel) rfl
theorem w_759 : Cond.instanceMethod yX5_image ∈ TT := TT_of (i := 759) (by decide +kernel) rfl
theorem w_760 : Cond.selects RX5 yX5_image yX5_image ∈ TT := TT_of (i := 760) (by decide +kernel) rfl
theorem w_761 : Cond.code yX5_image cX5_image 1 (some .int) ∈ TT := TT_of (i := 761) (by decide +kernel) rfl
theorem w_763 : Cond.instanceMethod yX5_back ∈ TT := TT_of (i := 763) (by decide +kernel) rfl
theorem w_764 : Cond.selects RX5 yX5_back yX5_back ∈ TT := TT_of (i := 764) (by decide +kernel) rfl
theorem w_765 : Cond.code yX5_back cX5_back 1 (some .int) ∈ TT := TT_of (i := 765) (by decide +kernel) rfl
theorem w_767 : Cond.instanceMethod yX5_sheet ∈ TT := TT_of (i := 767) (by decide +kernel) rfl
theorem w_768 : Cond.selects RX5 yX5_sheet yX5_sheet ∈ TT := TT_of (i := 768) (by decide +kernel) rfl
theorem w_769 : Cond.code yX5_sheet cX5_sheet 4 (some .int) ∈ TT := TT_of (i := 769) (by decide +kernel) rfl
theorem w_771 : Cond.instanceMethod yX5_cell ∈ TT := TT_of (i := 771) (by decide +kernel) rfl
theorem w_772 : Cond.selects RX5 yX5_cell yX5_cell ∈ TT := TT_of (i := 772) (by decide +kernel) rfl
theorem w_773 : Cond.code yX5_cell cX5_cell 5 (some .int) ∈ TT := TT_of (i := 773) (by decide +kernel) rfl
theorem w_775 : Cond.instanceMethod yX5_copy ∈ TT := TT_of (i := 775) (by decide +kernel) rfl
theorem w_776 : Cond.selects RX5 yX5_copy yX5_copy ∈ TT := TT_of (i := 776) (by decide +kernel) rfl
theorem w_777 : Cond.code yX5_copy cX5_copy 8 (some .int) ∈ TT := TT_of (i := 777) (by decide +kernel) rfl
theorem w_778 : Cond.methodLink RX5 296 yX2_holds ∈ TT := TT_of (i := 778) (by decide +kernel) rfl
theorem w_779 : Cond.methodLink RX5 302 arraycopyName ∈ TT := TT_of (i := 779) (by decide +kernel) rfl
theorem w_781 : Cond.instanceMethod yX5_diversBy ∈ TT := TT_of (i := 781) (by decide +kernel) rfl
theorem w_782 : Cond.selects RX5 yX5_diversBy yX5_diversBy ∈ TT := TT_of (i := 782) (by decide +kernel) rfl
theorem w_783 : Cond.code yX5_diversBy cX5_diversBy 9 (some .int) ∈ TT := TT_of (i := 783) (by decide +kernel) rfl
theorem w_784 : Cond.methodLink RX5 308 yX5_diver ∈ TT := TT_of (i := 784) (by decide +kernel) rfl
theorem w_786 : Cond.instanceMethod yX5_taken ∈ TT := TT_of (i := 786) (by decide +kernel) rfl
theorem w_787 : Cond.selects RX5 yX5_taken yX5_taken ∈ TT := TT_of (i := 787) (by decide +kernel) rfl
theorem w_788 : Cond.code yX5_taken cX5_taken 5 (some .int) ∈ TT := TT_of (i := 788) (by decide +kernel) rfl
theorem w_789 : Cond.methodLink RX5 311 yX0_isOf ∈ TT := TT_of (i := 789) (by decide +kernel) rfl
theorem w_790 : Cond.static yX0_isOf ∈ TT := TT_of (i := 790) (by decide +kernel) rfl
theorem w_791 : Cond.code yX0_isOf cX0_isOf 4 (some .boolean) ∈ TT := TT_of (i := 791) (by decide +kernel) rfl
theorem w_792 : Cond.fieldLink RX0 7 "SalvageOfDays$Kinds" "ABOVE" "[I" ∈ TT := TT_of (i := 792) (by decide +kernel) rfl
theorem w_801 : Cond.instanceMethod yX6_text ∈ TT := TT_of (i := 801) (by decide +kernel) rfl
theorem w_802 : Cond.selects RX6 yX6_text yX6_text ∈ TT := TT_of (i := 802) (by decide +kernel) rfl
theorem w_803 : Cond.code yX6_text cX6_text 3 (some .int) ∈ TT := TT_of (i := 803) (by decide +kernel) rfl
theorem w_804 : Cond.methodLink RX6 143 yX6_next ∈ TT := TT_of (i := 804) (by decide +kernel) rfl
theorem w_806 : Cond.instanceMethod yX6_next ∈ TT := TT_of (i := 806) (by decide +kernel) rfl
theorem w_807 : Cond.code yX6_next cX6_next 3 none ∈ TT := TT_of (i := 807) (by decide +kernel) rfl
theorem w_808 : Cond.methodLink RX6 78 yX6_in ∈ TT := TT_of (i := 808) (by decide +kernel) rfl
theorem w_809 : Cond.static yX6_in ∈ TT := TT_of (i := 809) (by decide +kernel) rfl
theorem w_810 : Cond.code yX6_in cX6_in 3 (some .boolean) ∈ TT := TT_of (i := 810) (by decide +kernel) rfl
theorem w_811 : Cond.methodLink RX6 117 yX6_wordFrom ∈ TT := TT_of (i := 811) (by decide +kernel) rfl
theorem w_813 : Cond.instanceMethod yX6_wordFrom ∈ TT := TT_of (i := 813) (by decide +kernel) rfl
theorem w_814 : Cond.code yX6_wordFrom cX6_wordFrom 6 (some .int) ∈ TT := TT_of (i := 814) (by decide +kernel) rfl
theorem w_815 : Cond.methodLink RX6 156 yX6_eRead ∈ TT := TT_of (i := 815) (by decide +kernel) rfl
theorem w_817 : Cond.instanceMethod yX6_eRead ∈ TT := TT_of (i := 817) (by decide +kernel) rfl
theorem w_818 : Cond.code yX6_eRead cX6_eRead 4 (some .boolean) ∈ TT := TT_of (i := 818) (by decide +kernel) rfl
theorem w_819 : Cond.constant RX6 146 (100000 : Int32) ∈ TT := TT_of (i := 819) (by decide +kernel) rfl
theorem w_820 : Cond.methodLink RX6 133 yX6_puts ∈ TT := TT_of (i := 820) (by decide +kernel) rfl
theorem w_822 : Cond.instanceMethod yX6_puts ∈ TT := TT_of (i := 822) (by decide +kernel) rfl
theorem w_823 : Cond.code yX6_puts cX6_puts 2 none ∈ TT := TT_of (i := 823) (by decide +kernel) rfl
theorem w_824 : Cond.methodLink RX6 140 yX6_unwinds ∈ TT := TT_of (i := 824) (by decide +kernel) rfl
theorem w_826 : Cond.instanceMethod yX6_unwinds ∈ TT := TT_of (i := 826) (by decide +kernel) rfl
theorem w_827 : Cond.code yX6_unwinds cX6_unwinds 3 none ∈ TT := TT_of (i := 827) (by decide +kernel) rfl
theorem w_828 : Cond.methodLink RX6 127 yX6_rank ∈ TT := TT_of (i := 828) (by decide +kernel) rfl
theorem w_829 : Cond.static yX6_rank ∈ TT := TT_of (i := 829) (by decide +kernel) rfl
theorem w_830 : Cond.code yX6_rank cX6_rank 1 (some .int) ∈ TT := TT_of (i := 830) (by decide +kernel) rfl
theorem w_831 : Cond.methodLink RX6 147 yX6_opensOne ∈ TT := TT_of (i := 831) (by decide +kernel) rfl
theorem w_833 : Cond.instanceMethod yX6_opensOne ∈ TT := TT_of (i := 833) (by decide +kernel) rfl
theorem w_834 : Cond.code yX6_opensOne cX6_opensOne 2 (some .boolean) ∈ TT := TT_of (i := 834) (by decide +kernel) rfl
theorem w_835 : Cond.methodLink RX6 137 yX6_holds ∈ TT := TT_of (i := 835) (by decide +kernel) rfl
theorem w_837 : Cond.instanceMethod yX6_holds ∈ TT := TT_of (i := 837) (by decide +kernel) rfl
theorem w_838 : Cond.code yX6_holds cX6_holds 2 none ∈ TT := TT_of (i := 838) (by decide +kernel) rfl
theorem w_839 : Cond.methodLink RX6 150 yX6_signOf ∈ TT := TT_of (i := 839) (by decide +kernel) rfl
theorem w_841 : Cond.instanceMethod yX6_signOf ∈ TT := TT_of (i := 841) (by decide +kernel) rfl
theorem w_842 : Cond.code yX6_signOf cX6_signOf 1 (some .int) ∈ TT := TT_of (i := 842) (by decide +kernel) rfl
theorem w_843 : Cond.methodLink RX6 153 yX6_between ∈ TT := TT_of (i := 843) (by decide +kernel) rfl
theorem w_845 : Cond.instanceMethod yX6_between ∈ TT := TT_of (i := 845) (by decide +kernel) rfl
theorem w_846 : Cond.code yX6_between cX6_between 2 (some .boolean) ∈ TT := TT_of (i := 846) (by decide +kernel) rfl
theorem w_847 : Cond.fieldLink RX6 75 (TX6 0).1 (TX6 0).2.1 (TX6 0).2.2.1 ∈ TT := TT_of (i := 847) (by decide +kernel) rfl
theorem w_848 : Cond.fieldLink RX6 7 (TX6 1).1 (TX6 1).2.1 (TX6 1).2.2.1 ∈ TT := TT_of (i := 848) (by decide +kernel) rfl
theorem w_849 : Cond.fieldLink RX6 13 (TX6 2).1 (TX6 2).2.1 (TX6 2).2.2.1 ∈ TT := TT_of (i := 849) (by decide +kernel) rfl
theorem w_850 : Cond.fieldLink RX6 16 (TX6 3).1 (TX6 3).2.1 (TX6 3).2.2.1 ∈ TT := TT_of (i := 850) (by decide +kernel) rfl
theorem w_851 : Cond.fieldLink RX6 19 (TX6 4).1 (TX6 4).2.1 (TX6 4).2.2.1 ∈ TT := TT_of (i := 851) (by decide +kernel) rfl
theorem w_852 : Cond.fieldLink RX6 22 (TX6 5).1 (TX6 5).2.1 (TX6 5).2.2.1 ∈ TT := TT_of (i := 852) (by decide +kernel) rfl
theorem w_853 : Cond.fieldLink RX6 89 (TX6 6).1 (TX6 6).2.1 (TX6 6).2.2.1 ∈ TT := TT_of (i := 853) (by decide +kernel) rfl
theorem w_854 : Cond.fieldLink RX6 25 (TX6 7).1 (TX6 7).2.1 (TX6 7).2.2.1 ∈ TT := TT_of (i := 854) (by decide +kernel) rfl
theorem w_855 : Cond.fieldLink RX6 67 (TX6 8).1 (TX6 8).2.1 (TX6 8).2.2.1 ∈ TT := TT_of (i := 855) (by decide +kernel) rfl
theorem w_856 : Cond.fieldLink RX6 28 (TX6 9).1 (TX6 9).2.1 (TX6 9).2.2.1 ∈ TT := TT_of (i := 856) (by decide +kernel) rfl
theorem w_857 : Cond.fieldLink RX6 31 (TX6 10).1 (TX6 10).2.1 (TX6 10).2.2.1 ∈ TT := TT_of (i := 857) (by decide +kernel) rfl
theorem w_858 : Cond.fieldLink RX6 92 (TX6 11).1 (TX6 11).2.1 (TX6 11).2.2.1 ∈ TT := TT_of (i := 858) (by decide +kernel) rfl
theorem w_859 : Cond.fieldLink RX6 95 (TX6 12).1 (TX6 12).2.1 (TX6 12).2.2.1 ∈ TT := TT_of (i := 859) (by decide +kernel) rfl
theorem w_860 : Cond.fieldLink RX6 275 (TX6 13).1 (TX6 13).2.1 (TX6 13).2.2.1 ∈ TT := TT_of (i := 860) (by decide +kernel) rfl
theorem w_861 : Cond.fieldLink RX6 34 (TX6 14).1 (TX6 14).2.1 (TX6 14).2.2.1 ∈ TT := TT_of (i := 861) (by decide +kernel) rfl
theorem w_862 : Cond.fieldLink RX6 37 (TX6 15).1 (TX6 15).2.1 (TX6 15).2.2.1 ∈ TT := TT_of (i := 862) (by decide +kernel) rfl
theorem w_863 : Cond.fieldLink RX6 40 (TX6 16).1 (TX6 16).2.1 (TX6 16).2.2.1 ∈ TT := TT_of (i := 863) (by decide +kernel) rfl
theorem w_864 : Cond.fieldLink RX6 43 (TX6 17).1 (TX6 17).2.1 (TX6 17).2.2.1 ∈ TT := TT_of (i := 864) (by decide +kernel) rfl
theorem w_865 : Cond.fieldLink RX6 46 (TX6 18).1 (TX6 18).2.1 (TX6 18).2.2.1 ∈ TT := TT_of (i := 865) (by decide +kernel) rfl
theorem w_867 : Cond.fieldLink RX6 105 (TX6 20).1 (TX6 20).2.1 (TX6 20).2.2.1 ∈ TT := TT_of (i := 867) (by decide +kernel) rfl
theorem w_868 : Cond.fieldLink RX6 108 (TX6 21).1 (TX6 21).2.1 (TX6 21).2.2.1 ∈ TT := TT_of (i := 868) (by decide +kernel) rfl
theorem w_869 : Cond.fieldLink RX6 111 (TX6 22).1 (TX6 22).2.1 (TX6 22).2.2.1 ∈ TT := TT_of (i := 869) (by decide +kernel) rfl
theorem w_870 : Cond.fieldLink RX6 114 (TX6 23).1 (TX6 23).2.1 (TX6 23).2.2.1 ∈ TT := TT_of (i := 870) (by decide +kernel) rfl
theorem w_871 : Cond.fieldLink RX6 52 (TX6 24).1 (TX6 24).2.1 (TX6 24).2.2.1 ∈ TT := TT_of (i := 871) (by decide +kernel) rfl
theorem w_872 : Cond.fieldLink RX6 55 (TX6 25).1 (TX6 25).2.1 (TX6 25).2.2.1 ∈ TT := TT_of (i := 872) (by decide +kernel) rfl
theorem w_873 : Cond.fieldLink RX6 124 (TX6 26).1 (TX6 26).2.1 (TX6 26).2.2.1 ∈ TT := TT_of (i := 873) (by decide +kernel) rfl
theorem w_874 : Cond.fieldLink RX6 130 (TX6 27).1 (TX6 27).2.1 (TX6 27).2.2.1 ∈ TT := TT_of (i := 874) (by decide +kernel) rfl
theorem w_875 : Cond.fieldLink RX6 121 (TX6 28).1 (TX6 28).2.1 (TX6 28).2.2.1 ∈ TT := TT_of (i := 875) (by decide +kernel) rfl
theorem w_876 : Cond.fieldLink RX6 58 (TX6 29).1 (TX6 29).2.1 (TX6 29).2.2.1 ∈ TT := TT_of (i := 876) (by decide +kernel) rfl
theorem w_877 : Cond.fieldLink RX6 61 (TX6 30).1 (TX6 30).2.1 (TX6 30).2.2.1 ∈ TT := TT_of (i := 877) (by decide +kernel) rfl
theorem w_878 : Cond.fieldLink RX6 64 (TX6 31).1 (TX6 31).2.1 (TX6 31).2.2.1 ∈ TT := TT_of (i := 878) (by decide +kernel) rfl
theorem w_879 : Cond.fieldLink RX6 223 (TX6 32).1 (TX6 32).2.1 (TX6 32).2.2.1 ∈ TT := TT_of (i := 879) (by decide +kernel) rfl
theorem w_880 : Cond.fieldLink RX6 268 (TX6 33).1 (TX6 33).2.1 (TX6 33).2.2.1 ∈ TT := TT_of (i := 880) (by decide +kernel) rfl
theorem w_951 : Cond.instanceMethod yX6_count ∈ TT := TT_of (i := 951) (by decide +kernel) rfl
theorem w_952 : Cond.selects RX6 yX6_count yX6_count ∈ TT := TT_of (i := 952) (by decide +kernel) rfl
theorem w_953 : Cond.code yX6_count cX6_count 2 (some .int) ∈ TT := TT_of (i := 953) (by decide +kernel) rfl
theorem w_954 : Cond.methodLink RX6 82 yX6_placed ∈ TT := TT_of (i := 954) (by decide +kernel) rfl
theorem w_956 : Cond.instanceMethod yX6_placed ∈ TT := TT_of (i := 956) (by decide +kernel) rfl
theorem w_957 : Cond.code yX6_placed cX6_placed 4 (some .int) ∈ TT := TT_of (i := 957) (by decide +kernel) rfl
theorem w_958 : Cond.methodLink RX6 86 yX6_onesOf ∈ TT := TT_of (i := 958) (by decide +kernel) rfl
theorem w_959 : Cond.static yX6_onesOf ∈ TT := TT_of (i := 959) (by decide +kernel) rfl
theorem w_960 : Cond.code yX6_onesOf cX6_onesOf 3 (some .int) ∈ TT := TT_of (i := 960) (by decide +kernel) rfl
theorem w_962 : Cond.instanceMethod yX6_cask ∈ TT := TT_of (i := 962) (by decide +kernel) rfl
theorem w_963 : Cond.selects RX6 yX6_cask yX6_cask ∈ TT := TT_of (i := 963) (by decide +kernel) rfl
theorem w_964 : Cond.code yX6_cask cX6_cask 6 (some .int) ∈ TT := TT_of (i := 964) (by decide +kernel) rfl
theorem w_965 : Cond.methodLink RX6 98 yX6_isCask ∈ TT := TT_of (i := 965) (by decide +kernel) rfl
theorem w_966 : Cond.static yX6_isCask ∈ TT := TT_of (i := 966) (by decide +kernel) rfl
theorem w_967 : Cond.code yX6_isCask cX6_isCask 1 (some .boolean) ∈ TT := TT_of (i := 967) (by decide +kernel) rfl
theorem w_969 : Cond.instanceMethod yX6_lies ∈ TT := TT_of (i := 969) (by decide +kernel) rfl
theorem w_970 : Cond.selects RX6 yX6_lies yX6_lies ∈ TT := TT_of (i := 970) (by decide +kernel) rfl
theorem w_971 : Cond.code yX6_lies cX6_lies 3 (some .int) ∈ TT := TT_of (i := 971) (by decide +kernel) rfl
theorem w_973 : Cond.instanceMethod yX6_sky ∈ TT := TT_of (i := 973) (by decide +kernel) rfl
theorem w_974 : Cond.selects RX6 yX6_sky yX6_sky ∈ TT := TT_of (i := 974) (by decide +kernel) rfl
theorem w_975 : Cond.code yX6_sky cX6_sky 4 (some .int) ∈ TT := TT_of (i := 975) (by decide +kernel) rfl
theorem w_977 : Cond.instanceMethod yX6_feed ∈ TT := TT_of (i := 977) (by decide +kernel) rfl
theorem w_978 : Cond.selects RX6 yX6_feed yX6_feed ∈ TT := TT_of (i := 978) (by decide +kernel) rfl
theorem w_979 : Cond.code yX6_feed cX6_feed 8 (some .int) ∈ TT := TT_of (i := 979) (by decide +kernel) rfl
theorem w_980 : Cond.methodLink RX6 102 yX6_isByte ∈ TT := TT_of (i := 980) (by decide +kernel) rfl
theorem w_981 : Cond.static yX6_isByte ∈ TT := TT_of (i := 981) (by decide +kernel) rfl
theorem w_982 : Cond.code yX6_isByte cX6_isByte 1 (some .boolean) ∈ TT := TT_of (i := 982) (by decide +kernel) rfl
theorem w_985 : Cond.instanceMethod yX6_force ∈ TT := TT_of (i := 985) (by decide +kernel) rfl
theorem w_986 : Cond.selects RX6 yX6_force yX6_force ∈ TT := TT_of (i := 986) (by decide +kernel) rfl
theorem w_987 : Cond.code yX6_force cX6_force 3 (some .int) ∈ TT := TT_of (i := 987) (by decide +kernel) rfl
theorem w_989 : Cond.instanceMethod yX6_asks ∈ TT := TT_of (i := 989) (by decide +kernel) rfl
theorem w_990 : Cond.selects RX6 yX6_asks yX6_asks ∈ TT := TT_of (i := 990) (by decide +kernel) rfl
theorem w_991 : Cond.code yX6_asks cX6_asks 5 (some .int) ∈ TT := TT_of (i := 991) (by decide +kernel) rfl
theorem w_992 : Cond.methodLink RX6 170 yX6_isSky ∈ TT := TT_of (i := 992) (by decide +kernel) rfl
theorem w_993 : Cond.static yX6_isSky ∈ TT := TT_of (i := 993) (by decide +kernel) rfl
theorem w_994 : Cond.code yX6_isSky cX6_isSky 1 (some .boolean) ∈ TT := TT_of (i := 994) (by decide +kernel) rfl
theorem w_995 : Cond.methodLink RX6 173 yX6_isOne ∈ TT := TT_of (i := 995) (by decide +kernel) rfl
theorem w_997 : Cond.instanceMethod yX6_isOne ∈ TT := TT_of (i := 997) (by decide +kernel) rfl
theorem w_998 : Cond.code yX6_isOne cX6_isOne 2 (some .boolean) ∈ TT := TT_of (i := 998) (by decide +kernel) rfl
theorem w_999 : Cond.methodLink RX6 176 yX6_asksOf ∈ TT := TT_of (i := 999) (by decide +kernel) rfl
theorem w_1001 : Cond.instanceMethod yX6_asksOf ∈ TT := TT_of (i := 1001) (by decide +kernel) rfl
theorem w_1002 : Cond.code yX6_asksOf cX6_asksOf 4 (some .int) ∈ TT := TT_of (i := 1002) (by decide +kernel) rfl
theorem w_1003 : Cond.methodLink RX6 164 yX6_says ∈ TT := TT_of (i := 1003) (by decide +kernel) rfl
theorem w_1005 : Cond.instanceMethod yX6_says ∈ TT := TT_of (i := 1005) (by decide +kernel) rfl
theorem w_1006 : Cond.code yX6_says cX6_says 5 (some .int) ∈ TT := TT_of (i := 1006) (by decide +kernel) rfl
theorem w_1007 : Cond.methodLink RX6 160 yX6_two ∈ TT := TT_of (i := 1007) (by decide +kernel) rfl
theorem w_1008 : Cond.static yX6_two ∈ TT := TT_of (i := 1008) (by decide +kernel) rfl
theorem w_1009 : Cond.code yX6_two cX6_two 3 (some .int) ∈ TT := TT_of (i := 1009) (by decide +kernel) rfl
theorem w_1010 : Cond.methodLink RX6 167 yX6_within ∈ TT := TT_of (i := 1010) (by decide +kernel) rfl
theorem w_1011 : Cond.static yX6_within ∈ TT := TT_of (i := 1011) (by decide +kernel) rfl
theorem w_1012 : Cond.code yX6_within cX6_within 3 (some .int) ∈ TT := TT_of (i := 1012) (by decide +kernel) rfl
theorem w_1014 : Cond.instanceMethod yX6_diver ∈ TT := TT_of (i := 1014) (by decide +kernel) rfl
theorem w_1015 : Cond.selects RX6 yX6_diver yX6_diver ∈ TT := TT_of (i := 1015) (by decide +kernel) rfl
theorem w_1016 : Cond.code yX6_diver cX6_diver 3 (some .int) ∈ TT := TT_of (i := 1016) (by decide +kernel) rfl
theorem w_1018 : Cond.instanceMethod yX6_put ∈ TT := TT_of (i := 1018) (by decide +kernel) rfl
theorem w_1019 : Cond.selects RX6 yX6_put yX6_put ∈ TT := TT_of (i := 1019) (by decide +kernel) rfl
theorem w_1020 : Cond.code yX6_put cX6_put 4 (some .int) ∈ TT := TT_of (i := 1020) (by decide +kernel) rfl
theorem w_1022 : Cond.instanceMethod yX6_told ∈ TT := TT_of (i := 1022) (by decide +kernel) rfl
theorem w_1023 : Cond.selects RX6 yX6_told yX6_told ∈ TT := TT_of (i := 1023) (by decide +kernel) rfl
theorem w_1024 : Cond.code yX6_told cX6_told 3 (some .int) ∈ TT := TT_of (i := 1024) (by decide +kernel) rfl
theorem w_1025 : Cond.methodLink RX6 189 yX6_canSet ∈ TT := TT_of (i := 1025) (by decide +kernel) rfl
theorem w_1027 : Cond.instanceMethod yX6_canSet ∈ TT := TT_of (i := 1027) (by decide +kernel) rfl
theorem w_1028 : Cond.code yX6_canSet cX6_canSet 4 (some .int) ∈ TT := TT_of (i := 1028) (by decide +kernel) rfl
theorem w_1029 : Cond.methodLink RX6 185 yX6_can ∈ TT := TT_of (i := 1029) (by decide +kernel) rfl
theorem w_1031 : Cond.instanceMethod yX6_can ∈ TT := TT_of (i := 1031) (by decide +kernel) rfl
theorem w_1032 : Cond.code yX6_can cX6_can 3 (some .boolean) ∈ TT := TT_of (i := 1032) (by decide +kernel) rfl
theorem w_1033 : Cond.methodLink RX6 179 yX6_reachesOf ∈ TT := TT_of (i := 1033) (by decide +kernel) rfl
theorem w_1035 : Cond.instanceMethod yX6_reachesOf ∈ TT := TT_of (i := 1035) (by decide +kernel) rfl
theorem w_1036 : Cond.code yX6_reachesOf cX6_reachesOf 5 (some .int) ∈ TT := TT_of (i := 1036) (by decide +kernel) rfl
theorem w_1037 : Cond.methodLink RX6 182 yX6_costsOf ∈ TT := TT_of (i := 1037) (by decide +kernel) rfl
theorem w_1039 : Cond.instanceMethod yX6_costsOf ∈ TT := TT_of (i := 1039) (by decide +kernel) rfl
theorem w_1040 : Cond.code yX6_costsOf cX6_costsOf 4 (some .int) ∈ TT := TT_of (i := 1040) (by decide +kernel) rfl
theorem w_1041 : Cond.methodLink RX6 192 yX6_breathesOf ∈ TT := TT_of (i := 1041) (by decide +kernel) rfl
theorem w_1043 : Cond.instanceMethod yX6_breathesOf ∈ TT := TT_of (i := 1043) (by decide +kernel) rfl
theorem w_1044 : Cond.code yX6_breathesOf cX6_breathesOf 2 (some .int) ∈ TT := TT_of (i := 1044) (by decide +kernel) rfl
theorem w_1046 : Cond.instanceMethod yX6_dives ∈ TT := TT_of (i := 1046) (by decide +kernel) rfl
theorem w_1047 : Cond.selects RX6 yX6_dives yX6_dives ∈ TT := TT_of (i := 1047) (by decide +kernel) rfl
theorem w_1048 : Cond.code yX6_dives cX6_dives 4 (some .int) ∈ TT := TT_of (i := 1048) (by decide +kernel) rfl
theorem w_1050 : Cond.instanceMethod yX6_dive ∈ TT := TT_of (i := 1050) (by decide +kernel) rfl
theorem w_1051 : Cond.selects RX6 yX6_dive yX6_dive ∈ TT := TT_of (i := 1051) (by decide +kernel) rfl
theorem w_1052 : Cond.code yX6_dive cX6_dive 3 (some .int) ∈ TT := TT_of (i := 1052) (by decide +kernel) rfl
theorem w_1053 : Cond.methodLink RX6 195 yX6_diveOf ∈ TT := TT_of (i := 1053) (by decide +kernel) rfl
theorem w_1055 : Cond.instanceMethod yX6_diveOf ∈ TT := TT_of (i := 1055) (by decide +kernel) rfl
theorem w_1056 : Cond.code yX6_diveOf cX6_diveOf 3 none ∈ TT := TT_of (i := 1056) (by decide +kernel) rfl
theorem w_1058 : Cond.instanceMethod yX6_open ∈ TT := TT_of (i := 1058) (by decide +kernel) rfl
theorem w_1059 : Cond.selects RX6 yX6_open yX6_open ∈ TT := TT_of (i := 1059) (by decide +kernel) rfl
theorem w_1060 : Cond.code yX6_open cX6_open 2 (some .int) ∈ TT := TT_of (i := 1060) (by decide +kernel) rfl
theorem w_1061 : Cond.methodLink RX6 199 yX6_opens0 ∈ TT := TT_of (i := 1061) (by decide +kernel) rfl
theorem w_1063 : Cond.instanceMethod yX6_opens0 ∈ TT := TT_of (i := 1063) (by decide +kernel) rfl
theorem w_1064 : Cond.code yX6_opens0 cX6_opens0 3 none ∈ TT := TT_of (i := 1064) (by decide +kernel) rfl
theorem w_1066 : Cond.instanceMethod yX6_hour ∈ TT := TT_of (i := 1066) (by decide +kernel) rfl
theorem w_1067 : Cond.selects RX6 yX6_hour yX6_hour ∈ TT := TT_of (i := 1067) (by decide +kernel) rfl
theorem w_1068 : Cond.code yX6_hour cX6_hour 1 (some .int) ∈ TT := TT_of (i := 1068) (by decide +kernel) rfl
theorem w_1069 : Cond.methodLink RX6 202 yX6_hourOf ∈ TT := TT_of (i := 1069) (by decide +kernel) rfl
theorem w_1071 : Cond.instanceMethod yX6_hourOf ∈ TT := TT_of (i := 1071) (by decide +kernel) rfl
theorem w_1072 : Cond.code yX6_hourOf cX6_hourOf 3 none ∈ TT := TT_of (i := 1072) (by decide +kernel) rfl
theorem w_1073 : Cond.methodLink RX6 205 yX6_main0 ∈ TT := TT_of (i := 1073) (by decide +kernel) rfl
theorem w_1075 : Cond.instanceMethod yX6_main0 ∈ TT := TT_of (i := 1075) (by decide +kernel) rfl
theorem w_1076 : Cond.code yX6_main0 cX6_main0 4 (some .int) ∈ TT := TT_of (i := 1076) (by decide +kernel) rfl
theorem w_1078 : Cond.instanceMethod yX6_bay ∈ TT := TT_of (i := 1078) (by decide +kernel) rfl
theorem w_1079 : Cond.selects RX6 yX6_bay yX6_bay ∈ TT := TT_of (i := 1079) (by decide +kernel) rfl
theorem w_1080 : Cond.code yX6_bay cX6_bay 2 (some .int) ∈ TT := TT_of (i := 1080) (by decide +kernel) rfl
theorem w_1081 : Cond.methodLink RX6 211 yX6_bayOf ∈ TT := TT_of (i := 1081) (by decide +kernel) rfl
theorem w_1083 : Cond.instanceMethod yX6_bayOf ∈ TT := TT_of (i := 1083) (by decide +kernel) rfl
theorem w_1084 : Cond.code yX6_bayOf cX6_bayOf 2 (some .int) ∈ TT := TT_of (i := 1084) (by decide +kernel) rfl
theorem w_1085 : Cond.methodLink RX6 208 yX6_fair ∈ TT := TT_of (i := 1085) (by decide +kernel) rfl
theorem w_1087 : Cond.instanceMethod yX6_fair ∈ TT := TT_of (i := 1087) (by decide +kernel) rfl
theorem w_1088 : Cond.code yX6_fair cX6_fair 1 (some .int) ∈ TT := TT_of (i := 1088) (by decide +kernel) rfl
theorem w_1090 : Cond.instanceMethod yX6_run ∈ TT := TT_of (i := 1090) (by decide +kernel) rfl
theorem w_1091 : Cond.selects RX6 yX6_run yX6_run ∈ TT := TT_of (i := 1091) (by decide +kernel) rfl
theorem w_1092 : Cond.code yX6_run cX6_run 4 (some .int) ∈ TT := TT_of (i := 1092) (by decide +kernel) rfl
theorem w_1093 : Cond.methodLink RX6 214 yX6_keeps ∈ TT := TT_of (i := 1093) (by decide +kernel) rfl
theorem w_1095 : Cond.instanceMethod yX6_keeps ∈ TT := TT_of (i := 1095) (by decide +kernel) rfl
theorem w_1096 : Cond.code yX6_keeps cX6_keeps 2 none ∈ TT := TT_of (i := 1096) (by decide +kernel) rfl
theorem w_1097 : Cond.methodLink RX6 217 yX6_goes ∈ TT := TT_of (i := 1097) (by decide +kernel) rfl
theorem w_1099 : Cond.instanceMethod yX6_goes ∈ TT := TT_of (i := 1099) (by decide +kernel) rfl
theorem w_1100 : Cond.code yX6_goes cX6_goes 3 none ∈ TT := TT_of (i := 1100) (by decide +kernel) rfl
theorem w_1101 : Cond.methodLink RX6 220 yX6_lays ∈ TT := TT_of (i := 1101) (by decide +kernel) rfl
theorem w_1103 : Cond.instanceMethod yX6_lays ∈ TT := TT_of (i := 1103) (by decide +kernel) rfl
theorem w_1104 : Cond.code yX6_lays cX6_lays 2 none ∈ TT := TT_of (i := 1104) (by decide +kernel) rfl
theorem w_1106 : Cond.instanceMethod yX6_stills ∈ TT := TT_of (i := 1106) (by decide +kernel) rfl
theorem w_1107 : Cond.selects RX6 yX6_stills yX6_stills ∈ TT := TT_of (i := 1107) (by decide +kernel) rfl
theorem w_1108 : Cond.code yX6_stills cX6_stills 3 (some .int) ∈ TT := TT_of (i := 1108) (by decide +kernel) rfl
theorem w_1110 : Cond.instanceMethod yX6_row ∈ TT := TT_of (i := 1110) (by decide +kernel) rfl
theorem w_1111 : Cond.selects RX6 yX6_row yX6_row ∈ TT := TT_of (i := 1111) (by decide +kernel) rfl
theorem w_1112 : Cond.code yX6_row cX6_row 7 (some .int) ∈ TT := TT_of (i := 1112) (by decide +kernel) rfl
theorem w_1113 : Cond.methodLink RX6 226 yX6_rowWrong ∈ TT := TT_of (i := 1113) (by decide +kernel) rfl
theorem w_1115 : Cond.instanceMethod yX6_rowWrong ∈ TT := TT_of (i := 1115) (by decide +kernel) rfl
theorem w_1116 : Cond.code yX6_rowWrong cX6_rowWrong 4 (some .int) ∈ TT := TT_of (i := 1116) (by decide +kernel) rfl
theorem w_1117 : Cond.methodLink RX6 229 yX6_rowOf ∈ TT := TT_of (i := 1117) (by decide +kernel) rfl
theorem w_1119 : Cond.instanceMethod yX6_rowOf ∈ TT := TT_of (i := 1119) (by decide +kernel) rfl
theorem w_1120 : Cond.code yX6_rowOf cX6_rowOf 6 (some .int) ∈ TT := TT_of (i := 1120) (by decide +kernel) rfl
theorem w_1122 : Cond.instanceMethod yX6_salvage ∈ TT := TT_of (i := 1122) (by decide +kernel) rfl
theorem w_1123 : Cond.selects RX6 yX6_salvage yX6_salvage ∈ TT := TT_of (i := 1123) (by decide +kernel) rfl
theorem w_1124 : Cond.code yX6_salvage cX6_salvage 4 (some .int) ∈ TT := TT_of (i := 1124) (by decide +kernel) rfl
theorem w_1126 : Cond.instanceMethod yX6_which ∈ TT := TT_of (i := 1126) (by decide +kernel) rfl
theorem w_1127 : Cond.selects RX6 yX6_which yX6_which ∈ TT := TT_of (i := 1127) (by decide +kernel) rfl
theorem w_1128 : Cond.code yX6_which cX6_which 7 (some .int) ∈ TT := TT_of (i := 1128) (by decide +kernel) rfl
theorem w_1129 : Cond.methodLink RX6 232 yX6_fairBehind ∈ TT := TT_of (i := 1129) (by decide +kernel) rfl
theorem w_1131 : Cond.instanceMethod yX6_fairBehind ∈ TT := TT_of (i := 1131) (by decide +kernel) rfl
theorem w_1132 : Cond.code yX6_fairBehind cX6_fairBehind 3 (some .int) ∈ TT := TT_of (i := 1132) (by decide +kernel) rfl
theorem w_1134 : Cond.instanceMethod yX6_cargo ∈ TT := TT_of (i := 1134) (by decide +kernel) rfl
theorem w_1135 : Cond.selects RX6 yX6_cargo yX6_cargo ∈ TT := TT_of (i := 1135) (by decide +kernel) rfl
theorem w_1136 : Cond.code yX6_cargo cX6_cargo 10 (some .int) ∈ TT := TT_of (i := 1136) (by decide +kernel) rfl
theorem w_1138 : Cond.instanceMethod yX6_last ∈ TT := TT_of (i := 1138) (by decide +kernel) rfl
theorem w_1139 : Cond.selects RX6 yX6_last yX6_last ∈ TT := TT_of (i := 1139) (by decide +kernel) rfl
theorem w_1140 : Cond.code yX6_last cX6_last 8 (some .int) ∈ TT := TT_of (i := 1140) (by decide +kernel) rfl
theorem w_1141 : Cond.methodLink RX6 235 yX6_leftBy ∈ TT := TT_of (i := 1141) (by decide +kernel) rfl
theorem w_1143 : Cond.instanceMethod yX6_leftBy ∈ TT := TT_of (i := 1143) (by decide +kernel) rfl
theorem w_1144 : Cond.code yX6_leftBy cX6_leftBy 9 (some .int) ∈ TT := TT_of (i := 1144) (by decide +kernel) rfl
theorem w_1146 : Cond.instanceMethod yX6_best ∈ TT := TT_of (i := 1146) (by decide +kernel) rfl
theorem w_1147 : Cond.selects RX6 yX6_best yX6_best ∈ TT := TT_of (i := 1147) (by decide +kernel) rfl
theorem w_1148 : Cond.code yX6_best cX6_best 6 (some .int) ∈ TT := TT_of (i := 1148) (by decide +kernel) rfl
theorem w_1150 : Cond.instanceMethod yX6_share ∈ TT := TT_of (i := 1150) (by decide +kernel) rfl
theorem w_1151 : Cond.selects RX6 yX6_share yX6_share ∈ TT := TT_of (i := 1151) (by decide +kernel) rfl
theorem w_1152 : Cond.code yX6_share cX6_share 5 (some .long) ∈ TT := TT_of (i := 1152) (by decide +kernel) rfl
theorem w_1153 : Cond.methodLink RX6 239 yX6_lowest ∈ TT := TT_of (i := 1153) (by decide +kernel) rfl
theorem w_1154 : Cond.static yX6_lowest ∈ TT := TT_of (i := 1154) (by decide +kernel) rfl
theorem w_1155 : Cond.code yX6_lowest cX6_lowest 11 (some .long) ∈ TT := TT_of (i := 1155) (by decide +kernel) rfl
theorem w_1156 : Cond.constantLong RX6 243 (-4611686018427387904 : Int64) ∈ TT := TT_of (i := 1156) (by decide +kernel) rfl
theorem w_1158 : Cond.instanceMethod yX6_judge ∈ TT := TT_of (i := 1158) (by decide +kernel) rfl
theorem w_1159 : Cond.selects RX6 yX6_judge yX6_judge ∈ TT := TT_of (i := 1159) (by decide +kernel) rfl
theorem w_1160 : Cond.code yX6_judge cX6_judge 4 (some .int) ∈ TT := TT_of (i := 1160) (by decide +kernel) rfl
theorem w_1161 : Cond.methodLink RX6 248 yX6_toldWrong ∈ TT := TT_of (i := 1161) (by decide +kernel) rfl
theorem w_1163 : Cond.instanceMethod yX6_toldWrong ∈ TT := TT_of (i := 1163) (by decide +kernel) rfl
theorem w_1164 : Cond.code yX6_toldWrong cX6_toldWrong 4 (some .int) ∈ TT := TT_of (i := 1164) (by decide +kernel) rfl
theorem w_1165 : Cond.methodLink RX6 245 yX6_sheetWrong ∈ TT := TT_of (i := 1165) (by decide +kernel) rfl
theorem w_1167 : Cond.instanceMethod yX6_sheetWrong ∈ TT := TT_of (i := 1167) (by decide +kernel) rfl
theorem w_1168 : Cond.code yX6_sheetWrong cX6_sheetWrong 3 (some .int) ∈ TT := TT_of (i := 1168) (by decide +kernel) rfl
theorem w_1169 : Cond.methodLink RX6 251 yX6_unlike ∈ TT := TT_of (i := 1169) (by decide +kernel) rfl
theorem w_1171 : Cond.instanceMethod yX6_unlike ∈ TT := TT_of (i := 1171) (by decide +kernel) rfl
theorem w_1172 : Cond.code yX6_unlike cX6_unlike 5 (some .int) ∈ TT := TT_of (i := 1172) (by decide +kernel) rfl
theorem w_1174 : Cond.instanceMethod yX6_opened ∈ TT := TT_of (i := 1174) (by decide +kernel) rfl
theorem w_1175 : Cond.selects RX6 yX6_opened yX6_opened ∈ TT := TT_of (i := 1175) (by decide +kernel) rfl
theorem w_1176 : Cond.code yX6_opened cX6_opened 8 (some .int) ∈ TT := TT_of (i := 1176) (by decide +kernel) rfl
theorem w_1178 : Cond.instanceMethod yX6_skies ∈ TT := TT_of (i := 1178) (by decide +kernel) rfl
theorem w_1179 : Cond.selects RX6 yX6_skies yX6_skies ∈ TT := TT_of (i := 1179) (by decide +kernel) rfl
theorem w_1180 : Cond.code yX6_skies cX6_skies 10 (some .int) ∈ TT := TT_of (i := 1180) (by decide +kernel) rfl
theorem w_1182 : Cond.instanceMethod yX6_whose ∈ TT := TT_of (i := 1182) (by decide +kernel) rfl
theorem w_1183 : Cond.selects RX6 yX6_whose yX6_whose ∈ TT := TT_of (i := 1183) (by decide +kernel) rfl
theorem w_1184 : Cond.code yX6_whose cX6_whose 5 (some .int) ∈ TT := TT_of (i := 1184) (by decide +kernel) rfl
theorem w_1186 : Cond.instanceMethod yX6_laws ∈ TT := TT_of (i := 1186) (by decide +kernel) rfl
theorem w_1187 : Cond.selects RX6 yX6_laws yX6_laws ∈ TT := TT_of (i := 1187) (by decide +kernel) rfl
theorem w_1188 : Cond.code yX6_laws cX6_laws 7 (some .int) ∈ TT := TT_of (i := 1188) (by decide +kernel) rfl
theorem w_1190 : Cond.instanceMethod yX6_film ∈ TT := TT_of (i := 1190) (by decide +kernel) rfl
theorem w_1191 : Cond.selects RX6 yX6_film yX6_film ∈ TT := TT_of (i := 1191) (by decide +kernel) rfl
theorem w_1192 : Cond.code yX6_film cX6_film 5 (some .int) ∈ TT := TT_of (i := 1192) (by decide +kernel) rfl
theorem w_1194 : Cond.instanceMethod yX6_kinds ∈ TT := TT_of (i := 1194) (by decide +kernel) rfl
theorem w_1195 : Cond.selects RX6 yX6_kinds yX6_kinds ∈ TT := TT_of (i := 1195) (by decide +kernel) rfl
theorem w_1196 : Cond.code yX6_kinds cX6_kinds 9 (some .int) ∈ TT := TT_of (i := 1196) (by decide +kernel) rfl
theorem w_1197 : Cond.methodLink RX6 254 yX6_divesWrong ∈ TT := TT_of (i := 1197) (by decide +kernel) rfl
theorem w_1199 : Cond.instanceMethod yX6_divesWrong ∈ TT := TT_of (i := 1199) (by decide +kernel) rfl
theorem w_1200 : Cond.code yX6_divesWrong cX6_divesWrong 4 (some .int) ∈ TT := TT_of (i := 1200) (by decide +kernel) rfl
theorem w_1201 : Cond.methodLink RX6 257 yX6_divesSo ∈ TT := TT_of (i := 1201) (by decide +kernel) rfl
theorem w_1203 : Cond.instanceMethod yX6_divesSo ∈ TT := TT_of (i := 1203) (by decide +kernel) rfl
theorem w_1204 : Cond.code yX6_divesSo cX6_divesSo 4 (some .boolean) ∈ TT := TT_of (i := 1204) (by decide +kernel) rfl
theorem w_1206 : Cond.instanceMethod yX6_breaths ∈ TT := TT_of (i := 1206) (by decide +kernel) rfl
theorem w_1207 : Cond.selects RX6 yX6_breaths yX6_breaths ∈ TT := TT_of (i := 1207) (by decide +kernel) rfl
theorem w_1208 : Cond.code yX6_breaths cX6_breaths 10 (some .int) ∈ TT := TT_of (i := 1208) (by decide +kernel) rfl
theorem w_1210 : Cond.instanceMethod yX6_drawn ∈ TT := TT_of (i := 1210) (by decide +kernel) rfl
theorem w_1211 : Cond.selects RX6 yX6_drawn yX6_drawn ∈ TT := TT_of (i := 1211) (by decide +kernel) rfl
theorem w_1212 : Cond.code yX6_drawn cX6_drawn 4 (some .int) ∈ TT := TT_of (i := 1212) (by decide +kernel) rfl
theorem w_1213 : Cond.constant RX6 271 (99999 : Int32) ∈ TT := TT_of (i := 1213) (by decide +kernel) rfl
theorem w_1214 : Cond.methodLink RX6 272 yX6_storms ∈ TT := TT_of (i := 1214) (by decide +kernel) rfl
theorem w_1216 : Cond.instanceMethod yX6_storms ∈ TT := TT_of (i := 1216) (by decide +kernel) rfl
theorem w_1217 : Cond.code yX6_storms cX6_storms 6 (some .int) ∈ TT := TT_of (i := 1217) (by decide +kernel) rfl
theorem w_1218 : Cond.constantLong RX6 260 (48271 : Int64) ∈ TT := TT_of (i := 1218) (by decide +kernel) rfl
theorem w_1219 : Cond.constantLong RX6 262 (2147483647 : Int64) ∈ TT := TT_of (i := 1219) (by decide +kernel) rfl
theorem w_1220 : Cond.constantLong RX6 264 (6 : Int64) ∈ TT := TT_of (i := 1220) (by decide +kernel) rfl
theorem w_1221 : Cond.constantLong RX6 266 (30 : Int64) ∈ TT := TT_of (i := 1221) (by decide +kernel) rfl
theorem w_1223 : Cond.instanceMethod yX6_odds ∈ TT := TT_of (i := 1223) (by decide +kernel) rfl
theorem w_1224 : Cond.selects RX6 yX6_odds yX6_odds ∈ TT := TT_of (i := 1224) (by decide +kernel) rfl
theorem w_1225 : Cond.code yX6_odds cX6_odds 8 (some .long) ∈ TT := TT_of (i := 1225) (by decide +kernel) rfl
theorem w_1227 : Cond.instanceMethod yX6_image ∈ TT := TT_of (i := 1227) (by decide +kernel) rfl
theorem w_1228 : Cond.selects RX6 yX6_image yX6_image ∈ TT := TT_of (i := 1228) (by decide +kernel) rfl
theorem w_1229 : Cond.code yX6_image cX6_image 2 (some .int) ∈ TT := TT_of (i := 1229) (by decide +kernel) rfl
theorem w_1231 : Cond.instanceMethod yX6_back ∈ TT := TT_of (i := 1231) (by decide +kernel) rfl
theorem w_1232 : Cond.selects RX6 yX6_back yX6_back ∈ TT := TT_of (i := 1232) (by decide +kernel) rfl
theorem w_1233 : Cond.code yX6_back cX6_back 2 (some .int) ∈ TT := TT_of (i := 1233) (by decide +kernel) rfl
theorem w_1235 : Cond.instanceMethod yX6_sheet ∈ TT := TT_of (i := 1235) (by decide +kernel) rfl
theorem w_1236 : Cond.selects RX6 yX6_sheet yX6_sheet ∈ TT := TT_of (i := 1236) (by decide +kernel) rfl
theorem w_1237 : Cond.code yX6_sheet cX6_sheet 5 (some .int) ∈ TT := TT_of (i := 1237) (by decide +kernel) rfl
theorem w_1239 : Cond.instanceMethod yX6_cell ∈ TT := TT_of (i := 1239) (by decide +kernel) rfl
theorem w_1240 : Cond.selects RX6 yX6_cell yX6_cell ∈ TT := TT_of (i := 1240) (by decide +kernel) rfl
theorem w_1241 : Cond.code yX6_cell cX6_cell 4 (some .int) ∈ TT := TT_of (i := 1241) (by decide +kernel) rfl
theorem w_1243 : Cond.instanceMethod yX6_copy ∈ TT := TT_of (i := 1243) (by decide +kernel) rfl
theorem w_1244 : Cond.selects RX6 yX6_copy yX6_copy ∈ TT := TT_of (i := 1244) (by decide +kernel) rfl
theorem w_1245 : Cond.code yX6_copy cX6_copy 10 (some .int) ∈ TT := TT_of (i := 1245) (by decide +kernel) rfl
theorem w_1247 : Cond.instanceMethod yX6_diversBy ∈ TT := TT_of (i := 1247) (by decide +kernel) rfl
theorem w_1248 : Cond.selects RX6 yX6_diversBy yX6_diversBy ∈ TT := TT_of (i := 1248) (by decide +kernel) rfl
theorem w_1249 : Cond.code yX6_diversBy cX6_diversBy 9 (some .int) ∈ TT := TT_of (i := 1249) (by decide +kernel) rfl
theorem w_1250 : Cond.methodLink RX6 279 yX6_diver ∈ TT := TT_of (i := 1250) (by decide +kernel) rfl
theorem w_1252 : Cond.instanceMethod yX6_taken ∈ TT := TT_of (i := 1252) (by decide +kernel) rfl
theorem w_1253 : Cond.selects RX6 yX6_taken yX6_taken ∈ TT := TT_of (i := 1253) (by decide +kernel) rfl
theorem w_1254 : Cond.code yX6_taken cX6_taken 4 (some .int) ∈ TT := TT_of (i := 1254) (by decide +kernel) rfl
theorem w_1255 : Cond.methodLink RX6 282 yX6_isUnder ∈ TT := TT_of (i := 1255) (by decide +kernel) rfl
theorem w_1256 : Cond.static yX6_isUnder ∈ TT := TT_of (i := 1256) (by decide +kernel) rfl
theorem w_1257 : Cond.code yX6_isUnder cX6_isUnder 2 (some .boolean) ∈ TT := TT_of (i := 1257) (by decide +kernel) rfl
theorem wm_copy : Cond.native arraycopyName ∈ TT ∧ Cond.static arraycopyName ∈ TT ∧ Cond.initialized "java/lang/System" ∈ TT := ⟨TT_of (i := 602) (by decide +kernel) rfl, TT_of (i := 601) (by decide +kernel) rfl, TT_of (i := 73) (by decide +kernel) rfl⟩
theorem wm_max : Cond.static Lib.Math.max.name ∈ TT ∧ Cond.initialized "java/lang/Math" ∈ TT ∧ Cond.code Lib.Math.max.name Lib.Math.max.code 2 (some .int) ∈ TT := ⟨TT_of (i := 474) (by decide +kernel) rfl, TT_of (i := 71) (by decide +kernel) rfl, TT_of (i := 475) (by decide +kernel) rfl⟩
theorem wm_min : Cond.static Lib.Math.min.name ∈ TT ∧ Cond.initialized "java/lang/Math" ∈ TT ∧ Cond.code Lib.Math.min.name Lib.Math.min.code 2 (some .int) ∈ TT := ⟨TT_of (i := 471) (by decide +kernel) rfl, TT_of (i := 71) (by decide +kernel) rfl, TT_of (i := 472) (by decide +kernel) rfl⟩
theorem cm_X1_casksAt : CV RX1 yX1_casksAt cX1_casksAt 4 (some .int) 1 := ⟨w_395, w_396, w_68, w_397, by decide +kernel⟩
theorem cm_J6_bitCount_0f7a4 : CS yJ6_bitCount_0f7a4 cJ6_bitCount_0f7a4 1 (some .int) 1 := ⟨w_399, w_70, w_400, by decide +kernel⟩
theorem cm_X5_isWithin : CS yX5_isWithin cX5_isWithin 2 (some .boolean) 2 := ⟨w_412, w_60, w_413, by decide +kernel⟩
theorem cm_X5_isCask : CS yX5_isCask cX5_isCask 1 (some .boolean) 1 := ⟨w_409, w_60, w_410, by decide +kernel⟩
theorem cm_X1_caskRow : CV RX1 yX1_caskRow cX1_caskRow 2 (some (.array .int)) 1 := ⟨w_417, w_418, w_68, w_419, by decide +kernel⟩
theorem cm_X5_isSort : CS yX5_isSort cX5_isSort 1 (some .boolean) 1 := ⟨w_433, w_60, w_434, by decide +kernel⟩
theorem cm_X5_setHour : CV RX5 yX5_setHour cX5_setHour 3 (some .int) 1 := ⟨w_430, w_14, w_60, w_431, by decide +kernel⟩
theorem cm_X5_areBytes : CS yX5_areBytes cX5_areBytes 5 (some .boolean) 5 := ⟨w_440, w_60, w_441, by decide +kernel⟩
theorem cm_X3_hasRoom : CV RX3 yX3_hasRoom cX3_hasRoom 2 (some .boolean) 1 := ⟨w_443, w_444, w_61, w_445, by decide +kernel⟩
theorem cm_X3_add : CV RX3 yX3_add cX3_add 2 none 1 := ⟨w_212, w_213, w_61, w_214, by decide +kernel⟩
theorem cm_X3_isLetter : CS yX3_isLetter cX3_isLetter 1 (some .boolean) 1 := ⟨w_231, w_61, w_232, by decide +kernel⟩
theorem cm_X3_spells : CV RX3 yX3_spells cX3_spells 4 (some .boolean) 2 := ⟨w_242, w_2, w_61, w_243, by decide +kernel⟩
theorem cm_X3_isDigit : CS yX3_isDigit cX3_isDigit 1 (some .boolean) 1 := ⟨w_245, w_61, w_246, by decide +kernel⟩
theorem cm_X3_isSign : CS yX3_isSign cX3_isSign 1 (some .boolean) 1 := ⟨w_252, w_61, w_253, by decide +kernel⟩
theorem cm_X3_nextNumber : CV RX3 yX3_nextNumber cX3_nextNumber 1 none 0 := ⟨w_249, w_3, w_61, w_250, by decide +kernel⟩
theorem cm_X3_nextWord : CV RX3 yX3_nextWord cX3_nextWord 4 none 0 := ⟨w_235, w_1, w_61, w_236, by decide +kernel⟩
theorem cm_X3_isBlank : CS yX3_isBlank cX3_isBlank 1 (some .boolean) 1 := ⟨w_228, w_61, w_229, by decide +kernel⟩
theorem cm_X3_next : CV RX3 yX3_next cX3_next 1 none 0 := ⟨w_225, w_0, w_61, w_226, by decide +kernel⟩
theorem cm_X3_readsAnd : CV RX3 yX3_readsAnd cX3_readsAnd 4 (some .boolean) 1 := ⟨w_268, w_7, w_61, w_269, by decide +kernel⟩
theorem cm_X4_add : CV RX4 yX4_add cX4_add 2 none 1 := ⟨w_279, w_280, w_62, w_281, by decide +kernel⟩
theorem cm_X3_readsNot : CV RX3 yX3_readsNot cX3_readsNot 4 (some .boolean) 1 := ⟨w_272, w_8, w_61, w_273, by decide +kernel⟩
theorem cm_X3_readsSum : CV RX3 yX3_readsSum cX3_readsSum 5 (some .boolean) 1 := ⟨w_284, w_10, w_61, w_285, by decide +kernel⟩
theorem cm_X3_readsNotBehindNot : CV RX3 yX3_readsNotBehindNot cX3_readsNotBehindNot 3 (some .boolean) 1 := ⟨w_276, w_9, w_61, w_277, by decide +kernel⟩
theorem cm_X3_readsTerm : CV RX3 yX3_readsTerm cX3_readsTerm 4 (some .boolean) 1 := ⟨w_288, w_11, w_61, w_289, by decide +kernel⟩
theorem cm_X3_readsOne : CV RX3 yX3_readsOne cX3_readsOne 2 (some .boolean) 1 := ⟨w_292, w_12, w_61, w_293, by decide +kernel⟩
theorem cm_X3_isName : CS yX3_isName cX3_isName 1 (some .boolean) 1 := ⟨w_295, w_61, w_296, by decide +kernel⟩
theorem cm_X3_passes : CV RX3 yX3_passes cX3_passes 2 (some .boolean) 1 := ⟨w_260, w_5, w_61, w_261, by decide +kernel⟩
theorem cm_X3_readsOr : CV RX3 yX3_readsOr cX3_readsOr 4 (some .boolean) 1 := ⟨w_264, w_6, w_61, w_265, by decide +kernel⟩
theorem cm_X3_readsOneBehindMinus : CV RX3 yX3_readsOneBehindMinus cX3_readsOneBehindMinus 3 (some .boolean) 1 := ⟨w_299, w_13, w_61, w_300, by decide +kernel⟩
theorem cm_X4_endPart : CV RX4 yX4_endPart cX4_endPart 2 none 1 := ⟨w_302, w_303, w_62, w_304, by decide +kernel⟩
theorem cm_X4_clear : CV RX4 yX4_clear cX4_clear 1 none 0 := ⟨w_220, w_221, w_62, w_222, by decide +kernel⟩
theorem cm_X3_readsParts : CV RX3 yX3_readsParts cX3_readsParts 2 (some .boolean) 0 := ⟨w_256, w_4, w_61, w_257, by decide +kernel⟩
theorem cm_X3_readInto : CV RX3 yX3_readInto cX3_readInto 2 (some .int) 1 := ⟨w_216, w_217, w_61, w_218, by decide +kernel⟩
theorem cm_X3_clear : CV RX3 yX3_clear cX3_clear 1 none 0 := ⟨w_306, w_307, w_61, w_308, by decide +kernel⟩
theorem cm_X4_joined : CS yX4_joined cX4_joined 3 (some .int) 3 := ⟨w_468, w_62, w_469, by decide +kernel⟩
theorem cm_X4_says : CV RX4 yX4_says cX4_says 11 (some .int) 7 := ⟨w_463, w_464, w_62, w_465, by decide +kernel⟩
theorem cm_X5_isDiver : CV RX5 yX5_isDiver cX5_isDiver 2 (some .boolean) 1 := ⟨w_478, w_15, w_60, w_479, by decide +kernel⟩
theorem cm_X1_saidCost : CV RX1 yX1_saidCost cX1_saidCost 3 (some .int) 2 := ⟨w_485, w_486, w_68, w_487, by decide +kernel⟩
theorem cm_X1_saidReach : CV RX1 yX1_saidReach cX1_saidReach 3 (some .int) 2 := ⟨w_481, w_482, w_68, w_483, by decide +kernel⟩
theorem cm_X1_fading : CV RX1 yX1_fading cX1_fading 4 (some .int) 3 := ⟨w_459, w_460, w_68, w_461, by decide +kernel⟩
theorem cm_X1_comes : CV RX1 yX1_comes cX1_comes 5 (some .int) 3 := ⟨w_493, w_494, w_68, w_495, by decide +kernel⟩
theorem cm_X0_reach : CS yX0_reach cX0_reach 3 (some .int) 3 := ⟨w_518, w_72, w_519, by decide +kernel⟩
theorem cm_X0_cost : CS yX0_cost cX0_cost 5 (some .int) 5 := ⟨w_526, w_72, w_527, by decide +kernel⟩
theorem cm_X1_reach : CV RX1 yX1_reach cX1_reach 3 (some .int) 2 := ⟨w_513, w_514, w_68, w_515, by decide +kernel⟩
theorem cm_X1_cost : CV RX1 yX1_cost cX1_cost 3 (some .int) 2 := ⟨w_521, w_522, w_68, w_523, by decide +kernel⟩
theorem cm_X1_can : CV RX1 yX1_can cX1_can 3 (some .boolean) 2 := ⟨w_509, w_510, w_68, w_511, by decide +kernel⟩
theorem cm_X1_casksFor : CV RX1 yX1_casksFor cX1_casksFor 4 (some .int) 1 := ⟨w_505, w_506, w_68, w_507, by decide +kernel⟩
theorem cm_X0_breathing : CS yX0_breathing cX0_breathing 2 (some .int) 2 := ⟨w_529, w_72, w_530, by decide +kernel⟩
theorem cm_X1_bringUp : CV RX1 yX1_bringUp cX1_bringUp 3 none 2 := ⟨w_543, w_544, w_68, w_545, by decide +kernel⟩
theorem cm_X1_blowUp : CV RX1 yX1_blowUp cX1_blowUp 3 none 2 := ⟨w_555, w_556, w_68, w_557, by decide +kernel⟩
theorem cm_X1_letLoose : CV RX1 yX1_letLoose cX1_letLoose 2 none 1 := ⟨w_551, w_552, w_68, w_553, by decide +kernel⟩
theorem cm_X1_faded : CV RX1 yX1_faded cX1_faded 4 (some .int) 3 := ⟨w_568, w_569, w_68, w_570, by decide +kernel⟩
theorem cm_X1_passHours : CV RX1 yX1_passHours cX1_passHours 4 none 1 := ⟨w_564, w_565, w_68, w_566, by decide +kernel⟩
theorem cm_X1_mainSort : CV RX1 yX1_mainSort cX1_mainSort 4 (some .int) 0 := ⟨w_575, w_576, w_68, w_577, by decide +kernel⟩
theorem cm_X1_fair : CV RX1 yX1_fair cX1_fair 1 (some .int) 0 := ⟨w_589, w_590, w_68, w_591, by decide +kernel⟩
theorem cm_X1_overBay : CV RX1 yX1_overBay cX1_overBay 2 (some .int) 1 := ⟨w_583, w_584, w_68, w_585, by decide +kernel⟩
theorem cm_X1_becomes : CV RX1 yX1_becomes cX1_becomes 2 none 1 := ⟨w_597, w_598, w_68, w_599, by decide +kernel⟩
theorem cm_X5_isSheet : CS yX5_isSheet cX5_isSheet 1 (some .boolean) 1 := ⟨w_620, w_60, w_621, by decide +kernel⟩
theorem cm_X5_refusalOfSheet : CV RX5 yX5_refusalOfSheet cX5_refusalOfSheet 3 (some .int) 2 := ⟨w_617, w_17, w_60, w_618, by decide +kernel⟩
theorem cm_X2_tellsOnly : CV RX2 yX2_tellsOnly cX2_tellsOnly 3 (some .boolean) 1 := ⟨w_623, w_624, w_63, w_625, by decide +kernel⟩
theorem cm_X5_refusalOfRow : CV RX5 yX5_refusalOfRow cX5_refusalOfRow 4 (some .int) 2 := ⟨w_613, w_16, w_60, w_614, by decide +kernel⟩
theorem cm_X1_bringsInRow : CV RX1 yX1_bringsInRow cX1_bringsInRow 6 (some .int) 2 := ⟨w_627, w_628, w_68, w_629, by decide +kernel⟩
theorem cm_X5_fairBehind : CV RX5 yX5_fairBehind cX5_fairBehind 3 (some .int) 2 := ⟨w_643, w_18, w_60, w_644, by decide +kernel⟩
theorem cm_X1_sum : CS yX1_sum cX1_sum 4 (some .int) 2 := ⟨w_651, w_68, w_652, by decide +kernel⟩
theorem cm_X5_mostLeft : CS yX5_mostLeft cX5_mostLeft 7 (some .int) 4 := ⟨w_658, w_60, w_659, by decide +kernel⟩
theorem cm_X5_lowest : CS yX5_lowest cX5_lowest 7 (some .long) 3 := ⟨w_671, w_60, w_672, by decide +kernel⟩
theorem cm_X5_refusalOfHours : CV RX5 yX5_refusalOfHours cX5_refusalOfHours 4 (some .int) 2 := ⟨w_679, w_19, w_60, w_680, by decide +kernel⟩
theorem cm_X1_firstOtherwise : CV RX1 yX1_firstOtherwise cX1_firstOtherwise 5 (some .int) 2 := ⟨w_682, w_683, w_68, w_684, by decide +kernel⟩
theorem cm_J7_fill_53178 : CS yJ7_fill_53178 cJ7_fill_53178 4 none 2 := ⟨w_710, w_74, w_711, by decide +kernel⟩
theorem cm_X2_holds : CV RX2 yX2_holds cX2_holds 3 (some .boolean) 2 := ⟨w_718, w_719, w_63, w_720, by decide +kernel⟩
theorem cm_X2_becomes : CV RX2 yX2_becomes cX2_becomes 3 none 2 := ⟨w_706, w_707, w_63, w_708, by decide +kernel⟩
theorem cm_X2_set : CV RX2 yX2_set cX2_set 3 (some .boolean) 2 := ⟨w_714, w_715, w_63, w_716, by decide +kernel⟩
theorem cm_X5_refusalOfTries : CV RX5 yX5_refusalOfTries cX5_refusalOfTries 5 (some .int) 3 := ⟨w_727, w_20, w_60, w_728, by decide +kernel⟩
theorem cm_X1_isSoOfAll : CV RX1 yX1_isSoOfAll cX1_isSoOfAll 4 (some .boolean) 2 := ⟨w_730, w_731, w_68, w_732, by decide +kernel⟩
theorem cm_X5_nextLot : CS yX5_nextLot cX5_nextLot 2 (some .long) 1 := ⟨w_747, w_60, w_748, by decide +kernel⟩
theorem cm_X5_storm : CV RX5 yX5_storm cX5_storm 6 none 1 := ⟨w_744, w_21, w_60, w_745, by decide +kernel⟩
theorem cm_X5_diver : CV RX5 yX5_diver cX5_diver 3 (some .int) 2 := ⟨w_489, w_490, w_60, w_491, by decide +kernel⟩
theorem cm_X0_isOf : CS yX0_isOf cX0_isOf 4 (some .boolean) 2 := ⟨w_790, w_72, w_791, by decide +kernel⟩
theorem cm_X6_in : CS yX6_in cX6_in 3 (some .boolean) 3 := ⟨w_809, w_69, w_810, by decide +kernel⟩
theorem cm_X6_placed : CV RX6 yX6_placed cX6_placed 4 (some .int) 1 := ⟨w_956, w_31, w_69, w_957, by decide +kernel⟩
theorem cm_X6_onesOf : CS yX6_onesOf cX6_onesOf 3 (some .int) 1 := ⟨w_959, w_69, w_960, by decide +kernel⟩
theorem cm_X6_isCask : CS yX6_isCask cX6_isCask 1 (some .boolean) 1 := ⟨w_966, w_69, w_967, by decide +kernel⟩
theorem cm_X6_isByte : CS yX6_isByte cX6_isByte 1 (some .boolean) 1 := ⟨w_981, w_69, w_982, by decide +kernel⟩
theorem cm_X6_wordFrom : CV RX6 yX6_wordFrom cX6_wordFrom 6 (some .int) 2 := ⟨w_813, w_23, w_69, w_814, by decide +kernel⟩
theorem cm_X6_rank : CS yX6_rank cX6_rank 1 (some .int) 1 := ⟨w_829, w_69, w_830, by decide +kernel⟩
theorem cm_X6_puts : CV RX6 yX6_puts cX6_puts 2 none 1 := ⟨w_822, w_25, w_69, w_823, by decide +kernel⟩
theorem cm_X6_holds : CV RX6 yX6_holds cX6_holds 2 none 1 := ⟨w_837, w_28, w_69, w_838, by decide +kernel⟩
theorem cm_X6_unwinds : CV RX6 yX6_unwinds cX6_unwinds 3 none 1 := ⟨w_826, w_26, w_69, w_827, by decide +kernel⟩
theorem cm_X6_next : CV RX6 yX6_next cX6_next 3 none 0 := ⟨w_806, w_22, w_69, w_807, by decide +kernel⟩
theorem cm_X6_signOf : CV RX6 yX6_signOf cX6_signOf 1 (some .int) 0 := ⟨w_841, w_29, w_69, w_842, by decide +kernel⟩
theorem cm_X6_between : CV RX6 yX6_between cX6_between 2 (some .boolean) 1 := ⟨w_845, w_30, w_69, w_846, by decide +kernel⟩
theorem cm_X6_opensOne : CV RX6 yX6_opensOne cX6_opensOne 2 (some .boolean) 1 := ⟨w_833, w_27, w_69, w_834, by decide +kernel⟩
theorem cm_X6_eRead : CV RX6 yX6_eRead cX6_eRead 4 (some .boolean) 0 := ⟨w_817, w_24, w_69, w_818, by decide +kernel⟩
theorem cm_X6_two : CS yX6_two cX6_two 3 (some .int) 3 := ⟨w_1008, w_69, w_1009, by decide +kernel⟩
theorem cm_X6_says : CV RX6 yX6_says cX6_says 5 (some .int) 1 := ⟨w_1005, w_34, w_69, w_1006, by decide +kernel⟩
theorem cm_X6_within : CS yX6_within cX6_within 3 (some .int) 3 := ⟨w_1011, w_69, w_1012, by decide +kernel⟩
theorem cm_X6_asksOf : CV RX6 yX6_asksOf cX6_asksOf 4 (some .int) 3 := ⟨w_1001, w_33, w_69, w_1002, by decide +kernel⟩
theorem cm_X6_isOne : CV RX6 yX6_isOne cX6_isOne 2 (some .boolean) 1 := ⟨w_997, w_32, w_69, w_998, by decide +kernel⟩
theorem cm_X6_isSky : CS yX6_isSky cX6_isSky 1 (some .boolean) 1 := ⟨w_993, w_69, w_994, by decide +kernel⟩
theorem cm_X6_reachesOf : CV RX6 yX6_reachesOf cX6_reachesOf 5 (some .int) 2 := ⟨w_1035, w_37, w_69, w_1036, by decide +kernel⟩
theorem cm_X6_costsOf : CV RX6 yX6_costsOf cX6_costsOf 4 (some .int) 2 := ⟨w_1039, w_38, w_69, w_1040, by decide +kernel⟩
theorem cm_X6_can : CV RX6 yX6_can cX6_can 3 (some .boolean) 2 := ⟨w_1031, w_36, w_69, w_1032, by decide +kernel⟩
theorem cm_X6_canSet : CV RX6 yX6_canSet cX6_canSet 4 (some .int) 1 := ⟨w_1027, w_35, w_69, w_1028, by decide +kernel⟩
theorem cm_X6_breathesOf : CV RX6 yX6_breathesOf cX6_breathesOf 2 (some .int) 1 := ⟨w_1043, w_39, w_69, w_1044, by decide +kernel⟩
theorem cm_X6_diveOf : CV RX6 yX6_diveOf cX6_diveOf 3 none 2 := ⟨w_1055, w_40, w_69, w_1056, by decide +kernel⟩
theorem cm_X6_opens0 : CV RX6 yX6_opens0 cX6_opens0 3 none 1 := ⟨w_1063, w_41, w_69, w_1064, by decide +kernel⟩
theorem cm_X6_hourOf : CV RX6 yX6_hourOf cX6_hourOf 3 none 0 := ⟨w_1071, w_42, w_69, w_1072, by decide +kernel⟩
theorem cm_X6_main0 : CV RX6 yX6_main0 cX6_main0 4 (some .int) 0 := ⟨w_1075, w_43, w_69, w_1076, by decide +kernel⟩
theorem cm_X6_fair : CV RX6 yX6_fair cX6_fair 1 (some .int) 0 := ⟨w_1087, w_45, w_69, w_1088, by decide +kernel⟩
theorem cm_X6_bayOf : CV RX6 yX6_bayOf cX6_bayOf 2 (some .int) 1 := ⟨w_1083, w_44, w_69, w_1084, by decide +kernel⟩
theorem cm_X6_keeps : CV RX6 yX6_keeps cX6_keeps 2 none 0 := ⟨w_1095, w_46, w_69, w_1096, by decide +kernel⟩
theorem cm_X6_goes : CV RX6 yX6_goes cX6_goes 3 none 1 := ⟨w_1099, w_47, w_69, w_1100, by decide +kernel⟩
theorem cm_X6_lays : CV RX6 yX6_lays cX6_lays 2 none 0 := ⟨w_1103, w_48, w_69, w_1104, by decide +kernel⟩
theorem cm_X6_rowWrong : CV RX6 yX6_rowWrong cX6_rowWrong 4 (some .int) 2 := ⟨w_1115, w_49, w_69, w_1116, by decide +kernel⟩
theorem cm_X6_rowOf : CV RX6 yX6_rowOf cX6_rowOf 6 (some .int) 2 := ⟨w_1119, w_50, w_69, w_1120, by decide +kernel⟩
theorem cm_X6_fairBehind : CV RX6 yX6_fairBehind cX6_fairBehind 3 (some .int) 1 := ⟨w_1131, w_51, w_69, w_1132, by decide +kernel⟩
theorem cm_X6_leftBy : CV RX6 yX6_leftBy cX6_leftBy 9 (some .int) 4 := ⟨w_1143, w_52, w_69, w_1144, by decide +kernel⟩
theorem cm_X6_lowest : CS yX6_lowest cX6_lowest 11 (some .long) 3 := ⟨w_1154, w_69, w_1155, by decide +kernel⟩
theorem cm_X6_sheetWrong : CV RX6 yX6_sheetWrong cX6_sheetWrong 3 (some .int) 2 := ⟨w_1167, w_54, w_69, w_1168, by decide +kernel⟩
theorem cm_X6_toldWrong : CV RX6 yX6_toldWrong cX6_toldWrong 4 (some .int) 2 := ⟨w_1163, w_53, w_69, w_1164, by decide +kernel⟩
theorem cm_X6_unlike : CV RX6 yX6_unlike cX6_unlike 5 (some .int) 2 := ⟨w_1171, w_55, w_69, w_1172, by decide +kernel⟩
theorem cm_X6_divesWrong : CV RX6 yX6_divesWrong cX6_divesWrong 4 (some .int) 2 := ⟨w_1199, w_56, w_69, w_1200, by decide +kernel⟩
theorem cm_X6_divesSo : CV RX6 yX6_divesSo cX6_divesSo 4 (some .boolean) 2 := ⟨w_1203, w_57, w_69, w_1204, by decide +kernel⟩
theorem cm_X6_storms : CV RX6 yX6_storms cX6_storms 6 (some .int) 1 := ⟨w_1216, w_58, w_69, w_1217, by decide +kernel⟩
theorem cm_X6_diver : CV RX6 yX6_diver cX6_diver 3 (some .int) 2 := ⟨w_1014, w_1015, w_69, w_1016, by decide +kernel⟩
theorem cm_X6_isUnder : CS yX6_isUnder cX6_isUnder 2 (some .boolean) 2 := ⟨w_1256, w_69, w_1257, by decide +kernel⟩
theorem cm_X5_count : CV RX5 yX5_count cX5_count 2 (some .int) 1 := ⟨w_391, w_392, w_60, w_393, by decide +kernel⟩
theorem cm_X5_cask : CV RX5 yX5_cask cX5_cask 6 (some .int) 3 := ⟨w_405, w_406, w_60, w_407, by decide +kernel⟩
theorem cm_X5_lies : CV RX5 yX5_lies cX5_lies 3 (some .int) 2 := ⟨w_421, w_422, w_60, w_423, by decide +kernel⟩
theorem cm_X5_sky : CV RX5 yX5_sky cX5_sky 4 (some .int) 2 := ⟨w_425, w_426, w_60, w_427, by decide +kernel⟩
theorem cm_X5_feed : CV RX5 yX5_feed cX5_feed 7 (some .int) 6 := ⟨w_436, w_437, w_60, w_438, by decide +kernel⟩
theorem cm_X5_text : CV RX5 yX5_text cX5_text 2 (some .int) 0 := ⟨w_447, w_448, w_60, w_449, by decide +kernel⟩
theorem cm_X5_force : CV RX5 yX5_force cX5_force 3 (some .int) 1 := ⟨w_451, w_452, w_60, w_453, by decide +kernel⟩
theorem cm_X5_asks : CV RX5 yX5_asks cX5_asks 4 (some .int) 3 := ⟨w_455, w_456, w_60, w_457, by decide +kernel⟩
theorem cm_X5_put : CV RX5 yX5_put cX5_put 4 (some .int) 2 := ⟨w_497, w_498, w_60, w_499, by decide +kernel⟩
theorem cm_X5_told : CV RX5 yX5_told cX5_told 3 (some .int) 2 := ⟨w_501, w_502, w_60, w_503, by decide +kernel⟩
theorem cm_X5_dives : CV RX5 yX5_dives cX5_dives 4 (some .int) 3 := ⟨w_532, w_533, w_60, w_534, by decide +kernel⟩
theorem cm_X5_dive : CV RX5 yX5_dive cX5_dive 3 (some .int) 2 := ⟨w_539, w_540, w_60, w_541, by decide +kernel⟩
theorem cm_X5_open : CV RX5 yX5_open cX5_open 2 (some .int) 1 := ⟨w_547, w_548, w_60, w_549, by decide +kernel⟩
theorem cm_X5_hour : CV RX5 yX5_hour cX5_hour 1 (some .int) 0 := ⟨w_560, w_561, w_60, w_562, by decide +kernel⟩
theorem cm_X5_bay : CV RX5 yX5_bay cX5_bay 2 (some .int) 1 := ⟨w_579, w_580, w_60, w_581, by decide +kernel⟩
theorem cm_X5_run : CV RX5 yX5_run cX5_run 5 (some .int) 2 := ⟨w_593, w_594, w_60, w_595, by decide +kernel⟩
theorem cm_X5_stills : CV RX5 yX5_stills cX5_stills 2 (some .int) 0 := ⟨w_604, w_605, w_60, w_606, by decide +kernel⟩
theorem cm_X5_row : CV RX5 yX5_row cX5_row 6 (some .int) 3 := ⟨w_608, w_609, w_60, w_610, by decide +kernel⟩
theorem cm_X5_salvage : CV RX5 yX5_salvage cX5_salvage 4 (some .int) 2 := ⟨w_634, w_635, w_60, w_636, by decide +kernel⟩
theorem cm_X5_which : CV RX5 yX5_which cX5_which 7 (some .int) 2 := ⟨w_638, w_639, w_60, w_640, by decide +kernel⟩
theorem cm_X5_cargo : CV RX5 yX5_cargo cX5_cargo 8 (some .int) 2 := ⟨w_647, w_648, w_60, w_649, by decide +kernel⟩
theorem cm_X5_last : CV RX5 yX5_last cX5_last 4 (some .int) 3 := ⟨w_654, w_655, w_60, w_656, by decide +kernel⟩
theorem cm_X5_best : CV RX5 yX5_best cX5_best 6 (some .int) 1 := ⟨w_662, w_663, w_60, w_664, by decide +kernel⟩
theorem cm_X5_share : CV RX5 yX5_share cX5_share 5 (some .long) 2 := ⟨w_666, w_667, w_60, w_668, by decide +kernel⟩
theorem cm_X5_judge : CV RX5 yX5_judge cX5_judge 4 (some .int) 2 := ⟨w_674, w_675, w_60, w_676, by decide +kernel⟩
theorem cm_X5_opened : CV RX5 yX5_opened cX5_opened 6 (some .int) 2 := ⟨w_686, w_687, w_60, w_688, by decide +kernel⟩
theorem cm_X5_skies : CV RX5 yX5_skies cX5_skies 8 (some .int) 3 := ⟨w_690, w_691, w_60, w_692, by decide +kernel⟩
theorem cm_X5_whose : CV RX5 yX5_whose cX5_whose 5 (some .int) 1 := ⟨w_694, w_695, w_60, w_696, by decide +kernel⟩
theorem cm_X5_laws : CV RX5 yX5_laws cX5_laws 6 (some .int) 2 := ⟨w_698, w_699, w_60, w_700, by decide +kernel⟩
theorem cm_X5_film : CV RX5 yX5_film cX5_film 6 (some .int) 3 := ⟨w_702, w_703, w_60, w_704, by decide +kernel⟩
theorem cm_X5_kinds : CV RX5 yX5_kinds cX5_kinds 8 (some .int) 3 := ⟨w_722, w_723, w_60, w_724, by decide +kernel⟩
theorem cm_X5_breaths : CV RX5 yX5_breaths cX5_breaths 8 (some .int) 3 := ⟨w_734, w_735, w_60, w_736, by decide +kernel⟩
theorem cm_X5_drawn : CV RX5 yX5_drawn cX5_drawn 3 (some .int) 2 := ⟨w_738, w_739, w_60, w_740, by decide +kernel⟩
theorem cm_X5_odds : CV RX5 yX5_odds cX5_odds 7 (some .long) 4 := ⟨w_755, w_756, w_60, w_757, by decide +kernel⟩
theorem cm_X5_image : CV RX5 yX5_image cX5_image 1 (some .int) 0 := ⟨w_759, w_760, w_60, w_761, by decide +kernel⟩
theorem cm_X5_back : CV RX5 yX5_back cX5_back 1 (some .int) 0 := ⟨w_763, w_764, w_60, w_765, by decide +kernel⟩
theorem cm_X5_sheet : CV RX5 yX5_sheet cX5_sheet 4 (some .int) 3 := ⟨w_767, w_768, w_60, w_769, by decide +kernel⟩
theorem cm_X5_cell : CV RX5 yX5_cell cX5_cell 5 (some .int) 3 := ⟨w_771, w_772, w_60, w_773, by decide +kernel⟩
theorem cm_X5_copy : CV RX5 yX5_copy cX5_copy 8 (some .int) 5 := ⟨w_775, w_776, w_60, w_777, by decide +kernel⟩
theorem cm_X5_diversBy : CV RX5 yX5_diversBy cX5_diversBy 9 (some .int) 4 := ⟨w_781, w_782, w_60, w_783, by decide +kernel⟩
theorem cm_X5_taken : CV RX5 yX5_taken cX5_taken 5 (some .int) 2 := ⟨w_786, w_787, w_60, w_788, by decide +kernel⟩
theorem cm_X6_count : CV RX6 yX6_count cX6_count 2 (some .int) 1 := ⟨w_951, w_952, w_69, w_953, by decide +kernel⟩
theorem cm_X6_cask : CV RX6 yX6_cask cX6_cask 6 (some .int) 3 := ⟨w_962, w_963, w_69, w_964, by decide +kernel⟩
theorem cm_X6_lies : CV RX6 yX6_lies cX6_lies 3 (some .int) 2 := ⟨w_969, w_970, w_69, w_971, by decide +kernel⟩
theorem cm_X6_sky : CV RX6 yX6_sky cX6_sky 4 (some .int) 2 := ⟨w_973, w_974, w_69, w_975, by decide +kernel⟩
theorem cm_X6_feed : CV RX6 yX6_feed cX6_feed 8 (some .int) 6 := ⟨w_977, w_978, w_69, w_979, by decide +kernel⟩
theorem cm_X6_text : CV RX6 yX6_text cX6_text 3 (some .int) 0 := ⟨w_801, w_802, w_69, w_803, by decide +kernel⟩
theorem cm_X6_force : CV RX6 yX6_force cX6_force 3 (some .int) 1 := ⟨w_985, w_986, w_69, w_987, by decide +kernel⟩
theorem cm_X6_asks : CV RX6 yX6_asks cX6_asks 5 (some .int) 3 := ⟨w_989, w_990, w_69, w_991, by decide +kernel⟩
theorem cm_X6_put : CV RX6 yX6_put cX6_put 4 (some .int) 2 := ⟨w_1018, w_1019, w_69, w_1020, by decide +kernel⟩
theorem cm_X6_told : CV RX6 yX6_told cX6_told 3 (some .int) 2 := ⟨w_1022, w_1023, w_69, w_1024, by decide +kernel⟩
theorem cm_X6_dives : CV RX6 yX6_dives cX6_dives 4 (some .int) 3 := ⟨w_1046, w_1047, w_69, w_1048, by decide +kernel⟩
theorem cm_X6_dive : CV RX6 yX6_dive cX6_dive 3 (some .int) 2 := ⟨w_1050, w_1051, w_69, w_1052, by decide +kernel⟩
theorem cm_X6_open : CV RX6 yX6_open cX6_open 2 (some .int) 1 := ⟨w_1058, w_1059, w_69, w_1060, by decide +kernel⟩
theorem cm_X6_hour : CV RX6 yX6_hour cX6_hour 1 (some .int) 0 := ⟨w_1066, w_1067, w_69, w_1068, by decide +kernel⟩
theorem cm_X6_bay : CV RX6 yX6_bay cX6_bay 2 (some .int) 1 := ⟨w_1078, w_1079, w_69, w_1080, by decide +kernel⟩
theorem cm_X6_run : CV RX6 yX6_run cX6_run 4 (some .int) 2 := ⟨w_1090, w_1091, w_69, w_1092, by decide +kernel⟩
theorem cm_X6_stills : CV RX6 yX6_stills cX6_stills 3 (some .int) 0 := ⟨w_1106, w_1107, w_69, w_1108, by decide +kernel⟩
theorem cm_X6_row : CV RX6 yX6_row cX6_row 7 (some .int) 3 := ⟨w_1110, w_1111, w_69, w_1112, by decide +kernel⟩
theorem cm_X6_salvage : CV RX6 yX6_salvage cX6_salvage 4 (some .int) 2 := ⟨w_1122, w_1123, w_69, w_1124, by decide +kernel⟩
theorem cm_X6_which : CV RX6 yX6_which cX6_which 7 (some .int) 2 := ⟨w_1126, w_1127, w_69, w_1128, by decide +kernel⟩
theorem cm_X6_cargo : CV RX6 yX6_cargo cX6_cargo 10 (some .int) 2 := ⟨w_1134, w_1135, w_69, w_1136, by decide +kernel⟩
theorem cm_X6_last : CV RX6 yX6_last cX6_last 8 (some .int) 3 := ⟨w_1138, w_1139, w_69, w_1140, by decide +kernel⟩
theorem cm_X6_best : CV RX6 yX6_best cX6_best 6 (some .int) 1 := ⟨w_1146, w_1147, w_69, w_1148, by decide +kernel⟩
theorem cm_X6_share : CV RX6 yX6_share cX6_share 5 (some .long) 2 := ⟨w_1150, w_1151, w_69, w_1152, by decide +kernel⟩
theorem cm_X6_judge : CV RX6 yX6_judge cX6_judge 4 (some .int) 2 := ⟨w_1158, w_1159, w_69, w_1160, by decide +kernel⟩
theorem cm_X6_opened : CV RX6 yX6_opened cX6_opened 8 (some .int) 2 := ⟨w_1174, w_1175, w_69, w_1176, by decide +kernel⟩
theorem cm_X6_skies : CV RX6 yX6_skies cX6_skies 10 (some .int) 3 := ⟨w_1178, w_1179, w_69, w_1180, by decide +kernel⟩
theorem cm_X6_whose : CV RX6 yX6_whose cX6_whose 5 (some .int) 1 := ⟨w_1182, w_1183, w_69, w_1184, by decide +kernel⟩
theorem cm_X6_laws : CV RX6 yX6_laws cX6_laws 7 (some .int) 2 := ⟨w_1186, w_1187, w_69, w_1188, by decide +kernel⟩
theorem cm_X6_film : CV RX6 yX6_film cX6_film 5 (some .int) 3 := ⟨w_1190, w_1191, w_69, w_1192, by decide +kernel⟩
theorem cm_X6_kinds : CV RX6 yX6_kinds cX6_kinds 9 (some .int) 3 := ⟨w_1194, w_1195, w_69, w_1196, by decide +kernel⟩
theorem cm_X6_breaths : CV RX6 yX6_breaths cX6_breaths 10 (some .int) 3 := ⟨w_1206, w_1207, w_69, w_1208, by decide +kernel⟩
theorem cm_X6_drawn : CV RX6 yX6_drawn cX6_drawn 4 (some .int) 2 := ⟨w_1210, w_1211, w_69, w_1212, by decide +kernel⟩
theorem cm_X6_odds : CV RX6 yX6_odds cX6_odds 8 (some .long) 4 := ⟨w_1223, w_1224, w_69, w_1225, by decide +kernel⟩
theorem cm_X6_image : CV RX6 yX6_image cX6_image 2 (some .int) 0 := ⟨w_1227, w_1228, w_69, w_1229, by decide +kernel⟩
theorem cm_X6_back : CV RX6 yX6_back cX6_back 2 (some .int) 0 := ⟨w_1231, w_1232, w_69, w_1233, by decide +kernel⟩
theorem cm_X6_sheet : CV RX6 yX6_sheet cX6_sheet 5 (some .int) 3 := ⟨w_1235, w_1236, w_69, w_1237, by decide +kernel⟩
theorem cm_X6_cell : CV RX6 yX6_cell cX6_cell 4 (some .int) 3 := ⟨w_1239, w_1240, w_69, w_1241, by decide +kernel⟩
theorem cm_X6_copy : CV RX6 yX6_copy cX6_copy 10 (some .int) 5 := ⟨w_1243, w_1244, w_69, w_1245, by decide +kernel⟩
theorem cm_X6_diversBy : CV RX6 yX6_diversBy cX6_diversBy 9 (some .int) 4 := ⟨w_1247, w_1248, w_69, w_1249, by decide +kernel⟩
theorem cm_X6_taken : CV RX6 yX6_taken cX6_taken 4 (some .int) 2 := ⟨w_1252, w_1253, w_69, w_1254, by decide +kernel⟩
