/-! words of the tables by their places; what calls want of each method -/
theorem w_0 : Cond.selects RX5 yX5_setHour yX5_setHour ∈ TT := TT_of (i := 0) (by decide +kernel) rfl
theorem w_1 : Cond.selects RX5 yX5_isDiver yX5_isDiver ∈ TT := TT_of (i := 1) (by decide +kernel) rfl
theorem w_2 : Cond.selects RX5 yX5_fairBehind yX5_fairBehind ∈ TT := TT_of (i := 2) (by decide +kernel) rfl
theorem w_3 : Cond.selects RX3 yX3_next yX3_next ∈ TT := TT_of (i := 3) (by decide +kernel) rfl
theorem w_4 : Cond.selects RX3 yX3_nextWord yX3_nextWord ∈ TT := TT_of (i := 4) (by decide +kernel) rfl
theorem w_5 : Cond.selects RX3 yX3_spells yX3_spells ∈ TT := TT_of (i := 5) (by decide +kernel) rfl
theorem w_6 : Cond.selects RX3 yX3_nextNumber yX3_nextNumber ∈ TT := TT_of (i := 6) (by decide +kernel) rfl
theorem w_7 : Cond.selects RX3 yX3_readsParts yX3_readsParts ∈ TT := TT_of (i := 7) (by decide +kernel) rfl
theorem w_8 : Cond.selects RX3 yX3_passes yX3_passes ∈ TT := TT_of (i := 8) (by decide +kernel) rfl
theorem w_9 : Cond.selects RX3 yX3_readsOr yX3_readsOr ∈ TT := TT_of (i := 9) (by decide +kernel) rfl
theorem w_10 : Cond.selects RX3 yX3_readsAnd yX3_readsAnd ∈ TT := TT_of (i := 10) (by decide +kernel) rfl
theorem w_11 : Cond.selects RX3 yX3_readsNot yX3_readsNot ∈ TT := TT_of (i := 11) (by decide +kernel) rfl
theorem w_12 : Cond.selects RX3 yX3_readsNotBehindNot yX3_readsNotBehindNot ∈ TT := TT_of (i := 12) (by decide +kernel) rfl
theorem w_13 : Cond.selects RX3 yX3_readsSum yX3_readsSum ∈ TT := TT_of (i := 13) (by decide +kernel) rfl
theorem w_14 : Cond.selects RX3 yX3_readsTerm yX3_readsTerm ∈ TT := TT_of (i := 14) (by decide +kernel) rfl
theorem w_15 : Cond.selects RX3 yX3_readsOne yX3_readsOne ∈ TT := TT_of (i := 15) (by decide +kernel) rfl
theorem w_16 : Cond.selects RX3 yX3_readsOneBehindMinus yX3_readsOneBehindMinus ∈ TT := TT_of (i := 16) (by decide +kernel) rfl
theorem w_17 : Cond.initialized RL ∈ TT := TT_of (i := 17) (by decide +kernel) rfl
theorem w_18 : Cond.initialized RX5 ∈ TT := TT_of (i := 18) (by decide +kernel) rfl
theorem w_19 : Cond.initialized RX3 ∈ TT := TT_of (i := 19) (by decide +kernel) rfl
theorem w_20 : Cond.initialized RX4 ∈ TT := TT_of (i := 20) (by decide +kernel) rfl
theorem w_26 : Cond.initialized RX1 ∈ TT := TT_of (i := 26) (by decide +kernel) rfl
theorem w_34 : Cond.initialized RJ6 ∈ TT := TT_of (i := 34) (by decide +kernel) rfl
theorem w_35 : Cond.initialized RX0 ∈ TT := TT_of (i := 35) (by decide +kernel) rfl
theorem w_36 : Cond.methodLink RL 41 yX5_cask ∈ TT := TT_of (i := 36) (by decide +kernel) rfl
theorem w_37 : Cond.instanceMethod yX5_cask ∈ TT := TT_of (i := 37) (by decide +kernel) rfl
theorem w_38 : Cond.selects RX5 yX5_cask yX5_cask ∈ TT := TT_of (i := 38) (by decide +kernel) rfl
theorem w_39 : Cond.code yX5_cask cX5_cask 6 (some .int) ∈ TT := TT_of (i := 39) (by decide +kernel) rfl
theorem w_40 : Cond.methodLink RX5 98 yX5_isCask ∈ TT := TT_of (i := 40) (by decide +kernel) rfl
theorem w_41 : Cond.static yX5_isCask ∈ TT := TT_of (i := 41) (by decide +kernel) rfl
theorem w_42 : Cond.code yX5_isCask cX5_isCask 1 (some .boolean) ∈ TT := TT_of (i := 42) (by decide +kernel) rfl
theorem w_43 : Cond.methodLink RX5 106 yX5_isWithin ∈ TT := TT_of (i := 43) (by decide +kernel) rfl
theorem w_44 : Cond.static yX5_isWithin ∈ TT := TT_of (i := 44) (by decide +kernel) rfl
theorem w_45 : Cond.code yX5_isWithin cX5_isWithin 2 (some .boolean) ∈ TT := TT_of (i := 45) (by decide +kernel) rfl
theorem w_46 : Cond.fieldLink RX5 102 "SalvageOfDays" "CASK_MOST" "[I" ∈ TT := TT_of (i := 46) (by decide +kernel) rfl
theorem w_48 : Cond.methodLink RX5 110 yX1_caskRow ∈ TT := TT_of (i := 48) (by decide +kernel) rfl
theorem w_49 : Cond.instanceMethod yX1_caskRow ∈ TT := TT_of (i := 49) (by decide +kernel) rfl
theorem w_50 : Cond.selects RX1 yX1_caskRow yX1_caskRow ∈ TT := TT_of (i := 50) (by decide +kernel) rfl
theorem w_51 : Cond.code yX1_caskRow cX1_caskRow 2 (some (.array .int)) ∈ TT := TT_of (i := 51) (by decide +kernel) rfl
theorem w_52 : Cond.methodLink RL 166 yX5_lies ∈ TT := TT_of (i := 52) (by decide +kernel) rfl
theorem w_53 : Cond.instanceMethod yX5_lies ∈ TT := TT_of (i := 53) (by decide +kernel) rfl
theorem w_54 : Cond.selects RX5 yX5_lies yX5_lies ∈ TT := TT_of (i := 54) (by decide +kernel) rfl
theorem w_55 : Cond.code yX5_lies cX5_lies 3 (some .int) ∈ TT := TT_of (i := 55) (by decide +kernel) rfl
theorem w_56 : Cond.methodLink RL 30 yX5_sky ∈ TT := TT_of (i := 56) (by decide +kernel) rfl
theorem w_57 : Cond.instanceMethod yX5_sky ∈ TT := TT_of (i := 57) (by decide +kernel) rfl
theorem w_58 : Cond.selects RX5 yX5_sky yX5_sky ∈ TT := TT_of (i := 58) (by decide +kernel) rfl
theorem w_59 : Cond.code yX5_sky cX5_sky 4 (some .int) ∈ TT := TT_of (i := 59) (by decide +kernel) rfl
theorem w_60 : Cond.methodLink RX5 114 yX5_setHour ∈ TT := TT_of (i := 60) (by decide +kernel) rfl
theorem w_62 : Cond.instanceMethod yX5_setHour ∈ TT := TT_of (i := 62) (by decide +kernel) rfl
theorem w_64 : Cond.code yX5_setHour cX5_setHour 3 (some .int) ∈ TT := TT_of (i := 64) (by decide +kernel) rfl
theorem w_65 : Cond.methodLink RX5 117 yX5_isSort ∈ TT := TT_of (i := 65) (by decide +kernel) rfl
theorem w_66 : Cond.static yX5_isSort ∈ TT := TT_of (i := 66) (by decide +kernel) rfl
theorem w_67 : Cond.code yX5_isSort cX5_isSort 1 (some .boolean) ∈ TT := TT_of (i := 67) (by decide +kernel) rfl
theorem w_68 : Cond.methodLink RL 226 yX5_put ∈ TT := TT_of (i := 68) (by decide +kernel) rfl
theorem w_69 : Cond.instanceMethod yX5_put ∈ TT := TT_of (i := 69) (by decide +kernel) rfl
theorem w_70 : Cond.selects RX5 yX5_put yX5_put ∈ TT := TT_of (i := 70) (by decide +kernel) rfl
theorem w_71 : Cond.code yX5_put cX5_put 4 (some .int) ∈ TT := TT_of (i := 71) (by decide +kernel) rfl
theorem w_72 : Cond.methodLink RX5 134 yX5_isDiver ∈ TT := TT_of (i := 72) (by decide +kernel) rfl
theorem w_74 : Cond.instanceMethod yX5_isDiver ∈ TT := TT_of (i := 74) (by decide +kernel) rfl
theorem w_75 : Cond.code yX5_isDiver cX5_isDiver 2 (some .boolean) ∈ TT := TT_of (i := 75) (by decide +kernel) rfl
theorem w_76 : Cond.methodLink RL 154 yX5_told ∈ TT := TT_of (i := 76) (by decide +kernel) rfl
theorem w_77 : Cond.instanceMethod yX5_told ∈ TT := TT_of (i := 77) (by decide +kernel) rfl
theorem w_78 : Cond.selects RX5 yX5_told yX5_told ∈ TT := TT_of (i := 78) (by decide +kernel) rfl
theorem w_79 : Cond.code yX5_told cX5_told 3 (some .int) ∈ TT := TT_of (i := 79) (by decide +kernel) rfl
theorem w_80 : Cond.methodLink RX5 159 yX1_casksFor ∈ TT := TT_of (i := 80) (by decide +kernel) rfl
theorem w_81 : Cond.instanceMethod yX1_casksFor ∈ TT := TT_of (i := 81) (by decide +kernel) rfl
theorem w_82 : Cond.selects RX1 yX1_casksFor yX1_casksFor ∈ TT := TT_of (i := 82) (by decide +kernel) rfl
theorem w_83 : Cond.code yX1_casksFor cX1_casksFor 4 (some .int) ∈ TT := TT_of (i := 83) (by decide +kernel) rfl
theorem w_84 : Cond.methodLink RX1 83 yX1_can ∈ TT := TT_of (i := 84) (by decide +kernel) rfl
theorem w_85 : Cond.instanceMethod yX1_can ∈ TT := TT_of (i := 85) (by decide +kernel) rfl
theorem w_86 : Cond.selects RX1 yX1_can yX1_can ∈ TT := TT_of (i := 86) (by decide +kernel) rfl
theorem w_87 : Cond.code yX1_can cX1_can 3 (some .boolean) ∈ TT := TT_of (i := 87) (by decide +kernel) rfl
theorem w_88 : Cond.methodLink RX1 79 yX1_reach ∈ TT := TT_of (i := 88) (by decide +kernel) rfl
theorem w_89 : Cond.instanceMethod yX1_reach ∈ TT := TT_of (i := 89) (by decide +kernel) rfl
theorem w_90 : Cond.selects RX1 yX1_reach yX1_reach ∈ TT := TT_of (i := 90) (by decide +kernel) rfl
theorem w_91 : Cond.code yX1_reach cX1_reach 3 (some .int) ∈ TT := TT_of (i := 91) (by decide +kernel) rfl
theorem w_92 : Cond.methodLink RX1 62 yX1_saidReach ∈ TT := TT_of (i := 92) (by decide +kernel) rfl
theorem w_93 : Cond.instanceMethod yX1_saidReach ∈ TT := TT_of (i := 93) (by decide +kernel) rfl
theorem w_94 : Cond.selects RX1 yX1_saidReach yX1_saidReach ∈ TT := TT_of (i := 94) (by decide +kernel) rfl
theorem w_95 : Cond.code yX1_saidReach cX1_saidReach 3 (some .int) ∈ TT := TT_of (i := 95) (by decide +kernel) rfl
theorem w_96 : Cond.methodLink RX1 58 yX4_says ∈ TT := TT_of (i := 96) (by decide +kernel) rfl
theorem w_97 : Cond.instanceMethod yX4_says ∈ TT := TT_of (i := 97) (by decide +kernel) rfl
theorem w_98 : Cond.selects RX4 yX4_says yX4_says ∈ TT := TT_of (i := 98) (by decide +kernel) rfl
theorem w_99 : Cond.code yX4_says cX4_says 11 (some .int) ∈ TT := TT_of (i := 99) (by decide +kernel) rfl
theorem w_100 : Cond.methodLink RX4 33 yX3_isName ∈ TT := TT_of (i := 100) (by decide +kernel) rfl
theorem w_101 : Cond.static yX3_isName ∈ TT := TT_of (i := 101) (by decide +kernel) rfl
theorem w_102 : Cond.code yX3_isName cX3_isName 1 (some .boolean) ∈ TT := TT_of (i := 102) (by decide +kernel) rfl
theorem w_103 : Cond.methodLink RX4 37 yX4_joined ∈ TT := TT_of (i := 103) (by decide +kernel) rfl
theorem w_104 : Cond.static yX4_joined ∈ TT := TT_of (i := 104) (by decide +kernel) rfl
theorem w_105 : Cond.code yX4_joined cX4_joined 3 (some .int) ∈ TT := TT_of (i := 105) (by decide +kernel) rfl
theorem w_106 : Cond.methodLink RX4 41 Lib.Math.min.name ∈ TT := TT_of (i := 106) (by decide +kernel) rfl
theorem w_109 : Cond.methodLink RX4 47 Lib.Math.max.name ∈ TT := TT_of (i := 109) (by decide +kernel) rfl
theorem w_112 : Cond.methodLink RX1 66 yX0_reach ∈ TT := TT_of (i := 112) (by decide +kernel) rfl
theorem w_113 : Cond.static yX0_reach ∈ TT := TT_of (i := 113) (by decide +kernel) rfl
theorem w_114 : Cond.code yX0_reach cX0_reach 3 (some .int) ∈ TT := TT_of (i := 114) (by decide +kernel) rfl
theorem w_115 : Cond.methodLink RX1 81 yX1_cost ∈ TT := TT_of (i := 115) (by decide +kernel) rfl
theorem w_116 : Cond.instanceMethod yX1_cost ∈ TT := TT_of (i := 116) (by decide +kernel) rfl
theorem w_117 : Cond.selects RX1 yX1_cost yX1_cost ∈ TT := TT_of (i := 117) (by decide +kernel) rfl
theorem w_118 : Cond.code yX1_cost cX1_cost 3 (some .int) ∈ TT := TT_of (i := 118) (by decide +kernel) rfl
theorem w_119 : Cond.methodLink RX1 72 yX1_saidCost ∈ TT := TT_of (i := 119) (by decide +kernel) rfl
theorem w_120 : Cond.instanceMethod yX1_saidCost ∈ TT := TT_of (i := 120) (by decide +kernel) rfl
theorem w_121 : Cond.selects RX1 yX1_saidCost yX1_saidCost ∈ TT := TT_of (i := 121) (by decide +kernel) rfl
theorem w_122 : Cond.code yX1_saidCost cX1_saidCost 3 (some .int) ∈ TT := TT_of (i := 122) (by decide +kernel) rfl
theorem w_123 : Cond.methodLink RX1 75 yX0_cost ∈ TT := TT_of (i := 123) (by decide +kernel) rfl
theorem w_124 : Cond.static yX0_cost ∈ TT := TT_of (i := 124) (by decide +kernel) rfl
theorem w_125 : Cond.code yX0_cost cX0_cost 5 (some .int) ∈ TT := TT_of (i := 125) (by decide +kernel) rfl
theorem w_126 : Cond.methodLink RX5 162 yX0_breathing ∈ TT := TT_of (i := 126) (by decide +kernel) rfl
theorem w_127 : Cond.static yX0_breathing ∈ TT := TT_of (i := 127) (by decide +kernel) rfl
theorem w_128 : Cond.code yX0_breathing cX0_breathing 2 (some .int) ∈ TT := TT_of (i := 128) (by decide +kernel) rfl
theorem w_129 : Cond.methodLink RL 163 yX5_dives ∈ TT := TT_of (i := 129) (by decide +kernel) rfl
theorem w_130 : Cond.instanceMethod yX5_dives ∈ TT := TT_of (i := 130) (by decide +kernel) rfl
theorem w_131 : Cond.selects RX5 yX5_dives yX5_dives ∈ TT := TT_of (i := 131) (by decide +kernel) rfl
theorem w_132 : Cond.code yX5_dives cX5_dives 4 (some .int) ∈ TT := TT_of (i := 132) (by decide +kernel) rfl
theorem w_133 : Cond.methodLink RX5 167 yX1_reach ∈ TT := TT_of (i := 133) (by decide +kernel) rfl
theorem w_134 : Cond.methodLink RX5 170 yX1_cost ∈ TT := TT_of (i := 134) (by decide +kernel) rfl
theorem w_135 : Cond.methodLink RX5 173 yX1_can ∈ TT := TT_of (i := 135) (by decide +kernel) rfl
theorem w_136 : Cond.methodLink RL 211 yX5_dive ∈ TT := TT_of (i := 136) (by decide +kernel) rfl
theorem w_137 : Cond.instanceMethod yX5_dive ∈ TT := TT_of (i := 137) (by decide +kernel) rfl
theorem w_138 : Cond.selects RX5 yX5_dive yX5_dive ∈ TT := TT_of (i := 138) (by decide +kernel) rfl
theorem w_139 : Cond.code yX5_dive cX5_dive 3 (some .int) ∈ TT := TT_of (i := 139) (by decide +kernel) rfl
theorem w_140 : Cond.methodLink RX5 176 yX1_bringUp ∈ TT := TT_of (i := 140) (by decide +kernel) rfl
theorem w_141 : Cond.instanceMethod yX1_bringUp ∈ TT := TT_of (i := 141) (by decide +kernel) rfl
theorem w_142 : Cond.selects RX1 yX1_bringUp yX1_bringUp ∈ TT := TT_of (i := 142) (by decide +kernel) rfl
theorem w_143 : Cond.code yX1_bringUp cX1_bringUp 3 none ∈ TT := TT_of (i := 143) (by decide +kernel) rfl
theorem w_144 : Cond.methodLink RL 218 yX5_open ∈ TT := TT_of (i := 144) (by decide +kernel) rfl
theorem w_145 : Cond.instanceMethod yX5_open ∈ TT := TT_of (i := 145) (by decide +kernel) rfl
theorem w_146 : Cond.selects RX5 yX5_open yX5_open ∈ TT := TT_of (i := 146) (by decide +kernel) rfl
theorem w_147 : Cond.code yX5_open cX5_open 2 (some .int) ∈ TT := TT_of (i := 147) (by decide +kernel) rfl
theorem w_148 : Cond.methodLink RX5 183 yX1_letLoose ∈ TT := TT_of (i := 148) (by decide +kernel) rfl
theorem w_149 : Cond.instanceMethod yX1_letLoose ∈ TT := TT_of (i := 149) (by decide +kernel) rfl
theorem w_150 : Cond.selects RX1 yX1_letLoose yX1_letLoose ∈ TT := TT_of (i := 150) (by decide +kernel) rfl
theorem w_151 : Cond.code yX1_letLoose cX1_letLoose 2 none ∈ TT := TT_of (i := 151) (by decide +kernel) rfl
theorem w_152 : Cond.methodLink RX1 107 yX1_blowUp ∈ TT := TT_of (i := 152) (by decide +kernel) rfl
theorem w_153 : Cond.instanceMethod yX1_blowUp ∈ TT := TT_of (i := 153) (by decide +kernel) rfl
theorem w_154 : Cond.selects RX1 yX1_blowUp yX1_blowUp ∈ TT := TT_of (i := 154) (by decide +kernel) rfl
theorem w_155 : Cond.code yX1_blowUp cX1_blowUp 3 none ∈ TT := TT_of (i := 155) (by decide +kernel) rfl
theorem w_156 : Cond.methodLink RX1 110 Lib.Math.min.name ∈ TT := TT_of (i := 156) (by decide +kernel) rfl
theorem w_157 : Cond.methodLink RL 224 yX5_hour ∈ TT := TT_of (i := 157) (by decide +kernel) rfl
theorem w_158 : Cond.instanceMethod yX5_hour ∈ TT := TT_of (i := 158) (by decide +kernel) rfl
theorem w_159 : Cond.selects RX5 yX5_hour yX5_hour ∈ TT := TT_of (i := 159) (by decide +kernel) rfl
theorem w_160 : Cond.code yX5_hour cX5_hour 1 (some .int) ∈ TT := TT_of (i := 160) (by decide +kernel) rfl
theorem w_161 : Cond.methodLink RX5 189 yX1_passHours ∈ TT := TT_of (i := 161) (by decide +kernel) rfl
theorem w_162 : Cond.instanceMethod yX1_passHours ∈ TT := TT_of (i := 162) (by decide +kernel) rfl
theorem w_163 : Cond.selects RX1 yX1_passHours yX1_passHours ∈ TT := TT_of (i := 163) (by decide +kernel) rfl
theorem w_164 : Cond.code yX1_passHours cX1_passHours 4 none ∈ TT := TT_of (i := 164) (by decide +kernel) rfl
theorem w_165 : Cond.methodLink RX1 121 yX1_faded ∈ TT := TT_of (i := 165) (by decide +kernel) rfl
theorem w_166 : Cond.instanceMethod yX1_faded ∈ TT := TT_of (i := 166) (by decide +kernel) rfl
theorem w_167 : Cond.selects RX1 yX1_faded yX1_faded ∈ TT := TT_of (i := 167) (by decide +kernel) rfl
theorem w_168 : Cond.code yX1_faded cX1_faded 4 (some .int) ∈ TT := TT_of (i := 168) (by decide +kernel) rfl
theorem w_169 : Cond.methodLink RX1 115 yX1_fading ∈ TT := TT_of (i := 169) (by decide +kernel) rfl
theorem w_170 : Cond.instanceMethod yX1_fading ∈ TT := TT_of (i := 170) (by decide +kernel) rfl
theorem w_171 : Cond.selects RX1 yX1_fading yX1_fading ∈ TT := TT_of (i := 171) (by decide +kernel) rfl
theorem w_172 : Cond.code yX1_fading cX1_fading 4 (some .int) ∈ TT := TT_of (i := 172) (by decide +kernel) rfl
theorem w_173 : Cond.methodLink RX1 118 Lib.Math.max.name ∈ TT := TT_of (i := 173) (by decide +kernel) rfl
theorem w_174 : Cond.methodLink RX1 124 yX0_breathing ∈ TT := TT_of (i := 174) (by decide +kernel) rfl
theorem w_175 : Cond.methodLink RX5 192 yX1_mainSort ∈ TT := TT_of (i := 175) (by decide +kernel) rfl
theorem w_176 : Cond.instanceMethod yX1_mainSort ∈ TT := TT_of (i := 176) (by decide +kernel) rfl
theorem w_177 : Cond.selects RX1 yX1_mainSort yX1_mainSort ∈ TT := TT_of (i := 177) (by decide +kernel) rfl
theorem w_178 : Cond.code yX1_mainSort cX1_mainSort 4 (some .int) ∈ TT := TT_of (i := 178) (by decide +kernel) rfl
theorem w_179 : Cond.methodLink RL 169 yX5_bay ∈ TT := TT_of (i := 179) (by decide +kernel) rfl
theorem w_180 : Cond.instanceMethod yX5_bay ∈ TT := TT_of (i := 180) (by decide +kernel) rfl
theorem w_181 : Cond.selects RX5 yX5_bay yX5_bay ∈ TT := TT_of (i := 181) (by decide +kernel) rfl
theorem w_182 : Cond.code yX5_bay cX5_bay 2 (some .int) ∈ TT := TT_of (i := 182) (by decide +kernel) rfl
theorem w_183 : Cond.methodLink RX5 195 yX1_overBay ∈ TT := TT_of (i := 183) (by decide +kernel) rfl
theorem w_184 : Cond.instanceMethod yX1_overBay ∈ TT := TT_of (i := 184) (by decide +kernel) rfl
theorem w_185 : Cond.selects RX1 yX1_overBay yX1_overBay ∈ TT := TT_of (i := 185) (by decide +kernel) rfl
theorem w_186 : Cond.code yX1_overBay cX1_overBay 2 (some .int) ∈ TT := TT_of (i := 186) (by decide +kernel) rfl
theorem w_187 : Cond.methodLink RX1 127 yX1_mainSort ∈ TT := TT_of (i := 187) (by decide +kernel) rfl
theorem w_189 : Cond.methodLink RX1 134 yX1_fair ∈ TT := TT_of (i := 189) (by decide +kernel) rfl
theorem w_190 : Cond.instanceMethod yX1_fair ∈ TT := TT_of (i := 190) (by decide +kernel) rfl
theorem w_191 : Cond.selects RX1 yX1_fair yX1_fair ∈ TT := TT_of (i := 191) (by decide +kernel) rfl
theorem w_192 : Cond.code yX1_fair cX1_fair 1 (some .int) ∈ TT := TT_of (i := 192) (by decide +kernel) rfl
theorem w_193 : Cond.methodLink RL 190 yX5_run ∈ TT := TT_of (i := 193) (by decide +kernel) rfl
theorem w_194 : Cond.instanceMethod yX5_run ∈ TT := TT_of (i := 194) (by decide +kernel) rfl
theorem w_195 : Cond.selects RX5 yX5_run yX5_run ∈ TT := TT_of (i := 195) (by decide +kernel) rfl
theorem w_196 : Cond.code yX5_run cX5_run 5 (some .int) ∈ TT := TT_of (i := 196) (by decide +kernel) rfl
theorem w_197 : Cond.methodLink RX5 198 yX1_becomes ∈ TT := TT_of (i := 197) (by decide +kernel) rfl
theorem w_198 : Cond.instanceMethod yX1_becomes ∈ TT := TT_of (i := 198) (by decide +kernel) rfl
theorem w_199 : Cond.selects RX1 yX1_becomes yX1_becomes ∈ TT := TT_of (i := 199) (by decide +kernel) rfl
theorem w_200 : Cond.code yX1_becomes cX1_becomes 2 none ∈ TT := TT_of (i := 200) (by decide +kernel) rfl
theorem w_201 : Cond.methodLink RX1 43 arraycopyName ∈ TT := TT_of (i := 201) (by decide +kernel) rfl
theorem w_204 : Cond.methodLink RL 187 yX5_which ∈ TT := TT_of (i := 204) (by decide +kernel) rfl
theorem w_205 : Cond.instanceMethod yX5_which ∈ TT := TT_of (i := 205) (by decide +kernel) rfl
theorem w_206 : Cond.selects RX5 yX5_which yX5_which ∈ TT := TT_of (i := 206) (by decide +kernel) rfl
theorem w_207 : Cond.code yX5_which cX5_which 7 (some .int) ∈ TT := TT_of (i := 207) (by decide +kernel) rfl
theorem w_208 : Cond.methodLink RX5 216 yX5_fairBehind ∈ TT := TT_of (i := 208) (by decide +kernel) rfl
theorem w_210 : Cond.instanceMethod yX5_fairBehind ∈ TT := TT_of (i := 210) (by decide +kernel) rfl
theorem w_211 : Cond.code yX5_fairBehind cX5_fairBehind 3 (some .int) ∈ TT := TT_of (i := 211) (by decide +kernel) rfl
theorem w_212 : Cond.methodLink RX5 219 yX1_fair ∈ TT := TT_of (i := 212) (by decide +kernel) rfl
theorem w_213 : Cond.methodLink RL 193 yX5_cargo ∈ TT := TT_of (i := 213) (by decide +kernel) rfl
theorem w_214 : Cond.instanceMethod yX5_cargo ∈ TT := TT_of (i := 214) (by decide +kernel) rfl
theorem w_215 : Cond.selects RX5 yX5_cargo yX5_cargo ∈ TT := TT_of (i := 215) (by decide +kernel) rfl
theorem w_216 : Cond.code yX5_cargo cX5_cargo 8 (some .int) ∈ TT := TT_of (i := 216) (by decide +kernel) rfl
theorem w_217 : Cond.methodLink RX5 76 yX1_casksAt ∈ TT := TT_of (i := 217) (by decide +kernel) rfl
theorem w_218 : Cond.instanceMethod yX1_casksAt ∈ TT := TT_of (i := 218) (by decide +kernel) rfl
theorem w_219 : Cond.selects RX1 yX1_casksAt yX1_casksAt ∈ TT := TT_of (i := 219) (by decide +kernel) rfl
theorem w_220 : Cond.code yX1_casksAt cX1_casksAt 4 (some .int) ∈ TT := TT_of (i := 220) (by decide +kernel) rfl
theorem w_221 : Cond.methodLink RX5 225 yX1_sum ∈ TT := TT_of (i := 221) (by decide +kernel) rfl
theorem w_222 : Cond.static yX1_sum ∈ TT := TT_of (i := 222) (by decide +kernel) rfl
theorem w_223 : Cond.code yX1_sum cX1_sum 4 (some .int) ∈ TT := TT_of (i := 223) (by decide +kernel) rfl
theorem w_224 : Cond.methodLink RL 196 yX5_last ∈ TT := TT_of (i := 224) (by decide +kernel) rfl
theorem w_225 : Cond.instanceMethod yX5_last ∈ TT := TT_of (i := 225) (by decide +kernel) rfl
theorem w_226 : Cond.selects RX5 yX5_last yX5_last ∈ TT := TT_of (i := 226) (by decide +kernel) rfl
theorem w_227 : Cond.code yX5_last cX5_last 4 (some .int) ∈ TT := TT_of (i := 227) (by decide +kernel) rfl
theorem w_228 : Cond.methodLink RX5 232 yX5_mostLeft ∈ TT := TT_of (i := 228) (by decide +kernel) rfl
theorem w_229 : Cond.static yX5_mostLeft ∈ TT := TT_of (i := 229) (by decide +kernel) rfl
theorem w_230 : Cond.code yX5_mostLeft cX5_mostLeft 7 (some .int) ∈ TT := TT_of (i := 230) (by decide +kernel) rfl
theorem w_231 : Cond.methodLink RX5 236 Lib.Math.max.name ∈ TT := TT_of (i := 231) (by decide +kernel) rfl
theorem w_232 : Cond.methodLink RL 199 yX5_best ∈ TT := TT_of (i := 232) (by decide +kernel) rfl
theorem w_233 : Cond.instanceMethod yX5_best ∈ TT := TT_of (i := 233) (by decide +kernel) rfl
theorem w_234 : Cond.selects RX5 yX5_best yX5_best ∈ TT := TT_of (i := 234) (by decide +kernel) rfl
theorem w_235 : Cond.code yX5_best cX5_best 6 (some .int) ∈ TT := TT_of (i := 235) (by decide +kernel) rfl
theorem w_236 : Cond.methodLink RX5 80 yJ6_bitCount_0f7a4 ∈ TT := TT_of (i := 236) (by decide +kernel) rfl
theorem w_237 : Cond.static yJ6_bitCount_0f7a4 ∈ TT := TT_of (i := 237) (by decide +kernel) rfl
theorem w_238 : Cond.code yJ6_bitCount_0f7a4 cJ6_bitCount_0f7a4 1 (some .int) ∈ TT := TT_of (i := 238) (by decide +kernel) rfl
theorem w_239 : Cond.constant RJ6 265 (1431655765 : Int32) ∈ TT := TT_of (i := 239) (by decide +kernel) rfl
theorem w_240 : Cond.constant RJ6 266 (858993459 : Int32) ∈ TT := TT_of (i := 240) (by decide +kernel) rfl
theorem w_241 : Cond.constant RJ6 267 (252645135 : Int32) ∈ TT := TT_of (i := 241) (by decide +kernel) rfl
theorem w_242 : Cond.methodLink RL 72 yL_at ∈ TT := TT_of (i := 242) (by decide +kernel) rfl
theorem w_243 : Cond.static yL_at ∈ TT := TT_of (i := 243) (by decide +kernel) rfl
theorem w_244 : Cond.code yL_at cL_at 2 (some .int) ∈ TT := TT_of (i := 244) (by decide +kernel) rfl
theorem w_261 : Cond.fieldLink RX3 11 (TX3 0).1 (TX3 0).2.1 (TX3 0).2.2.1 ∈ TT := TT_of (i := 261) (by decide +kernel) rfl
theorem w_262 : Cond.fieldLink RX3 15 (TX3 1).1 (TX3 1).2.1 (TX3 1).2.2.1 ∈ TT := TT_of (i := 262) (by decide +kernel) rfl
theorem w_263 : Cond.fieldLink RX5 95 (TX3 1).1 (TX3 1).2.1 (TX3 1).2.2.1 ∈ TT := TT_of (i := 263) (by decide +kernel) rfl
theorem w_264 : Cond.fieldLink RX3 28 (TX3 2).1 (TX3 2).2.1 (TX3 2).2.2.1 ∈ TT := TT_of (i := 264) (by decide +kernel) rfl
theorem w_265 : Cond.fieldLink RX3 38 (TX3 3).1 (TX3 3).2.1 (TX3 3).2.2.1 ∈ TT := TT_of (i := 265) (by decide +kernel) rfl
theorem w_266 : Cond.fieldLink RX3 52 (TX3 4).1 (TX3 4).2.1 (TX3 4).2.2.1 ∈ TT := TT_of (i := 266) (by decide +kernel) rfl
theorem w_267 : Cond.fieldLink RX3 79 (TX3 5).1 (TX3 5).2.1 (TX3 5).2.2.1 ∈ TT := TT_of (i := 267) (by decide +kernel) rfl
theorem w_268 : Cond.fieldLink RX3 19 (TX3 6).1 (TX3 6).2.1 (TX3 6).2.2.1 ∈ TT := TT_of (i := 268) (by decide +kernel) rfl
theorem w_295 : Cond.fieldLink RX5 92 (TX4 0).1 (TX4 0).2.1 (TX4 0).2.2.1 ∈ TT := TT_of (i := 295) (by decide +kernel) rfl
theorem w_296 : Cond.fieldLink RX4 11 (TX4 1).1 (TX4 1).2.1 (TX4 1).2.2.1 ∈ TT := TT_of (i := 296) (by decide +kernel) rfl
theorem w_297 : Cond.fieldLink RX4 30 (TX4 2).1 (TX4 2).2.1 (TX4 2).2.2.1 ∈ TT := TT_of (i := 297) (by decide +kernel) rfl
theorem w_298 : Cond.fieldLink RX4 17 (TX4 3).1 (TX4 3).2.1 (TX4 3).2.2.1 ∈ TT := TT_of (i := 298) (by decide +kernel) rfl
theorem w_299 : Cond.fieldLink RX4 20 (TX4 4).1 (TX4 4).2.1 (TX4 4).2.2.1 ∈ TT := TT_of (i := 299) (by decide +kernel) rfl
theorem w_300 : Cond.fieldLink RX4 23 (TX4 5).1 (TX4 5).2.1 (TX4 5).2.2.1 ∈ TT := TT_of (i := 300) (by decide +kernel) rfl
theorem w_377 : Cond.methodLink RX5 44 yX3_add ∈ TT := TT_of (i := 377) (by decide +kernel) rfl
theorem w_378 : Cond.instanceMethod yX3_add ∈ TT := TT_of (i := 378) (by decide +kernel) rfl
theorem w_379 : Cond.selects RX3 yX3_add yX3_add ∈ TT := TT_of (i := 379) (by decide +kernel) rfl
theorem w_380 : Cond.code yX3_add cX3_add 2 none ∈ TT := TT_of (i := 380) (by decide +kernel) rfl
theorem w_381 : Cond.methodLink RX5 47 yX3_readInto ∈ TT := TT_of (i := 381) (by decide +kernel) rfl
theorem w_382 : Cond.instanceMethod yX3_readInto ∈ TT := TT_of (i := 382) (by decide +kernel) rfl
theorem w_383 : Cond.selects RX3 yX3_readInto yX3_readInto ∈ TT := TT_of (i := 383) (by decide +kernel) rfl
theorem w_384 : Cond.code yX3_readInto cX3_readInto 2 (some .int) ∈ TT := TT_of (i := 384) (by decide +kernel) rfl
theorem w_385 : Cond.methodLink RX3 23 yX4_clear ∈ TT := TT_of (i := 385) (by decide +kernel) rfl
theorem w_386 : Cond.instanceMethod yX4_clear ∈ TT := TT_of (i := 386) (by decide +kernel) rfl
theorem w_387 : Cond.selects RX4 yX4_clear yX4_clear ∈ TT := TT_of (i := 387) (by decide +kernel) rfl
theorem w_388 : Cond.code yX4_clear cX4_clear 1 none ∈ TT := TT_of (i := 388) (by decide +kernel) rfl
theorem w_389 : Cond.methodLink RX3 31 yX3_next ∈ TT := TT_of (i := 389) (by decide +kernel) rfl
theorem w_391 : Cond.instanceMethod yX3_next ∈ TT := TT_of (i := 391) (by decide +kernel) rfl
theorem w_392 : Cond.code yX3_next cX3_next 1 none ∈ TT := TT_of (i := 392) (by decide +kernel) rfl
theorem w_393 : Cond.methodLink RX3 85 yX3_isBlank ∈ TT := TT_of (i := 393) (by decide +kernel) rfl
theorem w_394 : Cond.static yX3_isBlank ∈ TT := TT_of (i := 394) (by decide +kernel) rfl
theorem w_395 : Cond.code yX3_isBlank cX3_isBlank 1 (some .boolean) ∈ TT := TT_of (i := 395) (by decide +kernel) rfl
theorem w_396 : Cond.methodLink RX3 88 yX3_isLetter ∈ TT := TT_of (i := 396) (by decide +kernel) rfl
theorem w_397 : Cond.static yX3_isLetter ∈ TT := TT_of (i := 397) (by decide +kernel) rfl
theorem w_398 : Cond.code yX3_isLetter cX3_isLetter 1 (some .boolean) ∈ TT := TT_of (i := 398) (by decide +kernel) rfl
theorem w_399 : Cond.methodLink RX3 91 yX3_nextWord ∈ TT := TT_of (i := 399) (by decide +kernel) rfl
theorem w_401 : Cond.instanceMethod yX3_nextWord ∈ TT := TT_of (i := 401) (by decide +kernel) rfl
theorem w_402 : Cond.code yX3_nextWord cX3_nextWord 4 none ∈ TT := TT_of (i := 402) (by decide +kernel) rfl
theorem w_404 : Cond.methodLink RX3 105 yJ0_length_8abf5 ∈ TT := TT_of (i := 404) (by decide +kernel) rfl
theorem w_405 : Cond.methodLink RX3 111 yJ0_charAt_5068e ∈ TT := TT_of (i := 405) (by decide +kernel) rfl
theorem w_406 : Cond.methodLink RX3 115 yX3_spells ∈ TT := TT_of (i := 406) (by decide +kernel) rfl
theorem w_408 : Cond.instanceMethod yX3_spells ∈ TT := TT_of (i := 408) (by decide +kernel) rfl
theorem w_409 : Cond.code yX3_spells cX3_spells 4 (some .boolean) ∈ TT := TT_of (i := 409) (by decide +kernel) rfl
theorem w_410 : Cond.methodLink RX3 94 yX3_isDigit ∈ TT := TT_of (i := 410) (by decide +kernel) rfl
theorem w_411 : Cond.static yX3_isDigit ∈ TT := TT_of (i := 411) (by decide +kernel) rfl
theorem w_412 : Cond.code yX3_isDigit cX3_isDigit 1 (some .boolean) ∈ TT := TT_of (i := 412) (by decide +kernel) rfl
theorem w_413 : Cond.methodLink RX3 97 yX3_nextNumber ∈ TT := TT_of (i := 413) (by decide +kernel) rfl
theorem w_415 : Cond.instanceMethod yX3_nextNumber ∈ TT := TT_of (i := 415) (by decide +kernel) rfl
theorem w_416 : Cond.code yX3_nextNumber cX3_nextNumber 1 none ∈ TT := TT_of (i := 416) (by decide +kernel) rfl
theorem w_417 : Cond.methodLink RX3 100 yX3_isSign ∈ TT := TT_of (i := 417) (by decide +kernel) rfl
theorem w_418 : Cond.static yX3_isSign ∈ TT := TT_of (i := 418) (by decide +kernel) rfl
theorem w_419 : Cond.code yX3_isSign cX3_isSign 1 (some .boolean) ∈ TT := TT_of (i := 419) (by decide +kernel) rfl
theorem w_420 : Cond.methodLink RX3 34 yX3_readsParts ∈ TT := TT_of (i := 420) (by decide +kernel) rfl
theorem w_422 : Cond.instanceMethod yX3_readsParts ∈ TT := TT_of (i := 422) (by decide +kernel) rfl
theorem w_423 : Cond.code yX3_readsParts cX3_readsParts 2 (some .boolean) ∈ TT := TT_of (i := 423) (by decide +kernel) rfl
theorem w_424 : Cond.methodLink RX3 41 yX3_passes ∈ TT := TT_of (i := 424) (by decide +kernel) rfl
theorem w_426 : Cond.instanceMethod yX3_passes ∈ TT := TT_of (i := 426) (by decide +kernel) rfl
theorem w_427 : Cond.code yX3_passes cX3_passes 2 (some .boolean) ∈ TT := TT_of (i := 427) (by decide +kernel) rfl
theorem w_428 : Cond.methodLink RX3 45 yX3_readsOr ∈ TT := TT_of (i := 428) (by decide +kernel) rfl
theorem w_430 : Cond.instanceMethod yX3_readsOr ∈ TT := TT_of (i := 430) (by decide +kernel) rfl
theorem w_431 : Cond.code yX3_readsOr cX3_readsOr 4 (some .boolean) ∈ TT := TT_of (i := 431) (by decide +kernel) rfl
theorem w_432 : Cond.methodLink RX3 55 yX3_readsAnd ∈ TT := TT_of (i := 432) (by decide +kernel) rfl
theorem w_434 : Cond.instanceMethod yX3_readsAnd ∈ TT := TT_of (i := 434) (by decide +kernel) rfl
theorem w_435 : Cond.code yX3_readsAnd cX3_readsAnd 4 (some .boolean) ∈ TT := TT_of (i := 435) (by decide +kernel) rfl
theorem w_436 : Cond.methodLink RX3 61 yX3_readsNot ∈ TT := TT_of (i := 436) (by decide +kernel) rfl
theorem w_438 : Cond.instanceMethod yX3_readsNot ∈ TT := TT_of (i := 438) (by decide +kernel) rfl
theorem w_439 : Cond.code yX3_readsNot cX3_readsNot 4 (some .boolean) ∈ TT := TT_of (i := 439) (by decide +kernel) rfl
theorem w_440 : Cond.methodLink RX3 64 yX3_readsNotBehindNot ∈ TT := TT_of (i := 440) (by decide +kernel) rfl
theorem w_442 : Cond.instanceMethod yX3_readsNotBehindNot ∈ TT := TT_of (i := 442) (by decide +kernel) rfl
theorem w_443 : Cond.code yX3_readsNotBehindNot cX3_readsNotBehindNot 3 (some .boolean) ∈ TT := TT_of (i := 443) (by decide +kernel) rfl
theorem w_444 : Cond.methodLink RX3 58 yX4_add ∈ TT := TT_of (i := 444) (by decide +kernel) rfl
theorem w_445 : Cond.instanceMethod yX4_add ∈ TT := TT_of (i := 445) (by decide +kernel) rfl
theorem w_446 : Cond.selects RX4 yX4_add yX4_add ∈ TT := TT_of (i := 446) (by decide +kernel) rfl
theorem w_447 : Cond.code yX4_add cX4_add 2 none ∈ TT := TT_of (i := 447) (by decide +kernel) rfl
theorem w_448 : Cond.methodLink RX3 67 yX3_readsSum ∈ TT := TT_of (i := 448) (by decide +kernel) rfl
theorem w_450 : Cond.instanceMethod yX3_readsSum ∈ TT := TT_of (i := 450) (by decide +kernel) rfl
theorem w_451 : Cond.code yX3_readsSum cX3_readsSum 5 (some .boolean) ∈ TT := TT_of (i := 451) (by decide +kernel) rfl
theorem w_452 : Cond.methodLink RX3 70 yX3_readsTerm ∈ TT := TT_of (i := 452) (by decide +kernel) rfl
theorem w_454 : Cond.instanceMethod yX3_readsTerm ∈ TT := TT_of (i := 454) (by decide +kernel) rfl
theorem w_455 : Cond.code yX3_readsTerm cX3_readsTerm 4 (some .boolean) ∈ TT := TT_of (i := 455) (by decide +kernel) rfl
theorem w_456 : Cond.methodLink RX3 73 yX3_readsOne ∈ TT := TT_of (i := 456) (by decide +kernel) rfl
theorem w_458 : Cond.instanceMethod yX3_readsOne ∈ TT := TT_of (i := 458) (by decide +kernel) rfl
theorem w_459 : Cond.code yX3_readsOne cX3_readsOne 2 (some .boolean) ∈ TT := TT_of (i := 459) (by decide +kernel) rfl
theorem w_460 : Cond.methodLink RX3 76 yX3_isName ∈ TT := TT_of (i := 460) (by decide +kernel) rfl
theorem w_461 : Cond.methodLink RX3 82 yX3_readsOneBehindMinus ∈ TT := TT_of (i := 461) (by decide +kernel) rfl
theorem w_463 : Cond.instanceMethod yX3_readsOneBehindMinus ∈ TT := TT_of (i := 463) (by decide +kernel) rfl
theorem w_464 : Cond.code yX3_readsOneBehindMinus cX3_readsOneBehindMinus 3 (some .boolean) ∈ TT := TT_of (i := 464) (by decide +kernel) rfl
theorem w_465 : Cond.methodLink RX3 48 yX4_endPart ∈ TT := TT_of (i := 465) (by decide +kernel) rfl
theorem w_466 : Cond.instanceMethod yX4_endPart ∈ TT := TT_of (i := 466) (by decide +kernel) rfl
theorem w_467 : Cond.selects RX4 yX4_endPart yX4_endPart ∈ TT := TT_of (i := 467) (by decide +kernel) rfl
theorem w_468 : Cond.code yX4_endPart cX4_endPart 2 none ∈ TT := TT_of (i := 468) (by decide +kernel) rfl
theorem w_469 : Cond.methodLink RX5 51 yX3_clear ∈ TT := TT_of (i := 469) (by decide +kernel) rfl
theorem w_470 : Cond.instanceMethod yX3_clear ∈ TT := TT_of (i := 470) (by decide +kernel) rfl
theorem w_471 : Cond.selects RX3 yX3_clear yX3_clear ∈ TT := TT_of (i := 471) (by decide +kernel) rfl
theorem w_472 : Cond.code yX3_clear cX3_clear 1 none ∈ TT := TT_of (i := 472) (by decide +kernel) rfl
theorem w_479 : Cond.fieldLink RX1 9 (TX1 0).1 (TX1 0).2.1 (TX1 0).2.2.1 ∈ TT := TT_of (i := 479) (by decide +kernel) rfl
theorem w_480 : Cond.fieldLink RX5 120 (TX1 0).1 (TX1 0).2.1 (TX1 0).2.2.1 ∈ TT := TT_of (i := 480) (by decide +kernel) rfl
theorem w_481 : Cond.fieldLink RX1 15 (TX1 1).1 (TX1 1).2.1 (TX1 1).2.2.1 ∈ TT := TT_of (i := 481) (by decide +kernel) rfl
theorem w_482 : Cond.fieldLink RX5 186 (TX1 1).1 (TX1 1).2.1 (TX1 1).2.2.1 ∈ TT := TT_of (i := 482) (by decide +kernel) rfl
theorem w_483 : Cond.fieldLink RX1 18 (TX1 2).1 (TX1 2).2.1 (TX1 2).2.2.1 ∈ TT := TT_of (i := 483) (by decide +kernel) rfl
theorem w_484 : Cond.fieldLink RX5 229 (TX1 2).1 (TX1 2).2.1 (TX1 2).2.2.1 ∈ TT := TT_of (i := 484) (by decide +kernel) rfl
theorem w_485 : Cond.fieldLink RX1 21 (TX1 3).1 (TX1 3).2.1 (TX1 3).2.2.1 ∈ TT := TT_of (i := 485) (by decide +kernel) rfl
theorem w_486 : Cond.fieldLink RX5 222 (TX1 3).1 (TX1 3).2.1 (TX1 3).2.2.1 ∈ TT := TT_of (i := 486) (by decide +kernel) rfl
theorem w_487 : Cond.fieldLink RX1 24 (TX1 4).1 (TX1 4).2.1 (TX1 4).2.2.1 ∈ TT := TT_of (i := 487) (by decide +kernel) rfl
theorem w_488 : Cond.fieldLink RX5 180 (TX1 4).1 (TX1 4).2.1 (TX1 4).2.2.1 ∈ TT := TT_of (i := 488) (by decide +kernel) rfl
theorem w_489 : Cond.fieldLink RX1 27 (TX1 5).1 (TX1 5).2.1 (TX1 5).2.2.1 ∈ TT := TT_of (i := 489) (by decide +kernel) rfl
theorem w_490 : Cond.fieldLink RX5 153 (TX1 5).1 (TX1 5).2.1 (TX1 5).2.2.1 ∈ TT := TT_of (i := 490) (by decide +kernel) rfl
theorem w_491 : Cond.fieldLink RX1 30 (TX1 6).1 (TX1 6).2.1 (TX1 6).2.2.1 ∈ TT := TT_of (i := 491) (by decide +kernel) rfl
theorem w_492 : Cond.fieldLink RX5 156 (TX1 6).1 (TX1 6).2.1 (TX1 6).2.2.1 ∈ TT := TT_of (i := 492) (by decide +kernel) rfl
theorem w_493 : Cond.fieldLink RX1 33 (TX1 7).1 (TX1 7).2.1 (TX1 7).2.2.1 ∈ TT := TT_of (i := 493) (by decide +kernel) rfl
theorem w_494 : Cond.fieldLink RX5 147 (TX1 7).1 (TX1 7).2.1 (TX1 7).2.2.1 ∈ TT := TT_of (i := 494) (by decide +kernel) rfl
theorem w_495 : Cond.fieldLink RX1 36 (TX1 8).1 (TX1 8).2.1 (TX1 8).2.2.1 ∈ TT := TT_of (i := 495) (by decide +kernel) rfl
theorem w_496 : Cond.fieldLink RX5 150 (TX1 8).1 (TX1 8).2.1 (TX1 8).2.2.1 ∈ TT := TT_of (i := 496) (by decide +kernel) rfl
theorem w_497 : Cond.fieldLink RX5 73 (TX1 9).1 (TX1 9).2.1 (TX1 9).2.2.1 ∈ TT := TT_of (i := 497) (by decide +kernel) rfl
theorem w_498 : Cond.fieldLink RX1 49 (TX1 9).1 (TX1 9).2.1 (TX1 9).2.2.1 ∈ TT := TT_of (i := 498) (by decide +kernel) rfl
theorem w_499 : Cond.fieldLink RX5 85 (TX1 10).1 (TX1 10).2.1 (TX1 10).2.2.1 ∈ TT := TT_of (i := 499) (by decide +kernel) rfl
theorem w_500 : Cond.fieldLink RX1 53 (TX1 10).1 (TX1 10).2.1 (TX1 10).2.2.1 ∈ TT := TT_of (i := 500) (by decide +kernel) rfl
theorem w_501 : Cond.fieldLink RX1 39 (TX1 11).1 (TX1 11).2.1 (TX1 11).2.2.1 ∈ TT := TT_of (i := 501) (by decide +kernel) rfl
theorem w_502 : Cond.fieldLink RX5 88 (TX1 11).1 (TX1 11).2.1 (TX1 11).2.2.1 ∈ TT := TT_of (i := 502) (by decide +kernel) rfl
theorem w_529 : Cond.fieldLink RX5 10 (TX5 0).1 (TX5 0).2.1 (TX5 0).2.2.1 ∈ TT := TT_of (i := 529) (by decide +kernel) rfl
theorem w_530 : Cond.fieldLink RX5 18 (TX5 1).1 (TX5 1).2.1 (TX5 1).2.2.1 ∈ TT := TT_of (i := 530) (by decide +kernel) rfl
theorem w_531 : Cond.fieldLink RX5 54 (TX5 2).1 (TX5 2).2.1 (TX5 2).2.2.1 ∈ TT := TT_of (i := 531) (by decide +kernel) rfl
theorem w_533 : Cond.fieldLink RX5 63 (TX5 4).1 (TX5 4).2.1 (TX5 4).2.2.1 ∈ TT := TT_of (i := 533) (by decide +kernel) rfl
theorem w_534 : Cond.fieldLink RX5 67 (TX5 5).1 (TX5 5).2.1 (TX5 5).2.2.1 ∈ TT := TT_of (i := 534) (by decide +kernel) rfl
theorem w_553 : Cond.methodLink RL 24 yL_hour ∈ TT := TT_of (i := 553) (by decide +kernel) rfl
theorem w_554 : Cond.static yL_hour ∈ TT := TT_of (i := 554) (by decide +kernel) rfl
theorem w_555 : Cond.code yL_hour cL_hour 1 (some .int) ∈ TT := TT_of (i := 555) (by decide +kernel) rfl
theorem w_556 : Cond.methodLink RL 34 yL_sky ∈ TT := TT_of (i := 556) (by decide +kernel) rfl
theorem w_557 : Cond.static yL_sky ∈ TT := TT_of (i := 557) (by decide +kernel) rfl
theorem w_558 : Cond.code yL_sky cL_sky 2 (some .int) ∈ TT := TT_of (i := 558) (by decide +kernel) rfl
theorem w_559 : Cond.methodLink RL 37 yL_cask ∈ TT := TT_of (i := 559) (by decide +kernel) rfl
theorem w_560 : Cond.static yL_cask ∈ TT := TT_of (i := 560) (by decide +kernel) rfl
theorem w_561 : Cond.code yL_cask cL_cask 4 (some .int) ∈ TT := TT_of (i := 561) (by decide +kernel) rfl
theorem w_562 : Cond.methodLink RL 44 yL_many ∈ TT := TT_of (i := 562) (by decide +kernel) rfl
theorem w_563 : Cond.static yL_many ∈ TT := TT_of (i := 563) (by decide +kernel) rfl
theorem w_564 : Cond.code yL_many cL_many 1 (some .int) ∈ TT := TT_of (i := 564) (by decide +kernel) rfl
theorem w_565 : Cond.methodLink RL 47 yL_kind ∈ TT := TT_of (i := 565) (by decide +kernel) rfl
theorem w_566 : Cond.static yL_kind ∈ TT := TT_of (i := 566) (by decide +kernel) rfl
theorem w_567 : Cond.code yL_kind cL_kind 2 (some .int) ∈ TT := TT_of (i := 567) (by decide +kernel) rfl
theorem w_568 : Cond.methodLink RL 50 yL_more ∈ TT := TT_of (i := 568) (by decide +kernel) rfl
theorem w_569 : Cond.static yL_more ∈ TT := TT_of (i := 569) (by decide +kernel) rfl
theorem w_570 : Cond.code yL_more cL_more 2 (some .int) ∈ TT := TT_of (i := 570) (by decide +kernel) rfl
theorem w_571 : Cond.methodLink RL 53 yL_breath ∈ TT := TT_of (i := 571) (by decide +kernel) rfl
theorem w_572 : Cond.static yL_breath ∈ TT := TT_of (i := 572) (by decide +kernel) rfl
theorem w_573 : Cond.code yL_breath cL_breath 2 (some .int) ∈ TT := TT_of (i := 573) (by decide +kernel) rfl
theorem w_574 : Cond.methodLink RL 56 yX5_diver ∈ TT := TT_of (i := 574) (by decide +kernel) rfl
theorem w_575 : Cond.instanceMethod yX5_diver ∈ TT := TT_of (i := 575) (by decide +kernel) rfl
theorem w_576 : Cond.selects RX5 yX5_diver yX5_diver ∈ TT := TT_of (i := 576) (by decide +kernel) rfl
theorem w_577 : Cond.code yX5_diver cX5_diver 3 (some .int) ∈ TT := TT_of (i := 577) (by decide +kernel) rfl
theorem w_578 : Cond.methodLink RX5 144 yX1_comes ∈ TT := TT_of (i := 578) (by decide +kernel) rfl
theorem w_579 : Cond.instanceMethod yX1_comes ∈ TT := TT_of (i := 579) (by decide +kernel) rfl
theorem w_580 : Cond.selects RX1 yX1_comes yX1_comes ∈ TT := TT_of (i := 580) (by decide +kernel) rfl
theorem w_581 : Cond.code yX1_comes cX1_comes 5 (some .int) ∈ TT := TT_of (i := 581) (by decide +kernel) rfl
theorem w_582 : Cond.methodLink RL 59 yL_plain ∈ TT := TT_of (i := 582) (by decide +kernel) rfl
theorem w_583 : Cond.static yL_plain ∈ TT := TT_of (i := 583) (by decide +kernel) rfl
theorem w_584 : Cond.code yL_plain cL_plain 1 (some .boolean) ∈ TT := TT_of (i := 584) (by decide +kernel) rfl
theorem w_806 : Cond.instanceMethod yX5_feed ∈ TT := TT_of (i := 806) (by decide +kernel) rfl
theorem w_807 : Cond.selects RX5 yX5_feed yX5_feed ∈ TT := TT_of (i := 807) (by decide +kernel) rfl
theorem w_808 : Cond.code yX5_feed cX5_feed 7 (some .int) ∈ TT := TT_of (i := 808) (by decide +kernel) rfl
theorem w_809 : Cond.methodLink RX5 123 yX5_areBytes ∈ TT := TT_of (i := 809) (by decide +kernel) rfl
theorem w_810 : Cond.static yX5_areBytes ∈ TT := TT_of (i := 810) (by decide +kernel) rfl
theorem w_811 : Cond.code yX5_areBytes cX5_areBytes 5 (some .boolean) ∈ TT := TT_of (i := 811) (by decide +kernel) rfl
theorem w_812 : Cond.methodLink RX5 127 yX3_hasRoom ∈ TT := TT_of (i := 812) (by decide +kernel) rfl
theorem w_813 : Cond.instanceMethod yX3_hasRoom ∈ TT := TT_of (i := 813) (by decide +kernel) rfl
theorem w_814 : Cond.selects RX3 yX3_hasRoom yX3_hasRoom ∈ TT := TT_of (i := 814) (by decide +kernel) rfl
theorem w_815 : Cond.code yX3_hasRoom cX3_hasRoom 2 (some .boolean) ∈ TT := TT_of (i := 815) (by decide +kernel) rfl
theorem w_816 : Cond.methodLink RL 100 yX5_text ∈ TT := TT_of (i := 816) (by decide +kernel) rfl
theorem w_817 : Cond.instanceMethod yX5_text ∈ TT := TT_of (i := 817) (by decide +kernel) rfl
theorem w_818 : Cond.selects RX5 yX5_text yX5_text ∈ TT := TT_of (i := 818) (by decide +kernel) rfl
theorem w_819 : Cond.code yX5_text cX5_text 2 (some .int) ∈ TT := TT_of (i := 819) (by decide +kernel) rfl
theorem w_820 : Cond.methodLink RL 102 yX5_force ∈ TT := TT_of (i := 820) (by decide +kernel) rfl
theorem w_821 : Cond.instanceMethod yX5_force ∈ TT := TT_of (i := 821) (by decide +kernel) rfl
theorem w_822 : Cond.selects RX5 yX5_force yX5_force ∈ TT := TT_of (i := 822) (by decide +kernel) rfl
theorem w_823 : Cond.code yX5_force cX5_force 3 (some .int) ∈ TT := TT_of (i := 823) (by decide +kernel) rfl
theorem w_824 : Cond.methodLink RL 183 yL_start ∈ TT := TT_of (i := 824) (by decide +kernel) rfl
theorem w_825 : Cond.static yL_start ∈ TT := TT_of (i := 825) (by decide +kernel) rfl
theorem w_826 : Cond.code yL_start cL_start 3 none ∈ TT := TT_of (i := 826) (by decide +kernel) rfl
theorem w_827 : Cond.methodLink RL 214 yL_dive ∈ TT := TT_of (i := 827) (by decide +kernel) rfl
theorem w_828 : Cond.static yL_dive ∈ TT := TT_of (i := 828) (by decide +kernel) rfl
theorem w_829 : Cond.code yL_dive cL_dive 4 (some .boolean) ∈ TT := TT_of (i := 829) (by decide +kernel) rfl
theorem w_830 : Cond.methodLink RL 138 yL_can ∈ TT := TT_of (i := 830) (by decide +kernel) rfl
theorem w_831 : Cond.static yL_can ∈ TT := TT_of (i := 831) (by decide +kernel) rfl
theorem w_832 : Cond.code yL_can cL_can 4 (some .boolean) ∈ TT := TT_of (i := 832) (by decide +kernel) rfl
theorem w_833 : Cond.methodLink RL 131 yL_reaches ∈ TT := TT_of (i := 833) (by decide +kernel) rfl
theorem w_834 : Cond.static yL_reaches ∈ TT := TT_of (i := 834) (by decide +kernel) rfl
theorem w_835 : Cond.code yL_reaches cL_reaches 8 (some .long) ∈ TT := TT_of (i := 835) (by decide +kernel) rfl
theorem w_836 : Cond.methodLink RL 115 yL_held ∈ TT := TT_of (i := 836) (by decide +kernel) rfl
theorem w_837 : Cond.static yL_held ∈ TT := TT_of (i := 837) (by decide +kernel) rfl
theorem w_838 : Cond.code yL_held cL_held 4 (some .int) ∈ TT := TT_of (i := 838) (by decide +kernel) rfl
theorem w_839 : Cond.methodLink RL 106 Lib.MathLoose.min_long.x ∈ TT := TT_of (i := 839) (by decide +kernel) rfl
theorem w_842 : Cond.methodLink RL 112 Lib.MathLoose.max_long.x ∈ TT := TT_of (i := 842) (by decide +kernel) rfl
theorem w_845 : Cond.constantLong RL 119 (2 : Int64) ∈ TT := TT_of (i := 845) (by decide +kernel) rfl
theorem w_846 : Cond.constantLong RL 121 (3 : Int64) ∈ TT := TT_of (i := 846) (by decide +kernel) rfl
theorem w_847 : Cond.constantLong RL 123 (10 : Int64) ∈ TT := TT_of (i := 847) (by decide +kernel) rfl
theorem w_848 : Cond.constantLong RL 125 (4 : Int64) ∈ TT := TT_of (i := 848) (by decide +kernel) rfl
theorem w_849 : Cond.constantLong RL 127 (5 : Int64) ∈ TT := TT_of (i := 849) (by decide +kernel) rfl
theorem w_850 : Cond.constantLong RL 129 (99 : Int64) ∈ TT := TT_of (i := 850) (by decide +kernel) rfl
theorem w_851 : Cond.methodLink RL 135 yL_costs ∈ TT := TT_of (i := 851) (by decide +kernel) rfl
theorem w_852 : Cond.static yL_costs ∈ TT := TT_of (i := 852) (by decide +kernel) rfl
theorem w_853 : Cond.code yL_costs cL_costs 8 (some .long) ∈ TT := TT_of (i := 853) (by decide +kernel) rfl
theorem w_854 : Cond.methodLink RL 221 yL_open ∈ TT := TT_of (i := 854) (by decide +kernel) rfl
theorem w_855 : Cond.static yL_open ∈ TT := TT_of (i := 855) (by decide +kernel) rfl
theorem w_856 : Cond.code yL_open cL_open 3 (some .boolean) ∈ TT := TT_of (i := 856) (by decide +kernel) rfl
theorem w_857 : Cond.methodLink RL 150 yL_pass ∈ TT := TT_of (i := 857) (by decide +kernel) rfl
theorem w_858 : Cond.static yL_pass ∈ TT := TT_of (i := 858) (by decide +kernel) rfl
theorem w_859 : Cond.code yL_pass cL_pass 3 (some .int) ∈ TT := TT_of (i := 859) (by decide +kernel) rfl
theorem w_860 : Cond.methodLink RL 142 yL_breathes ∈ TT := TT_of (i := 860) (by decide +kernel) rfl
theorem w_861 : Cond.static yL_breathes ∈ TT := TT_of (i := 861) (by decide +kernel) rfl
theorem w_862 : Cond.code yL_breathes cL_breathes 4 (some .long) ∈ TT := TT_of (i := 862) (by decide +kernel) rfl
theorem w_863 : Cond.methodLink RL 146 yL_first ∈ TT := TT_of (i := 863) (by decide +kernel) rfl
theorem w_864 : Cond.static yL_first ∈ TT := TT_of (i := 864) (by decide +kernel) rfl
theorem w_865 : Cond.code yL_first cL_first 3 (some .int) ∈ TT := TT_of (i := 865) (by decide +kernel) rfl
theorem w_866 : Cond.methodLink RL 207 yL_same ∈ TT := TT_of (i := 866) (by decide +kernel) rfl
theorem w_867 : Cond.static yL_same ∈ TT := TT_of (i := 867) (by decide +kernel) rfl
theorem w_868 : Cond.code yL_same cL_same 7 (some .boolean) ∈ TT := TT_of (i := 868) (by decide +kernel) rfl
theorem w_869 : Cond.methodLink RL 157 yL_cans ∈ TT := TT_of (i := 869) (by decide +kernel) rfl
theorem w_870 : Cond.static yL_cans ∈ TT := TT_of (i := 870) (by decide +kernel) rfl
theorem w_871 : Cond.code yL_cans cL_cans 5 (some .int) ∈ TT := TT_of (i := 871) (by decide +kernel) rfl
theorem w_872 : Cond.constantLong RL 161 (12 : Int64) ∈ TT := TT_of (i := 872) (by decide +kernel) rfl
theorem w_873 : Cond.methodLink RL 172 yL_fair ∈ TT := TT_of (i := 873) (by decide +kernel) rfl
theorem w_874 : Cond.static yL_fair ∈ TT := TT_of (i := 874) (by decide +kernel) rfl
theorem w_875 : Cond.code yL_fair cL_fair 1 (some .long) ∈ TT := TT_of (i := 875) (by decide +kernel) rfl
theorem w_876 : Cond.methodLink RL 176 yX5_count ∈ TT := TT_of (i := 876) (by decide +kernel) rfl
theorem w_877 : Cond.instanceMethod yX5_count ∈ TT := TT_of (i := 877) (by decide +kernel) rfl
theorem w_878 : Cond.selects RX5 yX5_count yX5_count ∈ TT := TT_of (i := 878) (by decide +kernel) rfl
theorem w_879 : Cond.code yX5_count cX5_count 2 (some .int) ∈ TT := TT_of (i := 879) (by decide +kernel) rfl
theorem w_880 : Cond.methodLink RL 202 yJ6_bitCount_0f7a4 ∈ TT := TT_of (i := 880) (by decide +kernel) rfl
theorem w_881 : Cond.constantLong RL 216 (-3 : Int64) ∈ TT := TT_of (i := 881) (by decide +kernel) rfl
theorem wm_copy : Cond.native arraycopyName ∈ TT ∧ Cond.static arraycopyName ∈ TT ∧ Cond.initialized "java/lang/System" ∈ TT := ⟨TT_of (i := 203) (by decide +kernel) rfl, TT_of (i := 202) (by decide +kernel) rfl, TT_of (i := 32) (by decide +kernel) rfl⟩
theorem wm_max : Cond.static Lib.Math.max.name ∈ TT ∧ Cond.initialized "java/lang/Math" ∈ TT ∧ Cond.code Lib.Math.max.name Lib.Math.max.code 2 (some .int) ∈ TT := ⟨TT_of (i := 110) (by decide +kernel) rfl, TT_of (i := 30) (by decide +kernel) rfl, TT_of (i := 111) (by decide +kernel) rfl⟩
theorem wm_min : Cond.static Lib.Math.min.name ∈ TT ∧ Cond.initialized "java/lang/Math" ∈ TT ∧ Cond.code Lib.Math.min.name Lib.Math.min.code 2 (some .int) ∈ TT := ⟨TT_of (i := 107) (by decide +kernel) rfl, TT_of (i := 30) (by decide +kernel) rfl, TT_of (i := 108) (by decide +kernel) rfl⟩
theorem wm_lmax : Cond.static Lib.MathLoose.max_long.x ∈ TT ∧ Cond.initialized "java/lang/Math" ∈ TT ∧ Cond.code Lib.MathLoose.max_long.x Lib.MathLoose.max_long.code 4 (some .long) ∈ TT := ⟨TT_of (i := 843) (by decide +kernel) rfl, TT_of (i := 30) (by decide +kernel) rfl, TT_of (i := 844) (by decide +kernel) rfl⟩
theorem wm_lmin : Cond.static Lib.MathLoose.min_long.x ∈ TT ∧ Cond.initialized "java/lang/Math" ∈ TT ∧ Cond.code Lib.MathLoose.min_long.x Lib.MathLoose.min_long.code 4 (some .long) ∈ TT := ⟨TT_of (i := 840) (by decide +kernel) rfl, TT_of (i := 30) (by decide +kernel) rfl, TT_of (i := 841) (by decide +kernel) rfl⟩
theorem cm_X1_casksAt : CV RX1 yX1_casksAt cX1_casksAt 4 (some .int) 1 := ⟨w_218, w_219, w_26, w_220, by decide +kernel⟩
theorem cm_J6_bitCount_0f7a4 : CS yJ6_bitCount_0f7a4 cJ6_bitCount_0f7a4 1 (some .int) 1 := ⟨w_237, w_34, w_238, by decide +kernel⟩
theorem cm_X5_isWithin : CS yX5_isWithin cX5_isWithin 2 (some .boolean) 2 := ⟨w_44, w_18, w_45, by decide +kernel⟩
theorem cm_X5_isCask : CS yX5_isCask cX5_isCask 1 (some .boolean) 1 := ⟨w_41, w_18, w_42, by decide +kernel⟩
theorem cm_X1_caskRow : CV RX1 yX1_caskRow cX1_caskRow 2 (some (.array .int)) 1 := ⟨w_49, w_50, w_26, w_51, by decide +kernel⟩
theorem cm_X5_isSort : CS yX5_isSort cX5_isSort 1 (some .boolean) 1 := ⟨w_66, w_18, w_67, by decide +kernel⟩
theorem cm_X5_setHour : CV RX5 yX5_setHour cX5_setHour 3 (some .int) 1 := ⟨w_62, w_0, w_18, w_64, by decide +kernel⟩
theorem cm_X5_areBytes : CS yX5_areBytes cX5_areBytes 5 (some .boolean) 5 := ⟨w_810, w_18, w_811, by decide +kernel⟩
theorem cm_X3_hasRoom : CV RX3 yX3_hasRoom cX3_hasRoom 2 (some .boolean) 1 := ⟨w_813, w_814, w_19, w_815, by decide +kernel⟩
theorem cm_X3_add : CV RX3 yX3_add cX3_add 2 none 1 := ⟨w_378, w_379, w_19, w_380, by decide +kernel⟩
theorem cm_X3_isLetter : CS yX3_isLetter cX3_isLetter 1 (some .boolean) 1 := ⟨w_397, w_19, w_398, by decide +kernel⟩
theorem cm_X3_spells : CV RX3 yX3_spells cX3_spells 4 (some .boolean) 2 := ⟨w_408, w_5, w_19, w_409, by decide +kernel⟩
theorem cm_X3_isDigit : CS yX3_isDigit cX3_isDigit 1 (some .boolean) 1 := ⟨w_411, w_19, w_412, by decide +kernel⟩
theorem cm_X3_isSign : CS yX3_isSign cX3_isSign 1 (some .boolean) 1 := ⟨w_418, w_19, w_419, by decide +kernel⟩
theorem cm_X3_nextNumber : CV RX3 yX3_nextNumber cX3_nextNumber 1 none 0 := ⟨w_415, w_6, w_19, w_416, by decide +kernel⟩
theorem cm_X3_nextWord : CV RX3 yX3_nextWord cX3_nextWord 4 none 0 := ⟨w_401, w_4, w_19, w_402, by decide +kernel⟩
theorem cm_X3_isBlank : CS yX3_isBlank cX3_isBlank 1 (some .boolean) 1 := ⟨w_394, w_19, w_395, by decide +kernel⟩
theorem cm_X3_next : CV RX3 yX3_next cX3_next 1 none 0 := ⟨w_391, w_3, w_19, w_392, by decide +kernel⟩
theorem cm_X3_readsAnd : CV RX3 yX3_readsAnd cX3_readsAnd 4 (some .boolean) 1 := ⟨w_434, w_10, w_19, w_435, by decide +kernel⟩
theorem cm_X4_add : CV RX4 yX4_add cX4_add 2 none 1 := ⟨w_445, w_446, w_20, w_447, by decide +kernel⟩
theorem cm_X3_readsNot : CV RX3 yX3_readsNot cX3_readsNot 4 (some .boolean) 1 := ⟨w_438, w_11, w_19, w_439, by decide +kernel⟩
theorem cm_X3_readsSum : CV RX3 yX3_readsSum cX3_readsSum 5 (some .boolean) 1 := ⟨w_450, w_13, w_19, w_451, by decide +kernel⟩
theorem cm_X3_readsNotBehindNot : CV RX3 yX3_readsNotBehindNot cX3_readsNotBehindNot 3 (some .boolean) 1 := ⟨w_442, w_12, w_19, w_443, by decide +kernel⟩
theorem cm_X3_readsTerm : CV RX3 yX3_readsTerm cX3_readsTerm 4 (some .boolean) 1 := ⟨w_454, w_14, w_19, w_455, by decide +kernel⟩
theorem cm_X3_readsOne : CV RX3 yX3_readsOne cX3_readsOne 2 (some .boolean) 1 := ⟨w_458, w_15, w_19, w_459, by decide +kernel⟩
theorem cm_X3_isName : CS yX3_isName cX3_isName 1 (some .boolean) 1 := ⟨w_101, w_19, w_102, by decide +kernel⟩
theorem cm_X3_passes : CV RX3 yX3_passes cX3_passes 2 (some .boolean) 1 := ⟨w_426, w_8, w_19, w_427, by decide +kernel⟩
theorem cm_X3_readsOr : CV RX3 yX3_readsOr cX3_readsOr 4 (some .boolean) 1 := ⟨w_430, w_9, w_19, w_431, by decide +kernel⟩
theorem cm_X3_readsOneBehindMinus : CV RX3 yX3_readsOneBehindMinus cX3_readsOneBehindMinus 3 (some .boolean) 1 := ⟨w_463, w_16, w_19, w_464, by decide +kernel⟩
theorem cm_X4_endPart : CV RX4 yX4_endPart cX4_endPart 2 none 1 := ⟨w_466, w_467, w_20, w_468, by decide +kernel⟩
theorem cm_X4_clear : CV RX4 yX4_clear cX4_clear 1 none 0 := ⟨w_386, w_387, w_20, w_388, by decide +kernel⟩
theorem cm_X3_readsParts : CV RX3 yX3_readsParts cX3_readsParts 2 (some .boolean) 0 := ⟨w_422, w_7, w_19, w_423, by decide +kernel⟩
theorem cm_X3_readInto : CV RX3 yX3_readInto cX3_readInto 2 (some .int) 1 := ⟨w_382, w_383, w_19, w_384, by decide +kernel⟩
theorem cm_X3_clear : CV RX3 yX3_clear cX3_clear 1 none 0 := ⟨w_470, w_471, w_19, w_472, by decide +kernel⟩
theorem cm_X1_comes : CV RX1 yX1_comes cX1_comes 5 (some .int) 3 := ⟨w_579, w_580, w_26, w_581, by decide +kernel⟩
theorem cm_X5_isDiver : CV RX5 yX5_isDiver cX5_isDiver 2 (some .boolean) 1 := ⟨w_74, w_1, w_18, w_75, by decide +kernel⟩
theorem cm_X4_joined : CS yX4_joined cX4_joined 3 (some .int) 3 := ⟨w_104, w_20, w_105, by decide +kernel⟩
theorem cm_X4_says : CV RX4 yX4_says cX4_says 11 (some .int) 7 := ⟨w_97, w_98, w_20, w_99, by decide +kernel⟩
theorem cm_X1_saidReach : CV RX1 yX1_saidReach cX1_saidReach 3 (some .int) 2 := ⟨w_93, w_94, w_26, w_95, by decide +kernel⟩
theorem cm_X0_reach : CS yX0_reach cX0_reach 3 (some .int) 3 := ⟨w_113, w_35, w_114, by decide +kernel⟩
theorem cm_X1_saidCost : CV RX1 yX1_saidCost cX1_saidCost 3 (some .int) 2 := ⟨w_120, w_121, w_26, w_122, by decide +kernel⟩
theorem cm_X0_cost : CS yX0_cost cX0_cost 5 (some .int) 5 := ⟨w_124, w_35, w_125, by decide +kernel⟩
theorem cm_X1_reach : CV RX1 yX1_reach cX1_reach 3 (some .int) 2 := ⟨w_89, w_90, w_26, w_91, by decide +kernel⟩
theorem cm_X1_cost : CV RX1 yX1_cost cX1_cost 3 (some .int) 2 := ⟨w_116, w_117, w_26, w_118, by decide +kernel⟩
theorem cm_X1_can : CV RX1 yX1_can cX1_can 3 (some .boolean) 2 := ⟨w_85, w_86, w_26, w_87, by decide +kernel⟩
theorem cm_X1_casksFor : CV RX1 yX1_casksFor cX1_casksFor 4 (some .int) 1 := ⟨w_81, w_82, w_26, w_83, by decide +kernel⟩
theorem cm_X0_breathing : CS yX0_breathing cX0_breathing 2 (some .int) 2 := ⟨w_127, w_35, w_128, by decide +kernel⟩
theorem cm_X1_bringUp : CV RX1 yX1_bringUp cX1_bringUp 3 none 2 := ⟨w_141, w_142, w_26, w_143, by decide +kernel⟩
theorem cm_X1_blowUp : CV RX1 yX1_blowUp cX1_blowUp 3 none 2 := ⟨w_153, w_154, w_26, w_155, by decide +kernel⟩
theorem cm_X1_letLoose : CV RX1 yX1_letLoose cX1_letLoose 2 none 1 := ⟨w_149, w_150, w_26, w_151, by decide +kernel⟩
theorem cm_X1_fading : CV RX1 yX1_fading cX1_fading 4 (some .int) 3 := ⟨w_170, w_171, w_26, w_172, by decide +kernel⟩
theorem cm_X1_faded : CV RX1 yX1_faded cX1_faded 4 (some .int) 3 := ⟨w_166, w_167, w_26, w_168, by decide +kernel⟩
theorem cm_X1_passHours : CV RX1 yX1_passHours cX1_passHours 4 none 1 := ⟨w_162, w_163, w_26, w_164, by decide +kernel⟩
theorem cm_X1_mainSort : CV RX1 yX1_mainSort cX1_mainSort 4 (some .int) 0 := ⟨w_176, w_177, w_26, w_178, by decide +kernel⟩
theorem cm_X1_fair : CV RX1 yX1_fair cX1_fair 1 (some .int) 0 := ⟨w_190, w_191, w_26, w_192, by decide +kernel⟩
theorem cm_X1_overBay : CV RX1 yX1_overBay cX1_overBay 2 (some .int) 1 := ⟨w_184, w_185, w_26, w_186, by decide +kernel⟩
theorem cm_X1_becomes : CV RX1 yX1_becomes cX1_becomes 2 none 1 := ⟨w_198, w_199, w_26, w_200, by decide +kernel⟩
theorem cm_X5_fairBehind : CV RX5 yX5_fairBehind cX5_fairBehind 3 (some .int) 2 := ⟨w_210, w_2, w_18, w_211, by decide +kernel⟩
theorem cm_X1_sum : CS yX1_sum cX1_sum 4 (some .int) 2 := ⟨w_222, w_26, w_223, by decide +kernel⟩
theorem cm_X5_mostLeft : CS yX5_mostLeft cX5_mostLeft 7 (some .int) 4 := ⟨w_229, w_18, w_230, by decide +kernel⟩
theorem cm_L_at : CS yL_at cL_at 2 (some .int) 2 := ⟨w_243, w_17, w_244, by decide +kernel⟩
theorem cm_L_many : CS yL_many cL_many 1 (some .int) 1 := ⟨w_563, w_17, w_564, by decide +kernel⟩
theorem cm_L_breath : CS yL_breath cL_breath 2 (some .int) 2 := ⟨w_572, w_17, w_573, by decide +kernel⟩
theorem cm_L_kind : CS yL_kind cL_kind 2 (some .int) 2 := ⟨w_566, w_17, w_567, by decide +kernel⟩
theorem cm_L_more : CS yL_more cL_more 2 (some .int) 2 := ⟨w_569, w_17, w_570, by decide +kernel⟩
theorem cm_L_cask : CS yL_cask cL_cask 4 (some .int) 3 := ⟨w_560, w_17, w_561, by decide +kernel⟩
theorem cm_L_hour : CS yL_hour cL_hour 1 (some .int) 1 := ⟨w_554, w_17, w_555, by decide +kernel⟩
theorem cm_L_sky : CS yL_sky cL_sky 2 (some .int) 2 := ⟨w_557, w_17, w_558, by decide +kernel⟩
theorem cm_L_plain : CS yL_plain cL_plain 1 (some .boolean) 1 := ⟨w_583, w_17, w_584, by decide +kernel⟩
theorem cm_L_held : CS yL_held cL_held 4 (some .int) 3 := ⟨w_837, w_17, w_838, by decide +kernel⟩
theorem cm_L_reaches : CS yL_reaches cL_reaches 8 (some .long) 4 := ⟨w_834, w_17, w_835, by decide +kernel⟩
theorem cm_L_costs : CS yL_costs cL_costs 8 (some .long) 4 := ⟨w_852, w_17, w_853, by decide +kernel⟩
theorem cm_L_can : CS yL_can cL_can 4 (some .boolean) 4 := ⟨w_831, w_17, w_832, by decide +kernel⟩
theorem cm_L_first : CS yL_first cL_first 3 (some .int) 1 := ⟨w_864, w_17, w_865, by decide +kernel⟩
theorem cm_L_breathes : CS yL_breathes cL_breathes 4 (some .long) 2 := ⟨w_861, w_17, w_862, by decide +kernel⟩
theorem cm_X5_told : CV RX5 yX5_told cX5_told 3 (some .int) 2 := ⟨w_77, w_78, w_18, w_79, by decide +kernel⟩
theorem cm_L_cans : CS yL_cans cL_cans 5 (some .int) 3 := ⟨w_870, w_17, w_871, by decide +kernel⟩
theorem cm_X5_dives : CV RX5 yX5_dives cX5_dives 4 (some .int) 3 := ⟨w_130, w_131, w_18, w_132, by decide +kernel⟩
theorem cm_X5_lies : CV RX5 yX5_lies cX5_lies 3 (some .int) 2 := ⟨w_53, w_54, w_18, w_55, by decide +kernel⟩
theorem cm_X5_bay : CV RX5 yX5_bay cX5_bay 2 (some .int) 1 := ⟨w_180, w_181, w_18, w_182, by decide +kernel⟩
theorem cm_L_fair : CS yL_fair cL_fair 1 (some .long) 1 := ⟨w_874, w_17, w_875, by decide +kernel⟩
theorem cm_X5_count : CV RX5 yX5_count cX5_count 2 (some .int) 1 := ⟨w_877, w_878, w_18, w_879, by decide +kernel⟩
theorem cm_X5_sky : CV RX5 yX5_sky cX5_sky 4 (some .int) 2 := ⟨w_57, w_58, w_18, w_59, by decide +kernel⟩
theorem cm_X5_cask : CV RX5 yX5_cask cX5_cask 6 (some .int) 3 := ⟨w_37, w_38, w_18, w_39, by decide +kernel⟩
theorem cm_X5_diver : CV RX5 yX5_diver cX5_diver 3 (some .int) 2 := ⟨w_575, w_576, w_18, w_577, by decide +kernel⟩
theorem cm_X5_text : CV RX5 yX5_text cX5_text 2 (some .int) 0 := ⟨w_817, w_818, w_18, w_819, by decide +kernel⟩
theorem cm_X5_force : CV RX5 yX5_force cX5_force 3 (some .int) 1 := ⟨w_821, w_822, w_18, w_823, by decide +kernel⟩
theorem cm_L_start : CS yL_start cL_start 3 none 2 := ⟨w_825, w_17, w_826, by decide +kernel⟩
theorem cm_X5_which : CV RX5 yX5_which cX5_which 7 (some .int) 2 := ⟨w_205, w_206, w_18, w_207, by decide +kernel⟩
theorem cm_X5_run : CV RX5 yX5_run cX5_run 5 (some .int) 2 := ⟨w_194, w_195, w_18, w_196, by decide +kernel⟩
theorem cm_X5_cargo : CV RX5 yX5_cargo cX5_cargo 8 (some .int) 2 := ⟨w_214, w_215, w_18, w_216, by decide +kernel⟩
theorem cm_X5_best : CV RX5 yX5_best cX5_best 6 (some .int) 1 := ⟨w_233, w_234, w_18, w_235, by decide +kernel⟩
theorem cm_X5_last : CV RX5 yX5_last cX5_last 4 (some .int) 3 := ⟨w_225, w_226, w_18, w_227, by decide +kernel⟩
theorem cm_L_same : CS yL_same cL_same 7 (some .boolean) 3 := ⟨w_867, w_17, w_868, by decide +kernel⟩
theorem cm_X5_dive : CV RX5 yX5_dive cX5_dive 3 (some .int) 2 := ⟨w_137, w_138, w_18, w_139, by decide +kernel⟩
theorem cm_X5_open : CV RX5 yX5_open cX5_open 2 (some .int) 1 := ⟨w_145, w_146, w_18, w_147, by decide +kernel⟩
theorem cm_X5_put : CV RX5 yX5_put cX5_put 4 (some .int) 2 := ⟨w_69, w_70, w_18, w_71, by decide +kernel⟩
theorem cm_L_dive : CS yL_dive cL_dive 4 (some .boolean) 4 := ⟨w_828, w_17, w_829, by decide +kernel⟩
theorem cm_L_open : CS yL_open cL_open 3 (some .boolean) 2 := ⟨w_855, w_17, w_856, by decide +kernel⟩
theorem cm_X5_hour : CV RX5 yX5_hour cX5_hour 1 (some .int) 0 := ⟨w_158, w_159, w_18, w_160, by decide +kernel⟩
theorem cm_L_pass : CS yL_pass cL_pass 3 (some .int) 2 := ⟨w_858, w_17, w_859, by decide +kernel⟩
theorem cm_X5_feed : CV RX5 yX5_feed cX5_feed 7 (some .int) 6 := ⟨w_806, w_807, w_18, w_808, by decide +kernel⟩
