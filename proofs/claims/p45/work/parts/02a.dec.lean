theorem dX0_reach_0 : decode cX0_reach 0 = .ok (.iload_n 0, 1) := by decide +kernel
theorem dX0_reach_1 : decode cX0_reach 1 = .ok (.tableswitch 59 1 5 #[35, 41, 46, 54, 56], 35) := by decide +kernel
theorem dX0_reach_36 : decode cX0_reach 36 = .ok (.iload_n 1, 1) := by decide +kernel
theorem dX0_reach_37 : decode cX0_reach 37 = .ok (.iconst 2, 1) := by decide +kernel
theorem dX0_reach_38 : decode cX0_reach 38 = .ok (.idiv, 1) := by decide +kernel
theorem dX0_reach_39 : decode cX0_reach 39 = .ok (.iload_n 2, 1) := by decide +kernel
theorem dX0_reach_40 : decode cX0_reach 40 = .ok (.iadd, 1) := by decide +kernel
theorem dX0_reach_41 : decode cX0_reach 41 = .ok (.ireturn, 1) := by decide +kernel
theorem dX0_reach_42 : decode cX0_reach 42 = .ok (.iload_n 1, 1) := by decide +kernel
theorem dX0_reach_43 : decode cX0_reach 43 = .ok (.bipush 10, 2) := by decide +kernel
theorem dX0_reach_45 : decode cX0_reach 45 = .ok (.iadd, 1) := by decide +kernel
theorem dX0_reach_46 : decode cX0_reach 46 = .ok (.ireturn, 1) := by decide +kernel
theorem dX0_reach_47 : decode cX0_reach 47 = .ok (.iload_n 1, 1) := by decide +kernel
theorem dX0_reach_48 : decode cX0_reach 48 = .ok (.iconst 2, 1) := by decide +kernel
theorem dX0_reach_49 : decode cX0_reach 49 = .ok (.idiv, 1) := by decide +kernel
theorem dX0_reach_50 : decode cX0_reach 50 = .ok (.iload_n 2, 1) := by decide +kernel
theorem dX0_reach_51 : decode cX0_reach 51 = .ok (.iadd, 1) := by decide +kernel
theorem dX0_reach_52 : decode cX0_reach 52 = .ok (.iload_n 2, 1) := by decide +kernel
theorem dX0_reach_53 : decode cX0_reach 53 = .ok (.iadd, 1) := by decide +kernel
theorem dX0_reach_54 : decode cX0_reach 54 = .ok (.ireturn, 1) := by decide +kernel
theorem dX0_reach_55 : decode cX0_reach 55 = .ok (.iload_n 2, 1) := by decide +kernel
theorem dX0_reach_56 : decode cX0_reach 56 = .ok (.ireturn, 1) := by decide +kernel
theorem dX0_reach_57 : decode cX0_reach 57 = .ok (.bipush 99, 2) := by decide +kernel
theorem dX0_reach_59 : decode cX0_reach 59 = .ok (.ireturn, 1) := by decide +kernel
theorem dX0_reach_60 : decode cX0_reach 60 = .ok (.iload_n 1, 1) := by decide +kernel
theorem dX0_reach_61 : decode cX0_reach 61 = .ok (.ireturn, 1) := by decide +kernel
theorem dX0_cost_0 : decode cX0_cost 0 = .ok (.iload_n 0, 1) := by decide +kernel
theorem dX0_cost_1 : decode cX0_cost 1 = .ok (.tableswitch 54 2 4 #[27, 41, 27], 27) := by decide +kernel
theorem dX0_cost_28 : decode cX0_cost 28 = .ok (.iload_n 3, 1) := by decide +kernel
theorem dX0_cost_29 : decode cX0_cost 29 = .ok (.ifCond .ne 9, 3) := by decide +kernel
theorem dX0_cost_32 : decode cX0_cost 32 = .ok (.iload_n 1, 1) := by decide +kernel
theorem dX0_cost_33 : decode cX0_cost 33 = .ok (.iconst 2, 1) := by decide +kernel
theorem dX0_cost_34 : decode cX0_cost 34 = .ok (.idiv, 1) := by decide +kernel
theorem dX0_cost_35 : decode cX0_cost 35 = .ok (.goto 6, 3) := by decide +kernel
theorem dX0_cost_38 : decode cX0_cost 38 = .ok (.iload_n 1, 1) := by decide +kernel
theorem dX0_cost_39 : decode cX0_cost 39 = .ok (.iload_n 2, 1) := by decide +kernel
theorem dX0_cost_40 : decode cX0_cost 40 = .ok (.iadd, 1) := by decide +kernel
theorem dX0_cost_41 : decode cX0_cost 41 = .ok (.ireturn, 1) := by decide +kernel
theorem dX0_cost_42 : decode cX0_cost 42 = .ok (.iload 4, 2) := by decide +kernel
theorem dX0_cost_44 : decode cX0_cost 44 = .ok (.iconst 4, 1) := by decide +kernel
theorem dX0_cost_45 : decode cX0_cost 45 = .ok (.irem, 1) := by decide +kernel
theorem dX0_cost_46 : decode cX0_cost 46 = .ok (.ifCond .ne 7, 3) := by decide +kernel
theorem dX0_cost_49 : decode cX0_cost 49 = .ok (.iconst 0, 1) := by decide +kernel
theorem dX0_cost_50 : decode cX0_cost 50 = .ok (.goto 4, 3) := by decide +kernel
theorem dX0_cost_53 : decode cX0_cost 53 = .ok (.iload_n 1, 1) := by decide +kernel
theorem dX0_cost_54 : decode cX0_cost 54 = .ok (.ireturn, 1) := by decide +kernel
theorem dX0_cost_55 : decode cX0_cost 55 = .ok (.iload_n 1, 1) := by decide +kernel
theorem dX0_cost_56 : decode cX0_cost 56 = .ok (.ireturn, 1) := by decide +kernel
theorem dX0_breathing_0 : decode cX0_breathing 0 = .ok (.iload_n 0, 1) := by decide +kernel
theorem dX0_breathing_1 : decode cX0_breathing 1 = .ok (.tableswitch 44 1 5 #[35, 44, 35, 38, 42], 35) := by decide +kernel
theorem dX0_breathing_36 : decode cX0_breathing 36 = .ok (.bipush 10, 2) := by decide +kernel
theorem dX0_breathing_38 : decode cX0_breathing 38 = .ok (.ireturn, 1) := by decide +kernel
theorem dX0_breathing_39 : decode cX0_breathing 39 = .ok (.iconst 5, 1) := by decide +kernel
theorem dX0_breathing_40 : decode cX0_breathing 40 = .ok (.iload_n 1, 1) := by decide +kernel
theorem dX0_breathing_41 : decode cX0_breathing 41 = .ok (.iadd, 1) := by decide +kernel
theorem dX0_breathing_42 : decode cX0_breathing 42 = .ok (.ireturn, 1) := by decide +kernel
theorem dX0_breathing_43 : decode cX0_breathing 43 = .ok (.iconst 0, 1) := by decide +kernel
theorem dX0_breathing_44 : decode cX0_breathing 44 = .ok (.ireturn, 1) := by decide +kernel
theorem dX0_breathing_45 : decode cX0_breathing 45 = .ok (.iconst 5, 1) := by decide +kernel
theorem dX0_breathing_46 : decode cX0_breathing 46 = .ok (.ireturn, 1) := by decide +kernel
theorem dX1_init_0 : decode cX1_init 0 = .ok (.aload_n 0, 1) := by decide +kernel
theorem dX1_init_1 : decode cX1_init 1 = .ok (.invokespecial 3, 3) := by decide +kernel
theorem dX1_init_4 : decode cX1_init 4 = .ok (.aload_n 0, 1) := by decide +kernel
theorem dX1_init_5 : decode cX1_init 5 = .ok (.bipush 6, 2) := by decide +kernel
theorem dX1_init_7 : decode cX1_init 7 = .ok (.newarray .int, 2) := by decide +kernel
theorem dX1_init_9 : decode cX1_init 9 = .ok (.putfield 9, 3) := by decide +kernel
theorem dX1_init_12 : decode cX1_init 12 = .ok (.aload_n 0, 1) := by decide +kernel
theorem dX1_init_13 : decode cX1_init 13 = .ok (.bipush 12, 2) := by decide +kernel
theorem dX1_init_15 : decode cX1_init 15 = .ok (.newarray .int, 2) := by decide +kernel
theorem dX1_init_17 : decode cX1_init 17 = .ok (.putfield 15, 3) := by decide +kernel
theorem dX1_init_20 : decode cX1_init 20 = .ok (.aload_n 0, 1) := by decide +kernel
theorem dX1_init_21 : decode cX1_init 21 = .ok (.bipush 12, 2) := by decide +kernel
theorem dX1_init_23 : decode cX1_init 23 = .ok (.newarray .int, 2) := by decide +kernel
theorem dX1_init_25 : decode cX1_init 25 = .ok (.putfield 18, 3) := by decide +kernel
theorem dX1_init_28 : decode cX1_init 28 = .ok (.aload_n 0, 1) := by decide +kernel
theorem dX1_init_29 : decode cX1_init 29 = .ok (.bipush 12, 2) := by decide +kernel
theorem dX1_init_31 : decode cX1_init 31 = .ok (.newarray .int, 2) := by decide +kernel
theorem dX1_init_33 : decode cX1_init 33 = .ok (.putfield 21, 3) := by decide +kernel
theorem dX1_init_36 : decode cX1_init 36 = .ok (.aload_n 0, 1) := by decide +kernel
theorem dX1_init_37 : decode cX1_init 37 = .ok (.bipush 12, 2) := by decide +kernel
theorem dX1_init_39 : decode cX1_init 39 = .ok (.newarray .int, 2) := by decide +kernel
theorem dX1_init_41 : decode cX1_init 41 = .ok (.putfield 24, 3) := by decide +kernel
theorem dX1_init_44 : decode cX1_init 44 = .ok (.aload_n 0, 1) := by decide +kernel
theorem dX1_init_45 : decode cX1_init 45 = .ok (.bipush 6, 2) := by decide +kernel
theorem dX1_init_47 : decode cX1_init 47 = .ok (.newarray .int, 2) := by decide +kernel
theorem dX1_init_49 : decode cX1_init 49 = .ok (.putfield 27, 3) := by decide +kernel
theorem dX1_init_52 : decode cX1_init 52 = .ok (.aload_n 0, 1) := by decide +kernel
theorem dX1_init_53 : decode cX1_init 53 = .ok (.bipush 6, 2) := by decide +kernel
theorem dX1_init_55 : decode cX1_init 55 = .ok (.newarray .int, 2) := by decide +kernel
theorem dX1_init_57 : decode cX1_init 57 = .ok (.putfield 30, 3) := by decide +kernel
theorem dX1_init_60 : decode cX1_init 60 = .ok (.aload_n 0, 1) := by decide +kernel
theorem dX1_init_61 : decode cX1_init 61 = .ok (.bipush 6, 2) := by decide +kernel
theorem dX1_init_63 : decode cX1_init 63 = .ok (.newarray .int, 2) := by decide +kernel
theorem dX1_init_65 : decode cX1_init 65 = .ok (.putfield 33, 3) := by decide +kernel
theorem dX1_init_68 : decode cX1_init 68 = .ok (.aload_n 0, 1) := by decide +kernel
theorem dX1_init_69 : decode cX1_init 69 = .ok (.bipush 6, 2) := by decide +kernel
theorem dX1_init_71 : decode cX1_init 71 = .ok (.newarray .int, 2) := by decide +kernel
theorem dX1_init_73 : decode cX1_init 73 = .ok (.putfield 36, 3) := by decide +kernel
theorem dX1_init_76 : decode cX1_init 76 = .ok (.aload_n 0, 1) := by decide +kernel
theorem dX1_init_77 : decode cX1_init 77 = .ok (.aload_n 1, 1) := by decide +kernel
theorem dX1_init_78 : decode cX1_init 78 = .ok (.putfield 39, 3) := by decide +kernel
theorem dX1_init_81 : decode cX1_init 81 = .ok (.iconst 0, 1) := by decide +kernel
theorem dX1_init_82 : decode cX1_init 82 = .ok (.istore_n 2, 1) := by decide +kernel
theorem dX1_init_83 : decode cX1_init 83 = .ok (.iload_n 2, 1) := by decide +kernel
theorem dX1_init_84 : decode cX1_init 84 = .ok (.bipush 12, 2) := by decide +kernel
theorem dX1_init_86 : decode cX1_init 86 = .ok (.if_icmp .ge 36, 3) := by decide +kernel
theorem dX1_init_89 : decode cX1_init 89 = .ok (.aload_n 0, 1) := by decide +kernel
theorem dX1_init_90 : decode cX1_init 90 = .ok (.getfield 15, 3) := by decide +kernel
theorem dX1_init_93 : decode cX1_init 93 = .ok (.iload_n 2, 1) := by decide +kernel
theorem dX1_init_94 : decode cX1_init 94 = .ok (.iload_n 2, 1) := by decide +kernel
theorem dX1_init_95 : decode cX1_init 95 = .ok (.bipush 6, 2) := by decide +kernel
theorem dX1_init_97 : decode cX1_init 97 = .ok (.irem, 1) := by decide +kernel
theorem dX1_init_98 : decode cX1_init 98 = .ok (.iastore, 1) := by decide +kernel
theorem dX1_init_99 : decode cX1_init 99 = .ok (.aload_n 0, 1) := by decide +kernel
theorem dX1_init_100 : decode cX1_init 100 = .ok (.getfield 18, 3) := by decide +kernel
theorem dX1_init_103 : decode cX1_init 103 = .ok (.iload_n 2, 1) := by decide +kernel
theorem dX1_init_104 : decode cX1_init 104 = .ok (.bipush 20, 2) := by decide +kernel
theorem dX1_init_106 : decode cX1_init 106 = .ok (.iastore, 1) := by decide +kernel
theorem dX1_init_107 : decode cX1_init 107 = .ok (.aload_n 0, 1) := by decide +kernel
theorem dX1_init_108 : decode cX1_init 108 = .ok (.getfield 21, 3) := by decide +kernel
theorem dX1_init_111 : decode cX1_init 111 = .ok (.iload_n 2, 1) := by decide +kernel
theorem dX1_init_112 : decode cX1_init 112 = .ok (.iconst 3, 1) := by decide +kernel
theorem dX1_init_113 : decode cX1_init 113 = .ok (.iload_n 2, 1) := by decide +kernel
theorem dX1_init_114 : decode cX1_init 114 = .ok (.imul, 1) := by decide +kernel
theorem dX1_init_115 : decode cX1_init 115 = .ok (.iastore, 1) := by decide +kernel
theorem dX1_init_116 : decode cX1_init 116 = .ok (.iinc 2 1, 3) := by decide +kernel
theorem dX1_init_119 : decode cX1_init 119 = .ok (.goto (-36), 3) := by decide +kernel
theorem dX1_init_122 : decode cX1_init 122 = .ok (.return_, 1) := by decide +kernel
theorem dX1_becomes_0 : decode cX1_becomes 0 = .ok (.aload_n 1, 1) := by decide +kernel
theorem dX1_becomes_1 : decode cX1_becomes 1 = .ok (.getfield 9, 3) := by decide +kernel
theorem dX1_becomes_4 : decode cX1_becomes 4 = .ok (.iconst 0, 1) := by decide +kernel
theorem dX1_becomes_5 : decode cX1_becomes 5 = .ok (.aload_n 0, 1) := by decide +kernel
theorem dX1_becomes_6 : decode cX1_becomes 6 = .ok (.getfield 9, 3) := by decide +kernel
theorem dX1_becomes_9 : decode cX1_becomes 9 = .ok (.iconst 0, 1) := by decide +kernel
theorem dX1_becomes_10 : decode cX1_becomes 10 = .ok (.bipush 6, 2) := by decide +kernel
theorem dX1_becomes_12 : decode cX1_becomes 12 = .ok (.invokestatic 43, 3) := by decide +kernel
theorem dX1_becomes_15 : decode cX1_becomes 15 = .ok (.aload_n 1, 1) := by decide +kernel
theorem dX1_becomes_16 : decode cX1_becomes 16 = .ok (.getfield 15, 3) := by decide +kernel
theorem dX1_becomes_19 : decode cX1_becomes 19 = .ok (.iconst 0, 1) := by decide +kernel
theorem dX1_becomes_20 : decode cX1_becomes 20 = .ok (.aload_n 0, 1) := by decide +kernel
theorem dX1_becomes_21 : decode cX1_becomes 21 = .ok (.getfield 15, 3) := by decide +kernel
theorem dX1_becomes_24 : decode cX1_becomes 24 = .ok (.iconst 0, 1) := by decide +kernel
theorem dX1_becomes_25 : decode cX1_becomes 25 = .ok (.bipush 12, 2) := by decide +kernel
theorem dX1_becomes_27 : decode cX1_becomes 27 = .ok (.invokestatic 43, 3) := by decide +kernel
theorem dX1_becomes_30 : decode cX1_becomes 30 = .ok (.aload_n 1, 1) := by decide +kernel
theorem dX1_becomes_31 : decode cX1_becomes 31 = .ok (.getfield 18, 3) := by decide +kernel
theorem dX1_becomes_34 : decode cX1_becomes 34 = .ok (.iconst 0, 1) := by decide +kernel
theorem dX1_becomes_35 : decode cX1_becomes 35 = .ok (.aload_n 0, 1) := by decide +kernel
theorem dX1_becomes_36 : decode cX1_becomes 36 = .ok (.getfield 18, 3) := by decide +kernel
theorem dX1_becomes_39 : decode cX1_becomes 39 = .ok (.iconst 0, 1) := by decide +kernel
theorem dX1_becomes_40 : decode cX1_becomes 40 = .ok (.bipush 12, 2) := by decide +kernel
theorem dX1_becomes_42 : decode cX1_becomes 42 = .ok (.invokestatic 43, 3) := by decide +kernel
theorem dX1_becomes_45 : decode cX1_becomes 45 = .ok (.aload_n 1, 1) := by decide +kernel
theorem dX1_becomes_46 : decode cX1_becomes 46 = .ok (.getfield 21, 3) := by decide +kernel
theorem dX1_becomes_49 : decode cX1_becomes 49 = .ok (.iconst 0, 1) := by decide +kernel
theorem dX1_becomes_50 : decode cX1_becomes 50 = .ok (.aload_n 0, 1) := by decide +kernel
theorem dX1_becomes_51 : decode cX1_becomes 51 = .ok (.getfield 21, 3) := by decide +kernel
theorem dX1_becomes_54 : decode cX1_becomes 54 = .ok (.iconst 0, 1) := by decide +kernel
theorem dX1_becomes_55 : decode cX1_becomes 55 = .ok (.bipush 12, 2) := by decide +kernel
theorem dX1_becomes_57 : decode cX1_becomes 57 = .ok (.invokestatic 43, 3) := by decide +kernel
theorem dX1_becomes_60 : decode cX1_becomes 60 = .ok (.aload_n 1, 1) := by decide +kernel
theorem dX1_becomes_61 : decode cX1_becomes 61 = .ok (.getfield 24, 3) := by decide +kernel
theorem dX1_becomes_64 : decode cX1_becomes 64 = .ok (.iconst 0, 1) := by decide +kernel
theorem dX1_becomes_65 : decode cX1_becomes 65 = .ok (.aload_n 0, 1) := by decide +kernel
theorem dX1_becomes_66 : decode cX1_becomes 66 = .ok (.getfield 24, 3) := by decide +kernel
theorem dX1_becomes_69 : decode cX1_becomes 69 = .ok (.iconst 0, 1) := by decide +kernel
theorem dX1_becomes_70 : decode cX1_becomes 70 = .ok (.bipush 12, 2) := by decide +kernel
theorem dX1_becomes_72 : decode cX1_becomes 72 = .ok (.invokestatic 43, 3) := by decide +kernel
theorem dX1_becomes_75 : decode cX1_becomes 75 = .ok (.aload_n 1, 1) := by decide +kernel
theorem dX1_becomes_76 : decode cX1_becomes 76 = .ok (.getfield 27, 3) := by decide +kernel
theorem dX1_becomes_79 : decode cX1_becomes 79 = .ok (.iconst 0, 1) := by decide +kernel
theorem dX1_becomes_80 : decode cX1_becomes 80 = .ok (.aload_n 0, 1) := by decide +kernel
theorem dX1_becomes_81 : decode cX1_becomes 81 = .ok (.getfield 27, 3) := by decide +kernel
theorem dX1_becomes_84 : decode cX1_becomes 84 = .ok (.iconst 0, 1) := by decide +kernel
theorem dX1_becomes_85 : decode cX1_becomes 85 = .ok (.bipush 6, 2) := by decide +kernel
theorem dX1_becomes_87 : decode cX1_becomes 87 = .ok (.invokestatic 43, 3) := by decide +kernel
theorem dX1_becomes_90 : decode cX1_becomes 90 = .ok (.aload_n 1, 1) := by decide +kernel
theorem dX1_becomes_91 : decode cX1_becomes 91 = .ok (.getfield 30, 3) := by decide +kernel
theorem dX1_becomes_94 : decode cX1_becomes 94 = .ok (.iconst 0, 1) := by decide +kernel
theorem dX1_becomes_95 : decode cX1_becomes 95 = .ok (.aload_n 0, 1) := by decide +kernel
theorem dX1_becomes_96 : decode cX1_becomes 96 = .ok (.getfield 30, 3) := by decide +kernel
theorem dX1_becomes_99 : decode cX1_becomes 99 = .ok (.iconst 0, 1) := by decide +kernel
theorem dX1_becomes_100 : decode cX1_becomes 100 = .ok (.bipush 6, 2) := by decide +kernel
theorem dX1_becomes_102 : decode cX1_becomes 102 = .ok (.invokestatic 43, 3) := by decide +kernel
theorem dX1_becomes_105 : decode cX1_becomes 105 = .ok (.aload_n 1, 1) := by decide +kernel
theorem dX1_becomes_106 : decode cX1_becomes 106 = .ok (.getfield 33, 3) := by decide +kernel
theorem dX1_becomes_109 : decode cX1_becomes 109 = .ok (.iconst 0, 1) := by decide +kernel
theorem dX1_becomes_110 : decode cX1_becomes 110 = .ok (.aload_n 0, 1) := by decide +kernel
theorem dX1_becomes_111 : decode cX1_becomes 111 = .ok (.getfield 33, 3) := by decide +kernel
theorem dX1_becomes_114 : decode cX1_becomes 114 = .ok (.iconst 0, 1) := by decide +kernel
theorem dX1_becomes_115 : decode cX1_becomes 115 = .ok (.bipush 6, 2) := by decide +kernel
theorem dX1_becomes_117 : decode cX1_becomes 117 = .ok (.invokestatic 43, 3) := by decide +kernel
theorem dX1_becomes_120 : decode cX1_becomes 120 = .ok (.aload_n 1, 1) := by decide +kernel
theorem dX1_becomes_121 : decode cX1_becomes 121 = .ok (.getfield 36, 3) := by decide +kernel
theorem dX1_becomes_124 : decode cX1_becomes 124 = .ok (.iconst 0, 1) := by decide +kernel
theorem dX1_becomes_125 : decode cX1_becomes 125 = .ok (.aload_n 0, 1) := by decide +kernel
theorem dX1_becomes_126 : decode cX1_becomes 126 = .ok (.getfield 36, 3) := by decide +kernel
theorem dX1_becomes_129 : decode cX1_becomes 129 = .ok (.iconst 0, 1) := by decide +kernel
theorem dX1_becomes_130 : decode cX1_becomes 130 = .ok (.bipush 6, 2) := by decide +kernel
theorem dX1_becomes_132 : decode cX1_becomes 132 = .ok (.invokestatic 43, 3) := by decide +kernel
theorem dX1_becomes_135 : decode cX1_becomes 135 = .ok (.aload_n 0, 1) := by decide +kernel
theorem dX1_becomes_136 : decode cX1_becomes 136 = .ok (.aload_n 1, 1) := by decide +kernel
theorem dX1_becomes_137 : decode cX1_becomes 137 = .ok (.getfield 49, 3) := by decide +kernel
theorem dX1_becomes_140 : decode cX1_becomes 140 = .ok (.putfield 49, 3) := by decide +kernel
theorem dX1_becomes_143 : decode cX1_becomes 143 = .ok (.aload_n 0, 1) := by decide +kernel
theorem dX1_becomes_144 : decode cX1_becomes 144 = .ok (.aload_n 1, 1) := by decide +kernel
theorem dX1_becomes_145 : decode cX1_becomes 145 = .ok (.getfield 53, 3) := by decide +kernel
theorem dX1_becomes_148 : decode cX1_becomes 148 = .ok (.putfield 53, 3) := by decide +kernel
theorem dX1_becomes_151 : decode cX1_becomes 151 = .ok (.aload_n 0, 1) := by decide +kernel
theorem dX1_becomes_152 : decode cX1_becomes 152 = .ok (.aload_n 1, 1) := by decide +kernel
theorem dX1_becomes_153 : decode cX1_becomes 153 = .ok (.getfield 39, 3) := by decide +kernel
theorem dX1_becomes_156 : decode cX1_becomes 156 = .ok (.putfield 39, 3) := by decide +kernel
theorem dX1_becomes_159 : decode cX1_becomes 159 = .ok (.return_, 1) := by decide +kernel
theorem dX1_caskRow_0 : decode cX1_caskRow 0 = .ok (.iload_n 1, 1) := by decide +kernel
theorem dX1_caskRow_1 : decode cX1_caskRow 1 = .ok (.tableswitch 42 0 2 #[27, 32, 37], 27) := by decide +kernel
theorem dX1_caskRow_28 : decode cX1_caskRow 28 = .ok (.aload_n 0, 1) := by decide +kernel
theorem dX1_caskRow_29 : decode cX1_caskRow 29 = .ok (.getfield 15, 3) := by decide +kernel
theorem dX1_caskRow_32 : decode cX1_caskRow 32 = .ok (.areturn, 1) := by decide +kernel
theorem dX1_caskRow_33 : decode cX1_caskRow 33 = .ok (.aload_n 0, 1) := by decide +kernel
theorem dX1_caskRow_34 : decode cX1_caskRow 34 = .ok (.getfield 18, 3) := by decide +kernel
theorem dX1_caskRow_37 : decode cX1_caskRow 37 = .ok (.areturn, 1) := by decide +kernel
theorem dX1_caskRow_38 : decode cX1_caskRow 38 = .ok (.aload_n 0, 1) := by decide +kernel
theorem dX1_caskRow_39 : decode cX1_caskRow 39 = .ok (.getfield 21, 3) := by decide +kernel
theorem dX1_caskRow_42 : decode cX1_caskRow 42 = .ok (.areturn, 1) := by decide +kernel
theorem dX1_caskRow_43 : decode cX1_caskRow 43 = .ok (.aload_n 0, 1) := by decide +kernel
theorem dX1_caskRow_44 : decode cX1_caskRow 44 = .ok (.getfield 24, 3) := by decide +kernel
theorem dX1_caskRow_47 : decode cX1_caskRow 47 = .ok (.areturn, 1) := by decide +kernel
theorem dX1_casksAt_0 : decode cX1_casksAt 0 = .ok (.iconst 0, 1) := by decide +kernel
theorem dX1_casksAt_1 : decode cX1_casksAt 1 = .ok (.istore_n 2, 1) := by decide +kernel
theorem dX1_casksAt_2 : decode cX1_casksAt 2 = .ok (.iconst 0, 1) := by decide +kernel
theorem dX1_casksAt_3 : decode cX1_casksAt 3 = .ok (.istore_n 3, 1) := by decide +kernel
theorem dX1_casksAt_4 : decode cX1_casksAt 4 = .ok (.iload_n 3, 1) := by decide +kernel
theorem dX1_casksAt_5 : decode cX1_casksAt 5 = .ok (.bipush 12, 2) := by decide +kernel
theorem dX1_casksAt_7 : decode cX1_casksAt 7 = .ok (.if_icmp .ge 25, 3) := by decide +kernel
theorem dX1_casksAt_10 : decode cX1_casksAt 10 = .ok (.aload_n 0, 1) := by decide +kernel
theorem dX1_casksAt_11 : decode cX1_casksAt 11 = .ok (.getfield 24, 3) := by decide +kernel
theorem dX1_casksAt_14 : decode cX1_casksAt 14 = .ok (.iload_n 3, 1) := by decide +kernel
theorem dX1_casksAt_15 : decode cX1_casksAt 15 = .ok (.iaload, 1) := by decide +kernel
theorem dX1_casksAt_16 : decode cX1_casksAt 16 = .ok (.iload_n 1, 1) := by decide +kernel
theorem dX1_casksAt_17 : decode cX1_casksAt 17 = .ok (.if_icmp .ne 9, 3) := by decide +kernel
theorem dX1_casksAt_20 : decode cX1_casksAt 20 = .ok (.iload_n 2, 1) := by decide +kernel
theorem dX1_casksAt_21 : decode cX1_casksAt 21 = .ok (.iconst 1, 1) := by decide +kernel
theorem dX1_casksAt_22 : decode cX1_casksAt 22 = .ok (.iload_n 3, 1) := by decide +kernel
theorem dX1_casksAt_23 : decode cX1_casksAt 23 = .ok (.ishl, 1) := by decide +kernel
theorem dX1_casksAt_24 : decode cX1_casksAt 24 = .ok (.ior, 1) := by decide +kernel
theorem dX1_casksAt_25 : decode cX1_casksAt 25 = .ok (.istore_n 2, 1) := by decide +kernel
theorem dX1_casksAt_26 : decode cX1_casksAt 26 = .ok (.iinc 3 1, 3) := by decide +kernel
theorem dX1_casksAt_29 : decode cX1_casksAt 29 = .ok (.goto (-25), 3) := by decide +kernel
theorem dX1_casksAt_32 : decode cX1_casksAt 32 = .ok (.iload_n 2, 1) := by decide +kernel
theorem dX1_casksAt_33 : decode cX1_casksAt 33 = .ok (.ireturn, 1) := by decide +kernel
theorem dX1_sum_0 : decode cX1_sum 0 = .ok (.iconst 0, 1) := by decide +kernel
theorem dX1_sum_1 : decode cX1_sum 1 = .ok (.istore_n 2, 1) := by decide +kernel
theorem dX1_sum_2 : decode cX1_sum 2 = .ok (.iconst 0, 1) := by decide +kernel
theorem dX1_sum_3 : decode cX1_sum 3 = .ok (.istore_n 3, 1) := by decide +kernel
theorem dX1_sum_4 : decode cX1_sum 4 = .ok (.iload_n 3, 1) := by decide +kernel
theorem dX1_sum_5 : decode cX1_sum 5 = .ok (.aload_n 0, 1) := by decide +kernel
theorem dX1_sum_6 : decode cX1_sum 6 = .ok (.arraylength, 1) := by decide +kernel
theorem dX1_sum_7 : decode cX1_sum 7 = .ok (.if_icmp .ge 23, 3) := by decide +kernel
theorem dX1_sum_10 : decode cX1_sum 10 = .ok (.iload_n 1, 1) := by decide +kernel
theorem dX1_sum_11 : decode cX1_sum 11 = .ok (.iload_n 3, 1) := by decide +kernel
theorem dX1_sum_12 : decode cX1_sum 12 = .ok (.ishr, 1) := by decide +kernel
theorem dX1_sum_13 : decode cX1_sum 13 = .ok (.iconst 1, 1) := by decide +kernel
theorem dX1_sum_14 : decode cX1_sum 14 = .ok (.iand, 1) := by decide +kernel
theorem dX1_sum_15 : decode cX1_sum 15 = .ok (.ifCond .eq 9, 3) := by decide +kernel
theorem dX1_sum_18 : decode cX1_sum 18 = .ok (.iload_n 2, 1) := by decide +kernel
theorem dX1_sum_19 : decode cX1_sum 19 = .ok (.aload_n 0, 1) := by decide +kernel
theorem dX1_sum_20 : decode cX1_sum 20 = .ok (.iload_n 3, 1) := by decide +kernel
theorem dX1_sum_21 : decode cX1_sum 21 = .ok (.iaload, 1) := by decide +kernel
theorem dX1_sum_22 : decode cX1_sum 22 = .ok (.iadd, 1) := by decide +kernel
theorem dX1_sum_23 : decode cX1_sum 23 = .ok (.istore_n 2, 1) := by decide +kernel
theorem dX1_sum_24 : decode cX1_sum 24 = .ok (.iinc 3 1, 3) := by decide +kernel
theorem dX1_sum_27 : decode cX1_sum 27 = .ok (.goto (-23), 3) := by decide +kernel
theorem dX1_sum_30 : decode cX1_sum 30 = .ok (.iload_n 2, 1) := by decide +kernel
theorem dX1_sum_31 : decode cX1_sum 31 = .ok (.ireturn, 1) := by decide +kernel
theorem dX1_comes_0 : decode cX1_comes 0 = .ok (.aload_n 0, 1) := by decide +kernel
theorem dX1_comes_1 : decode cX1_comes 1 = .ok (.getfield 49, 3) := by decide +kernel
theorem dX1_comes_4 : decode cX1_comes 4 = .ok (.istore 4, 2) := by decide +kernel
theorem dX1_comes_6 : decode cX1_comes 6 = .ok (.iload 4, 2) := by decide +kernel
theorem dX1_comes_8 : decode cX1_comes 8 = .ok (.bipush 6, 2) := by decide +kernel
theorem dX1_comes_10 : decode cX1_comes 10 = .ok (.if_icmp .lt 6, 3) := by decide +kernel
theorem dX1_comes_13 : decode cX1_comes 13 = .ok (.bipush (-4), 2) := by decide +kernel
theorem dX1_comes_15 : decode cX1_comes 15 = .ok (.ireturn, 1) := by decide +kernel
theorem dX1_comes_16 : decode cX1_comes 16 = .ok (.aload_n 0, 1) := by decide +kernel
theorem dX1_comes_17 : decode cX1_comes 17 = .ok (.getfield 27, 3) := by decide +kernel
theorem dX1_comes_20 : decode cX1_comes 20 = .ok (.iload 4, 2) := by decide +kernel
theorem dX1_comes_22 : decode cX1_comes 22 = .ok (.iload_n 1, 1) := by decide +kernel
theorem dX1_comes_23 : decode cX1_comes 23 = .ok (.iastore, 1) := by decide +kernel
theorem dX1_comes_24 : decode cX1_comes 24 = .ok (.aload_n 0, 1) := by decide +kernel
theorem dX1_comes_25 : decode cX1_comes 25 = .ok (.getfield 30, 3) := by decide +kernel
theorem dX1_comes_28 : decode cX1_comes 28 = .ok (.iload 4, 2) := by decide +kernel
theorem dX1_comes_30 : decode cX1_comes 30 = .ok (.iload_n 2, 1) := by decide +kernel
theorem dX1_comes_31 : decode cX1_comes 31 = .ok (.iastore, 1) := by decide +kernel
theorem dX1_comes_32 : decode cX1_comes 32 = .ok (.aload_n 0, 1) := by decide +kernel
theorem dX1_comes_33 : decode cX1_comes 33 = .ok (.getfield 33, 3) := by decide +kernel
theorem dX1_comes_36 : decode cX1_comes 36 = .ok (.iload 4, 2) := by decide +kernel
theorem dX1_comes_38 : decode cX1_comes 38 = .ok (.iload_n 3, 1) := by decide +kernel
theorem dX1_comes_39 : decode cX1_comes 39 = .ok (.iastore, 1) := by decide +kernel
theorem dX1_comes_40 : decode cX1_comes 40 = .ok (.aload_n 0, 1) := by decide +kernel
theorem dX1_comes_41 : decode cX1_comes 41 = .ok (.getfield 36, 3) := by decide +kernel
theorem dX1_comes_44 : decode cX1_comes 44 = .ok (.iload 4, 2) := by decide +kernel
theorem dX1_comes_46 : decode cX1_comes 46 = .ok (.iconst 0, 1) := by decide +kernel
theorem dX1_comes_47 : decode cX1_comes 47 = .ok (.iastore, 1) := by decide +kernel
theorem dX1_comes_48 : decode cX1_comes 48 = .ok (.aload_n 0, 1) := by decide +kernel
theorem dX1_comes_49 : decode cX1_comes 49 = .ok (.dup, 1) := by decide +kernel
theorem dX1_comes_50 : decode cX1_comes 50 = .ok (.getfield 49, 3) := by decide +kernel
theorem dX1_comes_53 : decode cX1_comes 53 = .ok (.iconst 1, 1) := by decide +kernel
theorem dX1_comes_54 : decode cX1_comes 54 = .ok (.iadd, 1) := by decide +kernel
theorem dX1_comes_55 : decode cX1_comes 55 = .ok (.putfield 49, 3) := by decide +kernel
theorem dX1_comes_58 : decode cX1_comes 58 = .ok (.iload 4, 2) := by decide +kernel
theorem dX1_comes_60 : decode cX1_comes 60 = .ok (.ireturn, 1) := by decide +kernel
theorem dX1_saidReach_0 : decode cX1_saidReach 0 = .ok (.aload_n 0, 1) := by decide +kernel
theorem dX1_saidReach_1 : decode cX1_saidReach 1 = .ok (.getfield 39, 3) := by decide +kernel
theorem dX1_saidReach_4 : decode cX1_saidReach 4 = .ok (.iconst 0, 1) := by decide +kernel
theorem dX1_saidReach_5 : decode cX1_saidReach 5 = .ok (.aload_n 0, 1) := by decide +kernel
theorem dX1_saidReach_6 : decode cX1_saidReach 6 = .ok (.getfield 33, 3) := by decide +kernel
theorem dX1_saidReach_9 : decode cX1_saidReach 9 = .ok (.iload_n 1, 1) := by decide +kernel
theorem dX1_saidReach_10 : decode cX1_saidReach 10 = .ok (.iaload, 1) := by decide +kernel
theorem dX1_saidReach_11 : decode cX1_saidReach 11 = .ok (.aload_n 0, 1) := by decide +kernel
theorem dX1_saidReach_12 : decode cX1_saidReach 12 = .ok (.getfield 21, 3) := by decide +kernel
theorem dX1_saidReach_15 : decode cX1_saidReach 15 = .ok (.iload_n 2, 1) := by decide +kernel
theorem dX1_saidReach_16 : decode cX1_saidReach 16 = .ok (.iaload, 1) := by decide +kernel
theorem dX1_saidReach_17 : decode cX1_saidReach 17 = .ok (.aload_n 0, 1) := by decide +kernel
theorem dX1_saidReach_18 : decode cX1_saidReach 18 = .ok (.getfield 18, 3) := by decide +kernel
theorem dX1_saidReach_21 : decode cX1_saidReach 21 = .ok (.iload_n 2, 1) := by decide +kernel
theorem dX1_saidReach_22 : decode cX1_saidReach 22 = .ok (.iaload, 1) := by decide +kernel
theorem dX1_saidReach_23 : decode cX1_saidReach 23 = .ok (.aload_n 0, 1) := by decide +kernel
theorem dX1_saidReach_24 : decode cX1_saidReach 24 = .ok (.getfield 15, 3) := by decide +kernel
theorem dX1_saidReach_27 : decode cX1_saidReach 27 = .ok (.iload_n 2, 1) := by decide +kernel
theorem dX1_saidReach_28 : decode cX1_saidReach 28 = .ok (.iaload, 1) := by decide +kernel
theorem dX1_saidReach_29 : decode cX1_saidReach 29 = .ok (.aload_n 0, 1) := by decide +kernel
theorem dX1_saidReach_30 : decode cX1_saidReach 30 = .ok (.getfield 53, 3) := by decide +kernel
theorem dX1_saidReach_33 : decode cX1_saidReach 33 = .ok (.aload_n 0, 1) := by decide +kernel
theorem dX1_saidReach_34 : decode cX1_saidReach 34 = .ok (.getfield 30, 3) := by decide +kernel
theorem dX1_saidReach_37 : decode cX1_saidReach 37 = .ok (.iload_n 1, 1) := by decide +kernel
theorem dX1_saidReach_38 : decode cX1_saidReach 38 = .ok (.iaload, 1) := by decide +kernel
theorem dX1_saidReach_39 : decode cX1_saidReach 39 = .ok (.invokevirtual 58, 3) := by decide +kernel
theorem dX1_saidReach_42 : decode cX1_saidReach 42 = .ok (.ireturn, 1) := by decide +kernel
theorem dX1_saidCost_0 : decode cX1_saidCost 0 = .ok (.aload_n 0, 1) := by decide +kernel
theorem dX1_saidCost_1 : decode cX1_saidCost 1 = .ok (.getfield 39, 3) := by decide +kernel
theorem dX1_saidCost_4 : decode cX1_saidCost 4 = .ok (.iconst 1, 1) := by decide +kernel
theorem dX1_saidCost_5 : decode cX1_saidCost 5 = .ok (.aload_n 0, 1) := by decide +kernel
theorem dX1_saidCost_6 : decode cX1_saidCost 6 = .ok (.getfield 33, 3) := by decide +kernel
theorem dX1_saidCost_9 : decode cX1_saidCost 9 = .ok (.iload_n 1, 1) := by decide +kernel
theorem dX1_saidCost_10 : decode cX1_saidCost 10 = .ok (.iaload, 1) := by decide +kernel
theorem dX1_saidCost_11 : decode cX1_saidCost 11 = .ok (.aload_n 0, 1) := by decide +kernel
theorem dX1_saidCost_12 : decode cX1_saidCost 12 = .ok (.getfield 21, 3) := by decide +kernel
theorem dX1_saidCost_15 : decode cX1_saidCost 15 = .ok (.iload_n 2, 1) := by decide +kernel
theorem dX1_saidCost_16 : decode cX1_saidCost 16 = .ok (.iaload, 1) := by decide +kernel
theorem dX1_saidCost_17 : decode cX1_saidCost 17 = .ok (.aload_n 0, 1) := by decide +kernel
theorem dX1_saidCost_18 : decode cX1_saidCost 18 = .ok (.getfield 18, 3) := by decide +kernel
theorem dX1_saidCost_21 : decode cX1_saidCost 21 = .ok (.iload_n 2, 1) := by decide +kernel
theorem dX1_saidCost_22 : decode cX1_saidCost 22 = .ok (.iaload, 1) := by decide +kernel
theorem dX1_saidCost_23 : decode cX1_saidCost 23 = .ok (.aload_n 0, 1) := by decide +kernel
theorem dX1_saidCost_24 : decode cX1_saidCost 24 = .ok (.getfield 15, 3) := by decide +kernel
theorem dX1_saidCost_27 : decode cX1_saidCost 27 = .ok (.iload_n 2, 1) := by decide +kernel
theorem dX1_saidCost_28 : decode cX1_saidCost 28 = .ok (.iaload, 1) := by decide +kernel
theorem dX1_saidCost_29 : decode cX1_saidCost 29 = .ok (.aload_n 0, 1) := by decide +kernel
theorem dX1_saidCost_30 : decode cX1_saidCost 30 = .ok (.getfield 53, 3) := by decide +kernel
theorem dX1_saidCost_33 : decode cX1_saidCost 33 = .ok (.aload_n 0, 1) := by decide +kernel
theorem dX1_saidCost_34 : decode cX1_saidCost 34 = .ok (.getfield 30, 3) := by decide +kernel
theorem dX1_saidCost_37 : decode cX1_saidCost 37 = .ok (.iload_n 1, 1) := by decide +kernel
theorem dX1_saidCost_38 : decode cX1_saidCost 38 = .ok (.iaload, 1) := by decide +kernel
theorem dX1_saidCost_39 : decode cX1_saidCost 39 = .ok (.invokevirtual 58, 3) := by decide +kernel
theorem dX1_saidCost_42 : decode cX1_saidCost 42 = .ok (.ireturn, 1) := by decide +kernel
theorem dX1_reach_0 : decode cX1_reach 0 = .ok (.aload_n 0, 1) := by decide +kernel
theorem dX1_reach_1 : decode cX1_reach 1 = .ok (.getfield 27, 3) := by decide +kernel
theorem dX1_reach_4 : decode cX1_reach 4 = .ok (.iload_n 1, 1) := by decide +kernel
theorem dX1_reach_5 : decode cX1_reach 5 = .ok (.iaload, 1) := by decide +kernel
theorem dX1_reach_6 : decode cX1_reach 6 = .ok (.aload_n 0, 1) := by decide +kernel
theorem dX1_reach_7 : decode cX1_reach 7 = .ok (.iload_n 1, 1) := by decide +kernel
theorem dX1_reach_8 : decode cX1_reach 8 = .ok (.iload_n 2, 1) := by decide +kernel
theorem dX1_reach_9 : decode cX1_reach 9 = .ok (.invokevirtual 62, 3) := by decide +kernel
theorem dX1_reach_12 : decode cX1_reach 12 = .ok (.aload_n 0, 1) := by decide +kernel
theorem dX1_reach_13 : decode cX1_reach 13 = .ok (.getfield 30, 3) := by decide +kernel
theorem dX1_reach_16 : decode cX1_reach 16 = .ok (.iload_n 1, 1) := by decide +kernel
theorem dX1_reach_17 : decode cX1_reach 17 = .ok (.iaload, 1) := by decide +kernel
theorem dX1_reach_18 : decode cX1_reach 18 = .ok (.invokestatic 66, 3) := by decide +kernel
theorem dX1_reach_21 : decode cX1_reach 21 = .ok (.ireturn, 1) := by decide +kernel
theorem dX1_cost_0 : decode cX1_cost 0 = .ok (.aload_n 0, 1) := by decide +kernel
theorem dX1_cost_1 : decode cX1_cost 1 = .ok (.getfield 27, 3) := by decide +kernel
theorem dX1_cost_4 : decode cX1_cost 4 = .ok (.iload_n 1, 1) := by decide +kernel
theorem dX1_cost_5 : decode cX1_cost 5 = .ok (.iaload, 1) := by decide +kernel
theorem dX1_cost_6 : decode cX1_cost 6 = .ok (.aload_n 0, 1) := by decide +kernel
theorem dX1_cost_7 : decode cX1_cost 7 = .ok (.iload_n 1, 1) := by decide +kernel
theorem dX1_cost_8 : decode cX1_cost 8 = .ok (.iload_n 2, 1) := by decide +kernel
theorem dX1_cost_9 : decode cX1_cost 9 = .ok (.invokevirtual 72, 3) := by decide +kernel
theorem dX1_cost_12 : decode cX1_cost 12 = .ok (.aload_n 0, 1) := by decide +kernel
theorem dX1_cost_13 : decode cX1_cost 13 = .ok (.getfield 30, 3) := by decide +kernel
theorem dX1_cost_16 : decode cX1_cost 16 = .ok (.iload_n 1, 1) := by decide +kernel
theorem dX1_cost_17 : decode cX1_cost 17 = .ok (.iaload, 1) := by decide +kernel
theorem dX1_cost_18 : decode cX1_cost 18 = .ok (.aload_n 0, 1) := by decide +kernel
theorem dX1_cost_19 : decode cX1_cost 19 = .ok (.getfield 15, 3) := by decide +kernel
theorem dX1_cost_22 : decode cX1_cost 22 = .ok (.iload_n 2, 1) := by decide +kernel
theorem dX1_cost_23 : decode cX1_cost 23 = .ok (.iaload, 1) := by decide +kernel
theorem dX1_cost_24 : decode cX1_cost 24 = .ok (.aload_n 0, 1) := by decide +kernel
theorem dX1_cost_25 : decode cX1_cost 25 = .ok (.getfield 53, 3) := by decide +kernel
theorem dX1_cost_28 : decode cX1_cost 28 = .ok (.invokestatic 75, 3) := by decide +kernel
theorem dX1_cost_31 : decode cX1_cost 31 = .ok (.ireturn, 1) := by decide +kernel
theorem dX1_can_0 : decode cX1_can 0 = .ok (.aload_n 0, 1) := by decide +kernel
theorem dX1_can_1 : decode cX1_can 1 = .ok (.getfield 24, 3) := by decide +kernel
theorem dX1_can_4 : decode cX1_can 4 = .ok (.iload_n 2, 1) := by decide +kernel
theorem dX1_can_5 : decode cX1_can 5 = .ok (.iaload, 1) := by decide +kernel
theorem dX1_can_6 : decode cX1_can 6 = .ok (.ifCond .ne 37, 3) := by decide +kernel
theorem dX1_can_9 : decode cX1_can 9 = .ok (.aload_n 0, 1) := by decide +kernel
theorem dX1_can_10 : decode cX1_can 10 = .ok (.iload_n 1, 1) := by decide +kernel
theorem dX1_can_11 : decode cX1_can 11 = .ok (.iload_n 2, 1) := by decide +kernel
theorem dX1_can_12 : decode cX1_can 12 = .ok (.invokevirtual 79, 3) := by decide +kernel
theorem dX1_can_15 : decode cX1_can 15 = .ok (.aload_n 0, 1) := by decide +kernel
theorem dX1_can_16 : decode cX1_can 16 = .ok (.getfield 21, 3) := by decide +kernel
theorem dX1_can_19 : decode cX1_can 19 = .ok (.iload_n 2, 1) := by decide +kernel
theorem dX1_can_20 : decode cX1_can 20 = .ok (.iaload, 1) := by decide +kernel
theorem dX1_can_21 : decode cX1_can 21 = .ok (.if_icmp .lt 22, 3) := by decide +kernel
theorem dX1_can_24 : decode cX1_can 24 = .ok (.aload_n 0, 1) := by decide +kernel
theorem dX1_can_25 : decode cX1_can 25 = .ok (.iload_n 1, 1) := by decide +kernel
theorem dX1_can_26 : decode cX1_can 26 = .ok (.iload_n 2, 1) := by decide +kernel
theorem dX1_can_27 : decode cX1_can 27 = .ok (.invokevirtual 81, 3) := by decide +kernel
theorem dX1_can_30 : decode cX1_can 30 = .ok (.aload_n 0, 1) := by decide +kernel
theorem dX1_can_31 : decode cX1_can 31 = .ok (.getfield 33, 3) := by decide +kernel
theorem dX1_can_34 : decode cX1_can 34 = .ok (.iload_n 1, 1) := by decide +kernel
theorem dX1_can_35 : decode cX1_can 35 = .ok (.iaload, 1) := by decide +kernel
theorem dX1_can_36 : decode cX1_can 36 = .ok (.if_icmp .gt 7, 3) := by decide +kernel
theorem dX1_can_39 : decode cX1_can 39 = .ok (.iconst 1, 1) := by decide +kernel
theorem dX1_can_40 : decode cX1_can 40 = .ok (.goto 4, 3) := by decide +kernel
theorem dX1_can_43 : decode cX1_can 43 = .ok (.iconst 0, 1) := by decide +kernel
theorem dX1_can_44 : decode cX1_can 44 = .ok (.ireturn, 1) := by decide +kernel
theorem dX1_casksFor_0 : decode cX1_casksFor 0 = .ok (.iconst 0, 1) := by decide +kernel
theorem dX1_casksFor_1 : decode cX1_casksFor 1 = .ok (.istore_n 2, 1) := by decide +kernel
theorem dX1_casksFor_2 : decode cX1_casksFor 2 = .ok (.iconst 0, 1) := by decide +kernel
theorem dX1_casksFor_3 : decode cX1_casksFor 3 = .ok (.istore_n 3, 1) := by decide +kernel
theorem dX1_casksFor_4 : decode cX1_casksFor 4 = .ok (.iload_n 3, 1) := by decide +kernel
theorem dX1_casksFor_5 : decode cX1_casksFor 5 = .ok (.bipush 12, 2) := by decide +kernel
theorem dX1_casksFor_7 : decode cX1_casksFor 7 = .ok (.if_icmp .ge 24, 3) := by decide +kernel
theorem dX1_casksFor_10 : decode cX1_casksFor 10 = .ok (.aload_n 0, 1) := by decide +kernel
theorem dX1_casksFor_11 : decode cX1_casksFor 11 = .ok (.iload_n 1, 1) := by decide +kernel
theorem dX1_casksFor_12 : decode cX1_casksFor 12 = .ok (.iload_n 3, 1) := by decide +kernel
theorem dX1_casksFor_13 : decode cX1_casksFor 13 = .ok (.invokevirtual 83, 3) := by decide +kernel
theorem dX1_casksFor_16 : decode cX1_casksFor 16 = .ok (.ifCond .eq 9, 3) := by decide +kernel
theorem dX1_casksFor_19 : decode cX1_casksFor 19 = .ok (.iload_n 2, 1) := by decide +kernel
theorem dX1_casksFor_20 : decode cX1_casksFor 20 = .ok (.iconst 1, 1) := by decide +kernel
theorem dX1_casksFor_21 : decode cX1_casksFor 21 = .ok (.iload_n 3, 1) := by decide +kernel
theorem dX1_casksFor_22 : decode cX1_casksFor 22 = .ok (.ishl, 1) := by decide +kernel
theorem dX1_casksFor_23 : decode cX1_casksFor 23 = .ok (.ior, 1) := by decide +kernel
theorem dX1_casksFor_24 : decode cX1_casksFor 24 = .ok (.istore_n 2, 1) := by decide +kernel
theorem dX1_casksFor_25 : decode cX1_casksFor 25 = .ok (.iinc 3 1, 3) := by decide +kernel
theorem dX1_casksFor_28 : decode cX1_casksFor 28 = .ok (.goto (-24), 3) := by decide +kernel
theorem dX1_casksFor_31 : decode cX1_casksFor 31 = .ok (.iload_n 2, 1) := by decide +kernel
theorem dX1_casksFor_32 : decode cX1_casksFor 32 = .ok (.ireturn, 1) := by decide +kernel
theorem dX1_bringUp_0 : decode cX1_bringUp 0 = .ok (.aload_n 0, 1) := by decide +kernel
theorem dX1_bringUp_1 : decode cX1_bringUp 1 = .ok (.getfield 33, 3) := by decide +kernel
theorem dX1_bringUp_4 : decode cX1_bringUp 4 = .ok (.iload_n 1, 1) := by decide +kernel
theorem dX1_bringUp_5 : decode cX1_bringUp 5 = .ok (.dup2, 1) := by decide +kernel
theorem dX1_bringUp_6 : decode cX1_bringUp 6 = .ok (.iaload, 1) := by decide +kernel
theorem dX1_bringUp_7 : decode cX1_bringUp 7 = .ok (.aload_n 0, 1) := by decide +kernel
theorem dX1_bringUp_8 : decode cX1_bringUp 8 = .ok (.iload_n 1, 1) := by decide +kernel
theorem dX1_bringUp_9 : decode cX1_bringUp 9 = .ok (.iload_n 2, 1) := by decide +kernel
theorem dX1_bringUp_10 : decode cX1_bringUp 10 = .ok (.invokevirtual 81, 3) := by decide +kernel
theorem dX1_bringUp_13 : decode cX1_bringUp 13 = .ok (.isub, 1) := by decide +kernel
theorem dX1_bringUp_14 : decode cX1_bringUp 14 = .ok (.iastore, 1) := by decide +kernel
theorem dX1_bringUp_15 : decode cX1_bringUp 15 = .ok (.aload_n 0, 1) := by decide +kernel
theorem dX1_bringUp_16 : decode cX1_bringUp 16 = .ok (.getfield 24, 3) := by decide +kernel
theorem dX1_bringUp_19 : decode cX1_bringUp 19 = .ok (.iload_n 2, 1) := by decide +kernel
theorem dX1_bringUp_20 : decode cX1_bringUp 20 = .ok (.iconst 1, 1) := by decide +kernel
theorem dX1_bringUp_21 : decode cX1_bringUp 21 = .ok (.iastore, 1) := by decide +kernel
theorem dX1_bringUp_22 : decode cX1_bringUp 22 = .ok (.aload_n 0, 1) := by decide +kernel
theorem dX1_bringUp_23 : decode cX1_bringUp 23 = .ok (.getfield 36, 3) := by decide +kernel
theorem dX1_bringUp_26 : decode cX1_bringUp 26 = .ok (.iload_n 1, 1) := by decide +kernel
theorem dX1_bringUp_27 : decode cX1_bringUp 27 = .ok (.dup2, 1) := by decide +kernel
theorem dX1_bringUp_28 : decode cX1_bringUp 28 = .ok (.iaload, 1) := by decide +kernel
theorem dX1_bringUp_29 : decode cX1_bringUp 29 = .ok (.iconst 1, 1) := by decide +kernel
theorem dX1_bringUp_30 : decode cX1_bringUp 30 = .ok (.iadd, 1) := by decide +kernel
theorem dX1_bringUp_31 : decode cX1_bringUp 31 = .ok (.iastore, 1) := by decide +kernel
theorem dX1_bringUp_32 : decode cX1_bringUp 32 = .ok (.return_, 1) := by decide +kernel
theorem dX1_letLoose_0 : decode cX1_letLoose 0 = .ok (.aload_n 0, 1) := by decide +kernel
theorem dX1_letLoose_1 : decode cX1_letLoose 1 = .ok (.aload_n 0, 1) := by decide +kernel
theorem dX1_letLoose_2 : decode cX1_letLoose 2 = .ok (.getfield 15, 3) := by decide +kernel
theorem dX1_letLoose_5 : decode cX1_letLoose 5 = .ok (.iload_n 1, 1) := by decide +kernel
theorem dX1_letLoose_6 : decode cX1_letLoose 6 = .ok (.iaload, 1) := by decide +kernel
theorem dX1_letLoose_7 : decode cX1_letLoose 7 = .ok (.aload_n 0, 1) := by decide +kernel
theorem dX1_letLoose_8 : decode cX1_letLoose 8 = .ok (.getfield 18, 3) := by decide +kernel
theorem dX1_letLoose_11 : decode cX1_letLoose 11 = .ok (.iload_n 1, 1) := by decide +kernel
theorem dX1_letLoose_12 : decode cX1_letLoose 12 = .ok (.iaload, 1) := by decide +kernel
theorem dX1_letLoose_13 : decode cX1_letLoose 13 = .ok (.invokevirtual 107, 3) := by decide +kernel
theorem dX1_letLoose_16 : decode cX1_letLoose 16 = .ok (.aload_n 0, 1) := by decide +kernel
theorem dX1_letLoose_17 : decode cX1_letLoose 17 = .ok (.getfield 24, 3) := by decide +kernel
theorem dX1_letLoose_20 : decode cX1_letLoose 20 = .ok (.iload_n 1, 1) := by decide +kernel
theorem dX1_letLoose_21 : decode cX1_letLoose 21 = .ok (.iconst 2, 1) := by decide +kernel
theorem dX1_letLoose_22 : decode cX1_letLoose 22 = .ok (.iastore, 1) := by decide +kernel
theorem dX1_letLoose_23 : decode cX1_letLoose 23 = .ok (.return_, 1) := by decide +kernel
theorem dX1_blowUp_0 : decode cX1_blowUp 0 = .ok (.aload_n 0, 1) := by decide +kernel
theorem dX1_blowUp_1 : decode cX1_blowUp 1 = .ok (.getfield 9, 3) := by decide +kernel
theorem dX1_blowUp_4 : decode cX1_blowUp 4 = .ok (.iload_n 1, 1) := by decide +kernel
theorem dX1_blowUp_5 : decode cX1_blowUp 5 = .ok (.bipush 99, 2) := by decide +kernel
theorem dX1_blowUp_7 : decode cX1_blowUp 7 = .ok (.aload_n 0, 1) := by decide +kernel
theorem dX1_blowUp_8 : decode cX1_blowUp 8 = .ok (.getfield 9, 3) := by decide +kernel
theorem dX1_blowUp_11 : decode cX1_blowUp 11 = .ok (.iload_n 1, 1) := by decide +kernel
theorem dX1_blowUp_12 : decode cX1_blowUp 12 = .ok (.iaload, 1) := by decide +kernel
theorem dX1_blowUp_13 : decode cX1_blowUp 13 = .ok (.iload_n 2, 1) := by decide +kernel
theorem dX1_blowUp_14 : decode cX1_blowUp 14 = .ok (.iadd, 1) := by decide +kernel
theorem dX1_blowUp_15 : decode cX1_blowUp 15 = .ok (.invokestatic 110, 3) := by decide +kernel
theorem dX1_blowUp_18 : decode cX1_blowUp 18 = .ok (.iastore, 1) := by decide +kernel
theorem dX1_blowUp_19 : decode cX1_blowUp 19 = .ok (.return_, 1) := by decide +kernel
theorem dX1_fading_0 : decode cX1_fading 0 = .ok (.aload_n 0, 1) := by decide +kernel
theorem dX1_fading_1 : decode cX1_fading 1 = .ok (.getfield 39, 3) := by decide +kernel
theorem dX1_fading_4 : decode cX1_fading 4 = .ok (.iconst 2, 1) := by decide +kernel
theorem dX1_fading_5 : decode cX1_fading 5 = .ok (.iconst 0, 1) := by decide +kernel
theorem dX1_fading_6 : decode cX1_fading 6 = .ok (.iconst 0, 1) := by decide +kernel
theorem dX1_fading_7 : decode cX1_fading 7 = .ok (.iload_n 2, 1) := by decide +kernel
theorem dX1_fading_8 : decode cX1_fading 8 = .ok (.iload_n 1, 1) := by decide +kernel
theorem dX1_fading_9 : decode cX1_fading 9 = .ok (.iload_n 3, 1) := by decide +kernel
theorem dX1_fading_10 : decode cX1_fading 10 = .ok (.iconst 0, 1) := by decide +kernel
theorem dX1_fading_11 : decode cX1_fading 11 = .ok (.invokevirtual 58, 3) := by decide +kernel
theorem dX1_fading_14 : decode cX1_fading 14 = .ok (.ireturn, 1) := by decide +kernel
theorem dX1_faded_0 : decode cX1_faded 0 = .ok (.iconst 0, 1) := by decide +kernel
theorem dX1_faded_1 : decode cX1_faded 1 = .ok (.iload_n 2, 1) := by decide +kernel
theorem dX1_faded_2 : decode cX1_faded 2 = .ok (.aload_n 0, 1) := by decide +kernel
theorem dX1_faded_3 : decode cX1_faded 3 = .ok (.iload_n 1, 1) := by decide +kernel
theorem dX1_faded_4 : decode cX1_faded 4 = .ok (.iload_n 2, 1) := by decide +kernel
theorem dX1_faded_5 : decode cX1_faded 5 = .ok (.iload_n 3, 1) := by decide +kernel
theorem dX1_faded_6 : decode cX1_faded 6 = .ok (.invokevirtual 115, 3) := by decide +kernel
theorem dX1_faded_9 : decode cX1_faded 9 = .ok (.isub, 1) := by decide +kernel
theorem dX1_faded_10 : decode cX1_faded 10 = .ok (.invokestatic 118, 3) := by decide +kernel
theorem dX1_faded_13 : decode cX1_faded 13 = .ok (.ireturn, 1) := by decide +kernel
theorem dX1_passHours_0 : decode cX1_passHours 0 = .ok (.iconst 0, 1) := by decide +kernel
theorem dX1_passHours_1 : decode cX1_passHours 1 = .ok (.istore_n 2, 1) := by decide +kernel
theorem dX1_passHours_2 : decode cX1_passHours 2 = .ok (.iload_n 2, 1) := by decide +kernel
theorem dX1_passHours_3 : decode cX1_passHours 3 = .ok (.iload_n 1, 1) := by decide +kernel
theorem dX1_passHours_4 : decode cX1_passHours 4 = .ok (.if_icmp .ge 109, 3) := by decide +kernel
theorem dX1_passHours_7 : decode cX1_passHours 7 = .ok (.iconst 0, 1) := by decide +kernel
theorem dX1_passHours_8 : decode cX1_passHours 8 = .ok (.istore_n 3, 1) := by decide +kernel
theorem dX1_passHours_9 : decode cX1_passHours 9 = .ok (.iload_n 3, 1) := by decide +kernel
theorem dX1_passHours_10 : decode cX1_passHours 10 = .ok (.bipush 6, 2) := by decide +kernel
theorem dX1_passHours_12 : decode cX1_passHours 12 = .ok (.if_icmp .ge 30, 3) := by decide +kernel
theorem dX1_passHours_15 : decode cX1_passHours 15 = .ok (.aload_n 0, 1) := by decide +kernel
theorem dX1_passHours_16 : decode cX1_passHours 16 = .ok (.getfield 9, 3) := by decide +kernel
theorem dX1_passHours_19 : decode cX1_passHours 19 = .ok (.iload_n 3, 1) := by decide +kernel
theorem dX1_passHours_20 : decode cX1_passHours 20 = .ok (.aload_n 0, 1) := by decide +kernel
theorem dX1_passHours_21 : decode cX1_passHours 21 = .ok (.iload_n 3, 1) := by decide +kernel
theorem dX1_passHours_22 : decode cX1_passHours 22 = .ok (.aload_n 0, 1) := by decide +kernel
theorem dX1_passHours_23 : decode cX1_passHours 23 = .ok (.getfield 9, 3) := by decide +kernel
theorem dX1_passHours_26 : decode cX1_passHours 26 = .ok (.iload_n 3, 1) := by decide +kernel
theorem dX1_passHours_27 : decode cX1_passHours 27 = .ok (.iaload, 1) := by decide +kernel
theorem dX1_passHours_28 : decode cX1_passHours 28 = .ok (.aload_n 0, 1) := by decide +kernel
theorem dX1_passHours_29 : decode cX1_passHours 29 = .ok (.getfield 53, 3) := by decide +kernel
theorem dX1_passHours_32 : decode cX1_passHours 32 = .ok (.invokevirtual 121, 3) := by decide +kernel
theorem dX1_passHours_35 : decode cX1_passHours 35 = .ok (.iastore, 1) := by decide +kernel
theorem dX1_passHours_36 : decode cX1_passHours 36 = .ok (.iinc 3 1, 3) := by decide +kernel
theorem dX1_passHours_39 : decode cX1_passHours 39 = .ok (.goto (-30), 3) := by decide +kernel
theorem dX1_passHours_42 : decode cX1_passHours 42 = .ok (.iconst 0, 1) := by decide +kernel
theorem dX1_passHours_43 : decode cX1_passHours 43 = .ok (.istore_n 3, 1) := by decide +kernel
theorem dX1_passHours_44 : decode cX1_passHours 44 = .ok (.iload_n 3, 1) := by decide +kernel
theorem dX1_passHours_45 : decode cX1_passHours 45 = .ok (.aload_n 0, 1) := by decide +kernel
theorem dX1_passHours_46 : decode cX1_passHours 46 = .ok (.getfield 49, 3) := by decide +kernel
theorem dX1_passHours_49 : decode cX1_passHours 49 = .ok (.if_icmp .ge 48, 3) := by decide +kernel
theorem dX1_passHours_52 : decode cX1_passHours 52 = .ok (.iload_n 3, 1) := by decide +kernel
theorem dX1_passHours_53 : decode cX1_passHours 53 = .ok (.bipush 6, 2) := by decide +kernel
theorem dX1_passHours_55 : decode cX1_passHours 55 = .ok (.if_icmp .ge 42, 3) := by decide +kernel
theorem dX1_passHours_58 : decode cX1_passHours 58 = .ok (.aload_n 0, 1) := by decide +kernel
theorem dX1_passHours_59 : decode cX1_passHours 59 = .ok (.getfield 33, 3) := by decide +kernel
theorem dX1_passHours_62 : decode cX1_passHours 62 = .ok (.iload_n 3, 1) := by decide +kernel
theorem dX1_passHours_63 : decode cX1_passHours 63 = .ok (.bipush 99, 2) := by decide +kernel
theorem dX1_passHours_65 : decode cX1_passHours 65 = .ok (.aload_n 0, 1) := by decide +kernel
theorem dX1_passHours_66 : decode cX1_passHours 66 = .ok (.getfield 33, 3) := by decide +kernel
theorem dX1_passHours_69 : decode cX1_passHours 69 = .ok (.iload_n 3, 1) := by decide +kernel
theorem dX1_passHours_70 : decode cX1_passHours 70 = .ok (.iaload, 1) := by decide +kernel
theorem dX1_passHours_71 : decode cX1_passHours 71 = .ok (.aload_n 0, 1) := by decide +kernel
theorem dX1_passHours_72 : decode cX1_passHours 72 = .ok (.getfield 27, 3) := by decide +kernel
theorem dX1_passHours_75 : decode cX1_passHours 75 = .ok (.iload_n 3, 1) := by decide +kernel
theorem dX1_passHours_76 : decode cX1_passHours 76 = .ok (.iaload, 1) := by decide +kernel
theorem dX1_passHours_77 : decode cX1_passHours 77 = .ok (.aload_n 0, 1) := by decide +kernel
theorem dX1_passHours_78 : decode cX1_passHours 78 = .ok (.getfield 30, 3) := by decide +kernel
theorem dX1_passHours_81 : decode cX1_passHours 81 = .ok (.iload_n 3, 1) := by decide +kernel
theorem dX1_passHours_82 : decode cX1_passHours 82 = .ok (.iaload, 1) := by decide +kernel
theorem dX1_passHours_83 : decode cX1_passHours 83 = .ok (.invokestatic 124, 3) := by decide +kernel
theorem dX1_passHours_86 : decode cX1_passHours 86 = .ok (.iadd, 1) := by decide +kernel
theorem dX1_passHours_87 : decode cX1_passHours 87 = .ok (.invokestatic 110, 3) := by decide +kernel
theorem dX1_passHours_90 : decode cX1_passHours 90 = .ok (.iastore, 1) := by decide +kernel
theorem dX1_passHours_91 : decode cX1_passHours 91 = .ok (.iinc 3 1, 3) := by decide +kernel
theorem dX1_passHours_94 : decode cX1_passHours 94 = .ok (.goto (-50), 3) := by decide +kernel
theorem dX1_passHours_97 : decode cX1_passHours 97 = .ok (.aload_n 0, 1) := by decide +kernel
theorem dX1_passHours_98 : decode cX1_passHours 98 = .ok (.dup, 1) := by decide +kernel
theorem dX1_passHours_99 : decode cX1_passHours 99 = .ok (.getfield 53, 3) := by decide +kernel
theorem dX1_passHours_102 : decode cX1_passHours 102 = .ok (.iconst 1, 1) := by decide +kernel
theorem dX1_passHours_103 : decode cX1_passHours 103 = .ok (.iadd, 1) := by decide +kernel
theorem dX1_passHours_104 : decode cX1_passHours 104 = .ok (.putfield 53, 3) := by decide +kernel
theorem dX1_passHours_107 : decode cX1_passHours 107 = .ok (.iinc 2 1, 3) := by decide +kernel
theorem dX1_passHours_110 : decode cX1_passHours 110 = .ok (.goto (-108), 3) := by decide +kernel
theorem dX1_passHours_113 : decode cX1_passHours 113 = .ok (.return_, 1) := by decide +kernel
theorem dX1_mainSort_0 : decode cX1_mainSort 0 = .ok (.iconst (-1), 1) := by decide +kernel
theorem dX1_mainSort_1 : decode cX1_mainSort 1 = .ok (.istore_n 1, 1) := by decide +kernel
theorem dX1_mainSort_2 : decode cX1_mainSort 2 = .ok (.iconst 0, 1) := by decide +kernel
theorem dX1_mainSort_3 : decode cX1_mainSort 3 = .ok (.istore_n 2, 1) := by decide +kernel
theorem dX1_mainSort_4 : decode cX1_mainSort 4 = .ok (.iconst 0, 1) := by decide +kernel
theorem dX1_mainSort_5 : decode cX1_mainSort 5 = .ok (.istore_n 3, 1) := by decide +kernel
theorem dX1_mainSort_6 : decode cX1_mainSort 6 = .ok (.iload_n 3, 1) := by decide +kernel
theorem dX1_mainSort_7 : decode cX1_mainSort 7 = .ok (.bipush 6, 2) := by decide +kernel
theorem dX1_mainSort_9 : decode cX1_mainSort 9 = .ok (.if_icmp .ge 28, 3) := by decide +kernel
theorem dX1_mainSort_12 : decode cX1_mainSort 12 = .ok (.aload_n 0, 1) := by decide +kernel
theorem dX1_mainSort_13 : decode cX1_mainSort 13 = .ok (.getfield 9, 3) := by decide +kernel
theorem dX1_mainSort_16 : decode cX1_mainSort 16 = .ok (.iload_n 3, 1) := by decide +kernel
theorem dX1_mainSort_17 : decode cX1_mainSort 17 = .ok (.iaload, 1) := by decide +kernel
theorem dX1_mainSort_18 : decode cX1_mainSort 18 = .ok (.iload_n 2, 1) := by decide +kernel
theorem dX1_mainSort_19 : decode cX1_mainSort 19 = .ok (.if_icmp .le 12, 3) := by decide +kernel
theorem dX1_mainSort_22 : decode cX1_mainSort 22 = .ok (.aload_n 0, 1) := by decide +kernel
theorem dX1_mainSort_23 : decode cX1_mainSort 23 = .ok (.getfield 9, 3) := by decide +kernel
theorem dX1_mainSort_26 : decode cX1_mainSort 26 = .ok (.iload_n 3, 1) := by decide +kernel
theorem dX1_mainSort_27 : decode cX1_mainSort 27 = .ok (.iaload, 1) := by decide +kernel
theorem dX1_mainSort_28 : decode cX1_mainSort 28 = .ok (.istore_n 2, 1) := by decide +kernel
theorem dX1_mainSort_29 : decode cX1_mainSort 29 = .ok (.iload_n 3, 1) := by decide +kernel
theorem dX1_mainSort_30 : decode cX1_mainSort 30 = .ok (.istore_n 1, 1) := by decide +kernel
theorem dX1_mainSort_31 : decode cX1_mainSort 31 = .ok (.iinc 3 1, 3) := by decide +kernel
theorem dX1_mainSort_34 : decode cX1_mainSort 34 = .ok (.goto (-28), 3) := by decide +kernel
theorem dX1_mainSort_37 : decode cX1_mainSort 37 = .ok (.iload_n 1, 1) := by decide +kernel
theorem dX1_mainSort_38 : decode cX1_mainSort 38 = .ok (.ireturn, 1) := by decide +kernel
theorem dX1_fair_0 : decode cX1_fair 0 = .ok (.aload_n 0, 1) := by decide +kernel
theorem dX1_fair_1 : decode cX1_fair 1 = .ok (.getfield 9, 3) := by decide +kernel
theorem dX1_fair_4 : decode cX1_fair 4 = .ok (.iconst 0, 1) := by decide +kernel
theorem dX1_fair_5 : decode cX1_fair 5 = .ok (.iaload, 1) := by decide +kernel
theorem dX1_fair_6 : decode cX1_fair 6 = .ok (.aload_n 0, 1) := by decide +kernel
theorem dX1_fair_7 : decode cX1_fair 7 = .ok (.getfield 9, 3) := by decide +kernel
theorem dX1_fair_10 : decode cX1_fair 10 = .ok (.iconst 3, 1) := by decide +kernel
theorem dX1_fair_11 : decode cX1_fair 11 = .ok (.iaload, 1) := by decide +kernel
theorem dX1_fair_12 : decode cX1_fair 12 = .ok (.iadd, 1) := by decide +kernel
theorem dX1_fair_13 : decode cX1_fair 13 = .ok (.aload_n 0, 1) := by decide +kernel
theorem dX1_fair_14 : decode cX1_fair 14 = .ok (.getfield 9, 3) := by decide +kernel
theorem dX1_fair_17 : decode cX1_fair 17 = .ok (.iconst 2, 1) := by decide +kernel
theorem dX1_fair_18 : decode cX1_fair 18 = .ok (.iaload, 1) := by decide +kernel
theorem dX1_fair_19 : decode cX1_fair 19 = .ok (.isub, 1) := by decide +kernel
theorem dX1_fair_20 : decode cX1_fair 20 = .ok (.iconst 2, 1) := by decide +kernel
theorem dX1_fair_21 : decode cX1_fair 21 = .ok (.aload_n 0, 1) := by decide +kernel
theorem dX1_fair_22 : decode cX1_fair 22 = .ok (.getfield 9, 3) := by decide +kernel
theorem dX1_fair_25 : decode cX1_fair 25 = .ok (.iconst 5, 1) := by decide +kernel
theorem dX1_fair_26 : decode cX1_fair 26 = .ok (.iaload, 1) := by decide +kernel
theorem dX1_fair_27 : decode cX1_fair 27 = .ok (.imul, 1) := by decide +kernel
theorem dX1_fair_28 : decode cX1_fair 28 = .ok (.isub, 1) := by decide +kernel
theorem dX1_fair_29 : decode cX1_fair 29 = .ok (.ireturn, 1) := by decide +kernel
theorem dX1_overBay_0 : decode cX1_overBay 0 = .ok (.iload_n 1, 1) := by decide +kernel
theorem dX1_overBay_1 : decode cX1_overBay 1 = .ok (.bipush 6, 2) := by decide +kernel
theorem dX1_overBay_3 : decode cX1_overBay 3 = .ok (.if_icmp .ne 8, 3) := by decide +kernel
theorem dX1_overBay_6 : decode cX1_overBay 6 = .ok (.aload_n 0, 1) := by decide +kernel
theorem dX1_overBay_7 : decode cX1_overBay 7 = .ok (.invokevirtual 127, 3) := by decide +kernel
theorem dX1_overBay_10 : decode cX1_overBay 10 = .ok (.ireturn, 1) := by decide +kernel
theorem dX1_overBay_11 : decode cX1_overBay 11 = .ok (.iload_n 1, 1) := by decide +kernel
theorem dX1_overBay_12 : decode cX1_overBay 12 = .ok (.invokestatic 131, 3) := by decide +kernel
theorem dX1_overBay_15 : decode cX1_overBay 15 = .ok (.ifCond .eq 12, 3) := by decide +kernel
theorem dX1_overBay_18 : decode cX1_overBay 18 = .ok (.aload_n 0, 1) := by decide +kernel
theorem dX1_overBay_19 : decode cX1_overBay 19 = .ok (.getfield 9, 3) := by decide +kernel
theorem dX1_overBay_22 : decode cX1_overBay 22 = .ok (.iload_n 1, 1) := by decide +kernel
theorem dX1_overBay_23 : decode cX1_overBay 23 = .ok (.iaload, 1) := by decide +kernel
theorem dX1_overBay_24 : decode cX1_overBay 24 = .ok (.goto 7, 3) := by decide +kernel
theorem dX1_overBay_27 : decode cX1_overBay 27 = .ok (.aload_n 0, 1) := by decide +kernel
theorem dX1_overBay_28 : decode cX1_overBay 28 = .ok (.invokevirtual 134, 3) := by decide +kernel
theorem dX1_overBay_31 : decode cX1_overBay 31 = .ok (.ireturn, 1) := by decide +kernel
theorem dX2_init_0 : decode cX2_init 0 = .ok (.aload_n 0, 1) := by decide +kernel
theorem dX2_init_1 : decode cX2_init 1 = .ok (.invokespecial 1, 3) := by decide +kernel
theorem dX2_init_4 : decode cX2_init 4 = .ok (.aload_n 0, 1) := by decide +kernel
theorem dX2_init_5 : decode cX2_init 5 = .ok (.bipush 40, 2) := by decide +kernel
theorem dX2_init_7 : decode cX2_init 7 = .ok (.newarray .int, 2) := by decide +kernel
theorem dX2_init_9 : decode cX2_init 9 = .ok (.putfield 9, 3) := by decide +kernel
theorem dX2_init_12 : decode cX2_init 12 = .ok (.aload_n 0, 1) := by decide +kernel
theorem dX2_init_13 : decode cX2_init 13 = .ok (.iconst (-1), 1) := by decide +kernel
theorem dX2_init_14 : decode cX2_init 14 = .ok (.putfield 13, 3) := by decide +kernel
theorem dX2_init_17 : decode cX2_init 17 = .ok (.return_, 1) := by decide +kernel
theorem dX3_init_0 : decode cX3_init 0 = .ok (.aload_n 0, 1) := by decide +kernel
theorem dX3_init_1 : decode cX3_init 1 = .ok (.invokespecial 3, 3) := by decide +kernel
theorem dX3_init_4 : decode cX3_init 4 = .ok (.aload_n 0, 1) := by decide +kernel
theorem dX3_init_5 : decode cX3_init 5 = .ok (.sipush 160, 3) := by decide +kernel
theorem dX3_init_8 : decode cX3_init 8 = .ok (.newarray .int, 2) := by decide +kernel
theorem dX3_init_10 : decode cX3_init 10 = .ok (.putfield 11, 3) := by decide +kernel
theorem dX3_init_13 : decode cX3_init 13 = .ok (.return_, 1) := by decide +kernel
theorem dX3_hasRoom_0 : decode cX3_hasRoom 0 = .ok (.iload_n 1, 1) := by decide +kernel
theorem dX3_hasRoom_1 : decode cX3_hasRoom 1 = .ok (.sipush 160, 3) := by decide +kernel
theorem dX3_hasRoom_4 : decode cX3_hasRoom 4 = .ok (.aload_n 0, 1) := by decide +kernel
theorem dX3_hasRoom_5 : decode cX3_hasRoom 5 = .ok (.getfield 15, 3) := by decide +kernel
theorem dX3_hasRoom_8 : decode cX3_hasRoom 8 = .ok (.isub, 1) := by decide +kernel
theorem dX3_hasRoom_9 : decode cX3_hasRoom 9 = .ok (.if_icmp .gt 7, 3) := by decide +kernel
theorem dX3_hasRoom_12 : decode cX3_hasRoom 12 = .ok (.iconst 1, 1) := by decide +kernel
theorem dX3_hasRoom_13 : decode cX3_hasRoom 13 = .ok (.goto 4, 3) := by decide +kernel
theorem dX3_hasRoom_16 : decode cX3_hasRoom 16 = .ok (.iconst 0, 1) := by decide +kernel
theorem dX3_hasRoom_17 : decode cX3_hasRoom 17 = .ok (.ireturn, 1) := by decide +kernel
theorem dX3_add_0 : decode cX3_add 0 = .ok (.aload_n 0, 1) := by decide +kernel
theorem dX3_add_1 : decode cX3_add 1 = .ok (.getfield 15, 3) := by decide +kernel
theorem dX3_add_4 : decode cX3_add 4 = .ok (.sipush 160, 3) := by decide +kernel
theorem dX3_add_7 : decode cX3_add 7 = .ok (.if_icmp .ge 23, 3) := by decide +kernel
theorem dX3_add_10 : decode cX3_add 10 = .ok (.aload_n 0, 1) := by decide +kernel
theorem dX3_add_11 : decode cX3_add 11 = .ok (.getfield 11, 3) := by decide +kernel
theorem dX3_add_14 : decode cX3_add 14 = .ok (.aload_n 0, 1) := by decide +kernel
theorem dX3_add_15 : decode cX3_add 15 = .ok (.getfield 15, 3) := by decide +kernel
theorem dX3_add_18 : decode cX3_add 18 = .ok (.iload_n 1, 1) := by decide +kernel
theorem dX3_add_19 : decode cX3_add 19 = .ok (.iastore, 1) := by decide +kernel
theorem dX3_add_20 : decode cX3_add 20 = .ok (.aload_n 0, 1) := by decide +kernel
theorem dX3_add_21 : decode cX3_add 21 = .ok (.dup, 1) := by decide +kernel
theorem dX3_add_22 : decode cX3_add 22 = .ok (.getfield 15, 3) := by decide +kernel
theorem dX3_add_25 : decode cX3_add 25 = .ok (.iconst 1, 1) := by decide +kernel
theorem dX3_add_26 : decode cX3_add 26 = .ok (.iadd, 1) := by decide +kernel
theorem dX3_add_27 : decode cX3_add 27 = .ok (.putfield 15, 3) := by decide +kernel
theorem dX3_add_30 : decode cX3_add 30 = .ok (.return_, 1) := by decide +kernel
theorem dX3_clear_0 : decode cX3_clear 0 = .ok (.aload_n 0, 1) := by decide +kernel
theorem dX3_clear_1 : decode cX3_clear 1 = .ok (.iconst 0, 1) := by decide +kernel
theorem dX3_clear_2 : decode cX3_clear 2 = .ok (.putfield 15, 3) := by decide +kernel
theorem dX3_clear_5 : decode cX3_clear 5 = .ok (.return_, 1) := by decide +kernel
theorem dX3_isName_0 : decode cX3_isName 0 = .ok (.iload_n 0, 1) := by decide +kernel
theorem dX3_isName_1 : decode cX3_isName 1 = .ok (.sipush 266, 3) := by decide +kernel
theorem dX3_isName_4 : decode cX3_isName 4 = .ok (.if_icmp .lt 14, 3) := by decide +kernel
theorem dX3_isName_7 : decode cX3_isName 7 = .ok (.iload_n 0, 1) := by decide +kernel
theorem dX3_isName_8 : decode cX3_isName 8 = .ok (.sipush 272, 3) := by decide +kernel
theorem dX3_isName_11 : decode cX3_isName 11 = .ok (.if_icmp .ge 7, 3) := by decide +kernel
theorem dX3_isName_14 : decode cX3_isName 14 = .ok (.iconst 1, 1) := by decide +kernel
theorem dX3_isName_15 : decode cX3_isName 15 = .ok (.goto 4, 3) := by decide +kernel
theorem dX3_isName_18 : decode cX3_isName 18 = .ok (.iconst 0, 1) := by decide +kernel
theorem dX3_isName_19 : decode cX3_isName 19 = .ok (.ireturn, 1) := by decide +kernel
theorem dX3_readInto_0 : decode cX3_readInto 0 = .ok (.aload_n 0, 1) := by decide +kernel
theorem dX3_readInto_1 : decode cX3_readInto 1 = .ok (.aload_n 1, 1) := by decide +kernel
theorem dX3_readInto_2 : decode cX3_readInto 2 = .ok (.putfield 19, 3) := by decide +kernel
theorem dX3_readInto_5 : decode cX3_readInto 5 = .ok (.aload_n 0, 1) := by decide +kernel
theorem dX3_readInto_6 : decode cX3_readInto 6 = .ok (.getfield 19, 3) := by decide +kernel
theorem dX3_readInto_9 : decode cX3_readInto 9 = .ok (.invokevirtual 23, 3) := by decide +kernel
theorem dX3_readInto_12 : decode cX3_readInto 12 = .ok (.aload_n 0, 1) := by decide +kernel
theorem dX3_readInto_13 : decode cX3_readInto 13 = .ok (.iconst 0, 1) := by decide +kernel
theorem dX3_readInto_14 : decode cX3_readInto 14 = .ok (.putfield 28, 3) := by decide +kernel
theorem dX3_readInto_17 : decode cX3_readInto 17 = .ok (.aload_n 0, 1) := by decide +kernel
theorem dX3_readInto_18 : decode cX3_readInto 18 = .ok (.invokevirtual 31, 3) := by decide +kernel
theorem dX3_readInto_21 : decode cX3_readInto 21 = .ok (.aload_n 0, 1) := by decide +kernel
theorem dX3_readInto_22 : decode cX3_readInto 22 = .ok (.invokevirtual 34, 3) := by decide +kernel
theorem dX3_readInto_25 : decode cX3_readInto 25 = .ok (.ifCond .eq 7, 3) := by decide +kernel
theorem dX3_readInto_28 : decode cX3_readInto 28 = .ok (.iconst (-1), 1) := by decide +kernel
theorem dX3_readInto_29 : decode cX3_readInto 29 = .ok (.goto 7, 3) := by decide +kernel
theorem dX3_readInto_32 : decode cX3_readInto 32 = .ok (.aload_n 0, 1) := by decide +kernel
theorem dX3_readInto_33 : decode cX3_readInto 33 = .ok (.getfield 38, 3) := by decide +kernel
theorem dX3_readInto_36 : decode cX3_readInto 36 = .ok (.ireturn, 1) := by decide +kernel
theorem dX3_readsParts_0 : decode cX3_readsParts 0 = .ok (.iconst 0, 1) := by decide +kernel
theorem dX3_readsParts_1 : decode cX3_readsParts 1 = .ok (.istore_n 1, 1) := by decide +kernel
theorem dX3_readsParts_2 : decode cX3_readsParts 2 = .ok (.iload_n 1, 1) := by decide +kernel
theorem dX3_readsParts_3 : decode cX3_readsParts 3 = .ok (.iconst 3, 1) := by decide +kernel
theorem dX3_readsParts_4 : decode cX3_readsParts 4 = .ok (.if_icmp .ge 48, 3) := by decide +kernel
theorem dX3_readsParts_7 : decode cX3_readsParts 7 = .ok (.aload_n 0, 1) := by decide +kernel
theorem dX3_readsParts_8 : decode cX3_readsParts 8 = .ok (.sipush 260, 3) := by decide +kernel
theorem dX3_readsParts_11 : decode cX3_readsParts 11 = .ok (.iload_n 1, 1) := by decide +kernel
theorem dX3_readsParts_12 : decode cX3_readsParts 12 = .ok (.iadd, 1) := by decide +kernel
theorem dX3_readsParts_13 : decode cX3_readsParts 13 = .ok (.invokevirtual 41, 3) := by decide +kernel
theorem dX3_readsParts_16 : decode cX3_readsParts 16 = .ok (.ifCond .eq 20, 3) := by decide +kernel
theorem dX3_readsParts_19 : decode cX3_readsParts 19 = .ok (.aload_n 0, 1) := by decide +kernel
theorem dX3_readsParts_20 : decode cX3_readsParts 20 = .ok (.iconst 0, 1) := by decide +kernel
theorem dX3_readsParts_21 : decode cX3_readsParts 21 = .ok (.invokevirtual 45, 3) := by decide +kernel
theorem dX3_readsParts_24 : decode cX3_readsParts 24 = .ok (.ifCond .eq 12, 3) := by decide +kernel
theorem dX3_readsParts_27 : decode cX3_readsParts 27 = .ok (.aload_n 0, 1) := by decide +kernel
theorem dX3_readsParts_28 : decode cX3_readsParts 28 = .ok (.bipush 59, 2) := by decide +kernel
theorem dX3_readsParts_30 : decode cX3_readsParts 30 = .ok (.invokevirtual 41, 3) := by decide +kernel
theorem dX3_readsParts_33 : decode cX3_readsParts 33 = .ok (.ifCond .ne 5, 3) := by decide +kernel
theorem dX3_readsParts_36 : decode cX3_readsParts 36 = .ok (.iconst 0, 1) := by decide +kernel
theorem dX3_readsParts_37 : decode cX3_readsParts 37 = .ok (.ireturn, 1) := by decide +kernel
theorem dX3_readsParts_38 : decode cX3_readsParts 38 = .ok (.aload_n 0, 1) := by decide +kernel
theorem dX3_readsParts_39 : decode cX3_readsParts 39 = .ok (.getfield 19, 3) := by decide +kernel
theorem dX3_readsParts_42 : decode cX3_readsParts 42 = .ok (.iload_n 1, 1) := by decide +kernel
theorem dX3_readsParts_43 : decode cX3_readsParts 43 = .ok (.invokevirtual 48, 3) := by decide +kernel
theorem dX3_readsParts_46 : decode cX3_readsParts 46 = .ok (.iinc 1 1, 3) := by decide +kernel
theorem dX3_readsParts_49 : decode cX3_readsParts 49 = .ok (.goto (-47), 3) := by decide +kernel
theorem dX3_readsParts_52 : decode cX3_readsParts 52 = .ok (.aload_n 0, 1) := by decide +kernel
theorem dX3_readsParts_53 : decode cX3_readsParts 53 = .ok (.getfield 52, 3) := by decide +kernel
theorem dX3_readsParts_56 : decode cX3_readsParts 56 = .ok (.sipush 256, 3) := by decide +kernel
theorem dX3_readsParts_59 : decode cX3_readsParts 59 = .ok (.if_icmp .ne 7, 3) := by decide +kernel
theorem dX3_readsParts_62 : decode cX3_readsParts 62 = .ok (.iconst 1, 1) := by decide +kernel
theorem dX3_readsParts_63 : decode cX3_readsParts 63 = .ok (.goto 4, 3) := by decide +kernel
theorem dX3_readsParts_66 : decode cX3_readsParts 66 = .ok (.iconst 0, 1) := by decide +kernel
theorem dX3_readsParts_67 : decode cX3_readsParts 67 = .ok (.ireturn, 1) := by decide +kernel
theorem dX3_passes_0 : decode cX3_passes 0 = .ok (.aload_n 0, 1) := by decide +kernel
theorem dX3_passes_1 : decode cX3_passes 1 = .ok (.getfield 52, 3) := by decide +kernel
theorem dX3_passes_4 : decode cX3_passes 4 = .ok (.iload_n 1, 1) := by decide +kernel
theorem dX3_passes_5 : decode cX3_passes 5 = .ok (.if_icmp .eq 5, 3) := by decide +kernel
theorem dX3_passes_8 : decode cX3_passes 8 = .ok (.iconst 0, 1) := by decide +kernel
theorem dX3_passes_9 : decode cX3_passes 9 = .ok (.ireturn, 1) := by decide +kernel
theorem dX3_passes_10 : decode cX3_passes 10 = .ok (.aload_n 0, 1) := by decide +kernel
theorem dX3_passes_11 : decode cX3_passes 11 = .ok (.invokevirtual 31, 3) := by decide +kernel
theorem dX3_passes_14 : decode cX3_passes 14 = .ok (.iconst 1, 1) := by decide +kernel
theorem dX3_passes_15 : decode cX3_passes 15 = .ok (.ireturn, 1) := by decide +kernel
theorem dX3_readsOr_0 : decode cX3_readsOr 0 = .ok (.aload_n 0, 1) := by decide +kernel
theorem dX3_readsOr_1 : decode cX3_readsOr 1 = .ok (.iload_n 1, 1) := by decide +kernel
theorem dX3_readsOr_2 : decode cX3_readsOr 2 = .ok (.invokevirtual 55, 3) := by decide +kernel
theorem dX3_readsOr_5 : decode cX3_readsOr 5 = .ok (.istore_n 2, 1) := by decide +kernel
theorem dX3_readsOr_6 : decode cX3_readsOr 6 = .ok (.iconst 0, 1) := by decide +kernel
theorem dX3_readsOr_7 : decode cX3_readsOr 7 = .ok (.istore_n 3, 1) := by decide +kernel
theorem dX3_readsOr_8 : decode cX3_readsOr 8 = .ok (.iload_n 3, 1) := by decide +kernel
theorem dX3_readsOr_9 : decode cX3_readsOr 9 = .ok (.sipush 160, 3) := by decide +kernel
theorem dX3_readsOr_12 : decode cX3_readsOr 12 = .ok (.if_icmp .ge 43, 3) := by decide +kernel
theorem dX3_readsOr_15 : decode cX3_readsOr 15 = .ok (.iload_n 2, 1) := by decide +kernel
theorem dX3_readsOr_16 : decode cX3_readsOr 16 = .ok (.ifCond .eq 39, 3) := by decide +kernel
theorem dX3_readsOr_19 : decode cX3_readsOr 19 = .ok (.aload_n 0, 1) := by decide +kernel
theorem dX3_readsOr_20 : decode cX3_readsOr 20 = .ok (.getfield 52, 3) := by decide +kernel
theorem dX3_readsOr_23 : decode cX3_readsOr 23 = .ok (.sipush 264, 3) := by decide +kernel
theorem dX3_readsOr_26 : decode cX3_readsOr 26 = .ok (.if_icmp .ne 29, 3) := by decide +kernel
theorem dX3_readsOr_29 : decode cX3_readsOr 29 = .ok (.aload_n 0, 1) := by decide +kernel
theorem dX3_readsOr_30 : decode cX3_readsOr 30 = .ok (.invokevirtual 31, 3) := by decide +kernel
theorem dX3_readsOr_33 : decode cX3_readsOr 33 = .ok (.aload_n 0, 1) := by decide +kernel
theorem dX3_readsOr_34 : decode cX3_readsOr 34 = .ok (.iload_n 1, 1) := by decide +kernel
theorem dX3_readsOr_35 : decode cX3_readsOr 35 = .ok (.invokevirtual 55, 3) := by decide +kernel
theorem dX3_readsOr_38 : decode cX3_readsOr 38 = .ok (.istore_n 2, 1) := by decide +kernel
theorem dX3_readsOr_39 : decode cX3_readsOr 39 = .ok (.aload_n 0, 1) := by decide +kernel
theorem dX3_readsOr_40 : decode cX3_readsOr 40 = .ok (.getfield 19, 3) := by decide +kernel
theorem dX3_readsOr_43 : decode cX3_readsOr 43 = .ok (.sipush (-264), 3) := by decide +kernel
theorem dX3_readsOr_46 : decode cX3_readsOr 46 = .ok (.invokevirtual 58, 3) := by decide +kernel
theorem dX3_readsOr_49 : decode cX3_readsOr 49 = .ok (.iinc 3 1, 3) := by decide +kernel
theorem dX3_readsOr_52 : decode cX3_readsOr 52 = .ok (.goto (-44), 3) := by decide +kernel
theorem dX3_readsOr_55 : decode cX3_readsOr 55 = .ok (.iload_n 2, 1) := by decide +kernel
theorem dX3_readsOr_56 : decode cX3_readsOr 56 = .ok (.ireturn, 1) := by decide +kernel
theorem dX3_readsAnd_0 : decode cX3_readsAnd 0 = .ok (.aload_n 0, 1) := by decide +kernel
theorem dX3_readsAnd_1 : decode cX3_readsAnd 1 = .ok (.iload_n 1, 1) := by decide +kernel
theorem dX3_readsAnd_2 : decode cX3_readsAnd 2 = .ok (.invokevirtual 61, 3) := by decide +kernel
theorem dX3_readsAnd_5 : decode cX3_readsAnd 5 = .ok (.istore_n 2, 1) := by decide +kernel
theorem dX3_readsAnd_6 : decode cX3_readsAnd 6 = .ok (.iconst 0, 1) := by decide +kernel
theorem dX3_readsAnd_7 : decode cX3_readsAnd 7 = .ok (.istore_n 3, 1) := by decide +kernel
theorem dX3_readsAnd_8 : decode cX3_readsAnd 8 = .ok (.iload_n 3, 1) := by decide +kernel
theorem dX3_readsAnd_9 : decode cX3_readsAnd 9 = .ok (.sipush 160, 3) := by decide +kernel
theorem dX3_readsAnd_12 : decode cX3_readsAnd 12 = .ok (.if_icmp .ge 43, 3) := by decide +kernel
theorem dX3_readsAnd_15 : decode cX3_readsAnd 15 = .ok (.iload_n 2, 1) := by decide +kernel
theorem dX3_readsAnd_16 : decode cX3_readsAnd 16 = .ok (.ifCond .eq 39, 3) := by decide +kernel
theorem dX3_readsAnd_19 : decode cX3_readsAnd 19 = .ok (.aload_n 0, 1) := by decide +kernel
theorem dX3_readsAnd_20 : decode cX3_readsAnd 20 = .ok (.getfield 52, 3) := by decide +kernel
theorem dX3_readsAnd_23 : decode cX3_readsAnd 23 = .ok (.sipush 263, 3) := by decide +kernel
theorem dX3_readsAnd_26 : decode cX3_readsAnd 26 = .ok (.if_icmp .ne 29, 3) := by decide +kernel
theorem dX3_readsAnd_29 : decode cX3_readsAnd 29 = .ok (.aload_n 0, 1) := by decide +kernel
theorem dX3_readsAnd_30 : decode cX3_readsAnd 30 = .ok (.invokevirtual 31, 3) := by decide +kernel
theorem dX3_readsAnd_33 : decode cX3_readsAnd 33 = .ok (.aload_n 0, 1) := by decide +kernel
theorem dX3_readsAnd_34 : decode cX3_readsAnd 34 = .ok (.iload_n 1, 1) := by decide +kernel
theorem dX3_readsAnd_35 : decode cX3_readsAnd 35 = .ok (.invokevirtual 61, 3) := by decide +kernel
theorem dX3_readsAnd_38 : decode cX3_readsAnd 38 = .ok (.istore_n 2, 1) := by decide +kernel
theorem dX3_readsAnd_39 : decode cX3_readsAnd 39 = .ok (.aload_n 0, 1) := by decide +kernel
theorem dX3_readsAnd_40 : decode cX3_readsAnd 40 = .ok (.getfield 19, 3) := by decide +kernel
theorem dX3_readsAnd_43 : decode cX3_readsAnd 43 = .ok (.sipush (-263), 3) := by decide +kernel
theorem dX3_readsAnd_46 : decode cX3_readsAnd 46 = .ok (.invokevirtual 58, 3) := by decide +kernel
theorem dX3_readsAnd_49 : decode cX3_readsAnd 49 = .ok (.iinc 3 1, 3) := by decide +kernel
theorem dX3_readsAnd_52 : decode cX3_readsAnd 52 = .ok (.goto (-44), 3) := by decide +kernel
theorem dX3_readsAnd_55 : decode cX3_readsAnd 55 = .ok (.iload_n 2, 1) := by decide +kernel
theorem dX3_readsAnd_56 : decode cX3_readsAnd 56 = .ok (.ireturn, 1) := by decide +kernel
theorem dX3_readsNot_0 : decode cX3_readsNot 0 = .ok (.aload_n 0, 1) := by decide +kernel
theorem dX3_readsNot_1 : decode cX3_readsNot 1 = .ok (.getfield 52, 3) := by decide +kernel
theorem dX3_readsNot_4 : decode cX3_readsNot 4 = .ok (.sipush 265, 3) := by decide +kernel
theorem dX3_readsNot_7 : decode cX3_readsNot 7 = .ok (.if_icmp .ne 24, 3) := by decide +kernel
theorem dX3_readsNot_10 : decode cX3_readsNot 10 = .ok (.iload_n 1, 1) := by decide +kernel
theorem dX3_readsNot_11 : decode cX3_readsNot 11 = .ok (.iconst 5, 1) := by decide +kernel
theorem dX3_readsNot_12 : decode cX3_readsNot 12 = .ok (.if_icmp .ge 17, 3) := by decide +kernel
theorem dX3_readsNot_15 : decode cX3_readsNot 15 = .ok (.aload_n 0, 1) := by decide +kernel
theorem dX3_readsNot_16 : decode cX3_readsNot 16 = .ok (.iload_n 1, 1) := by decide +kernel
theorem dX3_readsNot_17 : decode cX3_readsNot 17 = .ok (.iconst 1, 1) := by decide +kernel
theorem dX3_readsNot_18 : decode cX3_readsNot 18 = .ok (.iadd, 1) := by decide +kernel
theorem dX3_readsNot_19 : decode cX3_readsNot 19 = .ok (.invokevirtual 64, 3) := by decide +kernel
theorem dX3_readsNot_22 : decode cX3_readsNot 22 = .ok (.ifCond .eq 7, 3) := by decide +kernel
theorem dX3_readsNot_25 : decode cX3_readsNot 25 = .ok (.iconst 1, 1) := by decide +kernel
theorem dX3_readsNot_26 : decode cX3_readsNot 26 = .ok (.goto 4, 3) := by decide +kernel
theorem dX3_readsNot_29 : decode cX3_readsNot 29 = .ok (.iconst 0, 1) := by decide +kernel
theorem dX3_readsNot_30 : decode cX3_readsNot 30 = .ok (.ireturn, 1) := by decide +kernel
theorem dX3_readsNot_31 : decode cX3_readsNot 31 = .ok (.aload_n 0, 1) := by decide +kernel
theorem dX3_readsNot_32 : decode cX3_readsNot 32 = .ok (.iload_n 1, 1) := by decide +kernel
theorem dX3_readsNot_33 : decode cX3_readsNot 33 = .ok (.invokevirtual 67, 3) := by decide +kernel
theorem dX3_readsNot_36 : decode cX3_readsNot 36 = .ok (.ifCond .ne 5, 3) := by decide +kernel
theorem dX3_readsNot_39 : decode cX3_readsNot 39 = .ok (.iconst 0, 1) := by decide +kernel
theorem dX3_readsNot_40 : decode cX3_readsNot 40 = .ok (.ireturn, 1) := by decide +kernel
theorem dX3_readsNot_41 : decode cX3_readsNot 41 = .ok (.aload_n 0, 1) := by decide +kernel
theorem dX3_readsNot_42 : decode cX3_readsNot 42 = .ok (.getfield 52, 3) := by decide +kernel
theorem dX3_readsNot_45 : decode cX3_readsNot 45 = .ok (.istore_n 2, 1) := by decide +kernel
theorem dX3_readsNot_46 : decode cX3_readsNot 46 = .ok (.iload_n 2, 1) := by decide +kernel
theorem dX3_readsNot_47 : decode cX3_readsNot 47 = .ok (.bipush 60, 2) := by decide +kernel
theorem dX3_readsNot_49 : decode cX3_readsNot 49 = .ok (.if_icmp .eq 11, 3) := by decide +kernel
theorem dX3_readsNot_52 : decode cX3_readsNot 52 = .ok (.iload_n 2, 1) := by decide +kernel
theorem dX3_readsNot_53 : decode cX3_readsNot 53 = .ok (.bipush 61, 2) := by decide +kernel
theorem dX3_readsNot_55 : decode cX3_readsNot 55 = .ok (.if_icmp .eq 5, 3) := by decide +kernel
theorem dX3_readsNot_58 : decode cX3_readsNot 58 = .ok (.iconst 1, 1) := by decide +kernel
theorem dX3_readsNot_59 : decode cX3_readsNot 59 = .ok (.ireturn, 1) := by decide +kernel
theorem dX3_readsNot_60 : decode cX3_readsNot 60 = .ok (.aload_n 0, 1) := by decide +kernel
theorem dX3_readsNot_61 : decode cX3_readsNot 61 = .ok (.invokevirtual 31, 3) := by decide +kernel
theorem dX3_readsNot_64 : decode cX3_readsNot 64 = .ok (.aload_n 0, 1) := by decide +kernel
theorem dX3_readsNot_65 : decode cX3_readsNot 65 = .ok (.iload_n 1, 1) := by decide +kernel
theorem dX3_readsNot_66 : decode cX3_readsNot 66 = .ok (.invokevirtual 67, 3) := by decide +kernel
theorem dX3_readsNot_69 : decode cX3_readsNot 69 = .ok (.istore_n 3, 1) := by decide +kernel
theorem dX3_readsNot_70 : decode cX3_readsNot 70 = .ok (.aload_n 0, 1) := by decide +kernel
theorem dX3_readsNot_71 : decode cX3_readsNot 71 = .ok (.getfield 19, 3) := by decide +kernel
theorem dX3_readsNot_74 : decode cX3_readsNot 74 = .ok (.iload_n 2, 1) := by decide +kernel
theorem dX3_readsNot_75 : decode cX3_readsNot 75 = .ok (.ineg, 1) := by decide +kernel
theorem dX3_readsNot_76 : decode cX3_readsNot 76 = .ok (.invokevirtual 58, 3) := by decide +kernel
theorem dX3_readsNot_79 : decode cX3_readsNot 79 = .ok (.iload_n 3, 1) := by decide +kernel
theorem dX3_readsNot_80 : decode cX3_readsNot 80 = .ok (.ireturn, 1) := by decide +kernel
theorem dX3_readsNotBehindNot_0 : decode cX3_readsNotBehindNot 0 = .ok (.aload_n 0, 1) := by decide +kernel
theorem dX3_readsNotBehindNot_1 : decode cX3_readsNotBehindNot 1 = .ok (.invokevirtual 31, 3) := by decide +kernel
theorem dX3_readsNotBehindNot_4 : decode cX3_readsNotBehindNot 4 = .ok (.aload_n 0, 1) := by decide +kernel
theorem dX3_readsNotBehindNot_5 : decode cX3_readsNotBehindNot 5 = .ok (.iload_n 1, 1) := by decide +kernel
theorem dX3_readsNotBehindNot_6 : decode cX3_readsNotBehindNot 6 = .ok (.invokevirtual 61, 3) := by decide +kernel
theorem dX3_readsNotBehindNot_9 : decode cX3_readsNotBehindNot 9 = .ok (.istore_n 2, 1) := by decide +kernel
theorem dX3_readsNotBehindNot_10 : decode cX3_readsNotBehindNot 10 = .ok (.aload_n 0, 1) := by decide +kernel
theorem dX3_readsNotBehindNot_11 : decode cX3_readsNotBehindNot 11 = .ok (.getfield 19, 3) := by decide +kernel
theorem dX3_readsNotBehindNot_14 : decode cX3_readsNotBehindNot 14 = .ok (.sipush (-265), 3) := by decide +kernel
theorem dX3_readsNotBehindNot_17 : decode cX3_readsNotBehindNot 17 = .ok (.invokevirtual 58, 3) := by decide +kernel
theorem dX3_readsNotBehindNot_20 : decode cX3_readsNotBehindNot 20 = .ok (.iload_n 2, 1) := by decide +kernel
theorem dX3_readsNotBehindNot_21 : decode cX3_readsNotBehindNot 21 = .ok (.ireturn, 1) := by decide +kernel
theorem dX3_readsSum_0 : decode cX3_readsSum 0 = .ok (.aload_n 0, 1) := by decide +kernel
theorem dX3_readsSum_1 : decode cX3_readsSum 1 = .ok (.iload_n 1, 1) := by decide +kernel
theorem dX3_readsSum_2 : decode cX3_readsSum 2 = .ok (.invokevirtual 70, 3) := by decide +kernel
theorem dX3_readsSum_5 : decode cX3_readsSum 5 = .ok (.istore_n 2, 1) := by decide +kernel
theorem dX3_readsSum_6 : decode cX3_readsSum 6 = .ok (.iconst 0, 1) := by decide +kernel
theorem dX3_readsSum_7 : decode cX3_readsSum 7 = .ok (.istore_n 3, 1) := by decide +kernel
theorem dX3_readsSum_8 : decode cX3_readsSum 8 = .ok (.iload_n 3, 1) := by decide +kernel
theorem dX3_readsSum_9 : decode cX3_readsSum 9 = .ok (.sipush 160, 3) := by decide +kernel
theorem dX3_readsSum_12 : decode cX3_readsSum 12 = .ok (.if_icmp .ge 57, 3) := by decide +kernel
theorem dX3_readsSum_15 : decode cX3_readsSum 15 = .ok (.iload_n 2, 1) := by decide +kernel
theorem dX3_readsSum_16 : decode cX3_readsSum 16 = .ok (.ifCond .eq 53, 3) := by decide +kernel
theorem dX3_readsSum_19 : decode cX3_readsSum 19 = .ok (.aload_n 0, 1) := by decide +kernel
theorem dX3_readsSum_20 : decode cX3_readsSum 20 = .ok (.getfield 52, 3) := by decide +kernel
theorem dX3_readsSum_23 : decode cX3_readsSum 23 = .ok (.bipush 43, 2) := by decide +kernel
theorem dX3_readsSum_25 : decode cX3_readsSum 25 = .ok (.if_icmp .eq 12, 3) := by decide +kernel
theorem dX3_readsSum_28 : decode cX3_readsSum 28 = .ok (.aload_n 0, 1) := by decide +kernel
theorem dX3_readsSum_29 : decode cX3_readsSum 29 = .ok (.getfield 52, 3) := by decide +kernel
theorem dX3_readsSum_32 : decode cX3_readsSum 32 = .ok (.bipush 45, 2) := by decide +kernel
theorem dX3_readsSum_34 : decode cX3_readsSum 34 = .ok (.if_icmp .ne 35, 3) := by decide +kernel
theorem dX3_readsSum_37 : decode cX3_readsSum 37 = .ok (.aload_n 0, 1) := by decide +kernel
theorem dX3_readsSum_38 : decode cX3_readsSum 38 = .ok (.getfield 52, 3) := by decide +kernel
theorem dX3_readsSum_41 : decode cX3_readsSum 41 = .ok (.istore 4, 2) := by decide +kernel
theorem dX3_readsSum_43 : decode cX3_readsSum 43 = .ok (.aload_n 0, 1) := by decide +kernel
theorem dX3_readsSum_44 : decode cX3_readsSum 44 = .ok (.invokevirtual 31, 3) := by decide +kernel
theorem dX3_readsSum_47 : decode cX3_readsSum 47 = .ok (.aload_n 0, 1) := by decide +kernel
theorem dX3_readsSum_48 : decode cX3_readsSum 48 = .ok (.iload_n 1, 1) := by decide +kernel
theorem dX3_readsSum_49 : decode cX3_readsSum 49 = .ok (.invokevirtual 70, 3) := by decide +kernel
theorem dX3_readsSum_52 : decode cX3_readsSum 52 = .ok (.istore_n 2, 1) := by decide +kernel
theorem dX3_readsSum_53 : decode cX3_readsSum 53 = .ok (.aload_n 0, 1) := by decide +kernel
theorem dX3_readsSum_54 : decode cX3_readsSum 54 = .ok (.getfield 19, 3) := by decide +kernel
theorem dX3_readsSum_57 : decode cX3_readsSum 57 = .ok (.iload 4, 2) := by decide +kernel
theorem dX3_readsSum_59 : decode cX3_readsSum 59 = .ok (.ineg, 1) := by decide +kernel
theorem dX3_readsSum_60 : decode cX3_readsSum 60 = .ok (.invokevirtual 58, 3) := by decide +kernel
theorem dX3_readsSum_63 : decode cX3_readsSum 63 = .ok (.iinc 3 1, 3) := by decide +kernel
theorem dX3_readsSum_66 : decode cX3_readsSum 66 = .ok (.goto (-58), 3) := by decide +kernel
theorem dX3_readsSum_69 : decode cX3_readsSum 69 = .ok (.iload_n 2, 1) := by decide +kernel
theorem dX3_readsSum_70 : decode cX3_readsSum 70 = .ok (.ireturn, 1) := by decide +kernel
theorem dX3_readsTerm_0 : decode cX3_readsTerm 0 = .ok (.aload_n 0, 1) := by decide +kernel
theorem dX3_readsTerm_1 : decode cX3_readsTerm 1 = .ok (.iload_n 1, 1) := by decide +kernel
theorem dX3_readsTerm_2 : decode cX3_readsTerm 2 = .ok (.invokevirtual 73, 3) := by decide +kernel
theorem dX3_readsTerm_5 : decode cX3_readsTerm 5 = .ok (.istore_n 2, 1) := by decide +kernel
theorem dX3_readsTerm_6 : decode cX3_readsTerm 6 = .ok (.iconst 0, 1) := by decide +kernel
theorem dX3_readsTerm_7 : decode cX3_readsTerm 7 = .ok (.istore_n 3, 1) := by decide +kernel
theorem dX3_readsTerm_8 : decode cX3_readsTerm 8 = .ok (.iload_n 3, 1) := by decide +kernel
theorem dX3_readsTerm_9 : decode cX3_readsTerm 9 = .ok (.sipush 160, 3) := by decide +kernel
theorem dX3_readsTerm_12 : decode cX3_readsTerm 12 = .ok (.if_icmp .ge 41, 3) := by decide +kernel
theorem dX3_readsTerm_15 : decode cX3_readsTerm 15 = .ok (.iload_n 2, 1) := by decide +kernel
theorem dX3_readsTerm_16 : decode cX3_readsTerm 16 = .ok (.ifCond .eq 37, 3) := by decide +kernel
theorem dX3_readsTerm_19 : decode cX3_readsTerm 19 = .ok (.aload_n 0, 1) := by decide +kernel
theorem dX3_readsTerm_20 : decode cX3_readsTerm 20 = .ok (.getfield 52, 3) := by decide +kernel
theorem dX3_readsTerm_23 : decode cX3_readsTerm 23 = .ok (.bipush 42, 2) := by decide +kernel
theorem dX3_readsTerm_25 : decode cX3_readsTerm 25 = .ok (.if_icmp .ne 28, 3) := by decide +kernel
theorem dX3_readsTerm_28 : decode cX3_readsTerm 28 = .ok (.aload_n 0, 1) := by decide +kernel
theorem dX3_readsTerm_29 : decode cX3_readsTerm 29 = .ok (.invokevirtual 31, 3) := by decide +kernel
theorem dX3_readsTerm_32 : decode cX3_readsTerm 32 = .ok (.aload_n 0, 1) := by decide +kernel
theorem dX3_readsTerm_33 : decode cX3_readsTerm 33 = .ok (.iload_n 1, 1) := by decide +kernel
theorem dX3_readsTerm_34 : decode cX3_readsTerm 34 = .ok (.invokevirtual 73, 3) := by decide +kernel
theorem dX3_readsTerm_37 : decode cX3_readsTerm 37 = .ok (.istore_n 2, 1) := by decide +kernel
theorem dX3_readsTerm_38 : decode cX3_readsTerm 38 = .ok (.aload_n 0, 1) := by decide +kernel
theorem dX3_readsTerm_39 : decode cX3_readsTerm 39 = .ok (.getfield 19, 3) := by decide +kernel
theorem dX3_readsTerm_42 : decode cX3_readsTerm 42 = .ok (.bipush (-42), 2) := by decide +kernel
theorem dX3_readsTerm_44 : decode cX3_readsTerm 44 = .ok (.invokevirtual 58, 3) := by decide +kernel
theorem dX3_readsTerm_47 : decode cX3_readsTerm 47 = .ok (.iinc 3 1, 3) := by decide +kernel
theorem dX3_readsTerm_50 : decode cX3_readsTerm 50 = .ok (.goto (-42), 3) := by decide +kernel
theorem dX3_readsTerm_53 : decode cX3_readsTerm 53 = .ok (.iload_n 2, 1) := by decide +kernel
theorem dX3_readsTerm_54 : decode cX3_readsTerm 54 = .ok (.ireturn, 1) := by decide +kernel
theorem dX3_readsOne_0 : decode cX3_readsOne 0 = .ok (.aload_n 0, 1) := by decide +kernel
theorem dX3_readsOne_1 : decode cX3_readsOne 1 = .ok (.getfield 52, 3) := by decide +kernel
theorem dX3_readsOne_4 : decode cX3_readsOne 4 = .ok (.sipush 258, 3) := by decide +kernel
theorem dX3_readsOne_7 : decode cX3_readsOne 7 = .ok (.if_icmp .eq 13, 3) := by decide +kernel
theorem dX3_readsOne_10 : decode cX3_readsOne 10 = .ok (.aload_n 0, 1) := by decide +kernel
theorem dX3_readsOne_11 : decode cX3_readsOne 11 = .ok (.getfield 52, 3) := by decide +kernel
theorem dX3_readsOne_14 : decode cX3_readsOne 14 = .ok (.invokestatic 76, 3) := by decide +kernel
theorem dX3_readsOne_17 : decode cX3_readsOne 17 = .ok (.ifCond .eq 38, 3) := by decide +kernel
theorem dX3_readsOne_20 : decode cX3_readsOne 20 = .ok (.aload_n 0, 1) := by decide +kernel
theorem dX3_readsOne_21 : decode cX3_readsOne 21 = .ok (.getfield 19, 3) := by decide +kernel
theorem dX3_readsOne_24 : decode cX3_readsOne 24 = .ok (.aload_n 0, 1) := by decide +kernel
theorem dX3_readsOne_25 : decode cX3_readsOne 25 = .ok (.getfield 52, 3) := by decide +kernel
theorem dX3_readsOne_28 : decode cX3_readsOne 28 = .ok (.sipush 258, 3) := by decide +kernel
theorem dX3_readsOne_31 : decode cX3_readsOne 31 = .ok (.if_icmp .ne 10, 3) := by decide +kernel
theorem dX3_readsOne_34 : decode cX3_readsOne 34 = .ok (.aload_n 0, 1) := by decide +kernel
theorem dX3_readsOne_35 : decode cX3_readsOne 35 = .ok (.getfield 79, 3) := by decide +kernel
theorem dX3_readsOne_38 : decode cX3_readsOne 38 = .ok (.goto 8, 3) := by decide +kernel
theorem dX3_readsOne_41 : decode cX3_readsOne 41 = .ok (.aload_n 0, 1) := by decide +kernel
theorem dX3_readsOne_42 : decode cX3_readsOne 42 = .ok (.getfield 52, 3) := by decide +kernel
theorem dX3_readsOne_45 : decode cX3_readsOne 45 = .ok (.ineg, 1) := by decide +kernel
theorem dX3_readsOne_46 : decode cX3_readsOne 46 = .ok (.invokevirtual 58, 3) := by decide +kernel
theorem dX3_readsOne_49 : decode cX3_readsOne 49 = .ok (.aload_n 0, 1) := by decide +kernel
theorem dX3_readsOne_50 : decode cX3_readsOne 50 = .ok (.invokevirtual 31, 3) := by decide +kernel
theorem dX3_readsOne_53 : decode cX3_readsOne 53 = .ok (.iconst 1, 1) := by decide +kernel
theorem dX3_readsOne_54 : decode cX3_readsOne 54 = .ok (.ireturn, 1) := by decide +kernel
theorem dX3_readsOne_55 : decode cX3_readsOne 55 = .ok (.iload_n 1, 1) := by decide +kernel
theorem dX3_readsOne_56 : decode cX3_readsOne 56 = .ok (.iconst 5, 1) := by decide +kernel
theorem dX3_readsOne_57 : decode cX3_readsOne 57 = .ok (.if_icmp .lt 5, 3) := by decide +kernel
theorem dX3_readsOne_60 : decode cX3_readsOne 60 = .ok (.iconst 0, 1) := by decide +kernel
theorem dX3_readsOne_61 : decode cX3_readsOne 61 = .ok (.ireturn, 1) := by decide +kernel
theorem dX3_readsOne_62 : decode cX3_readsOne 62 = .ok (.aload_n 0, 1) := by decide +kernel
theorem dX3_readsOne_63 : decode cX3_readsOne 63 = .ok (.getfield 52, 3) := by decide +kernel
theorem dX3_readsOne_66 : decode cX3_readsOne 66 = .ok (.bipush 45, 2) := by decide +kernel
theorem dX3_readsOne_68 : decode cX3_readsOne 68 = .ok (.if_icmp .ne 11, 3) := by decide +kernel
theorem dX3_readsOne_71 : decode cX3_readsOne 71 = .ok (.aload_n 0, 1) := by decide +kernel
theorem dX3_readsOne_72 : decode cX3_readsOne 72 = .ok (.iload_n 1, 1) := by decide +kernel
theorem dX3_readsOne_73 : decode cX3_readsOne 73 = .ok (.iconst 1, 1) := by decide +kernel
theorem dX3_readsOne_74 : decode cX3_readsOne 74 = .ok (.iadd, 1) := by decide +kernel
theorem dX3_readsOne_75 : decode cX3_readsOne 75 = .ok (.invokevirtual 82, 3) := by decide +kernel
theorem dX3_readsOne_78 : decode cX3_readsOne 78 = .ok (.ireturn, 1) := by decide +kernel
theorem dX3_readsOne_79 : decode cX3_readsOne 79 = .ok (.aload_n 0, 1) := by decide +kernel
theorem dX3_readsOne_80 : decode cX3_readsOne 80 = .ok (.bipush 40, 2) := by decide +kernel
theorem dX3_readsOne_82 : decode cX3_readsOne 82 = .ok (.invokevirtual 41, 3) := by decide +kernel
theorem dX3_readsOne_85 : decode cX3_readsOne 85 = .ok (.ifCond .eq 26, 3) := by decide +kernel
theorem dX3_readsOne_88 : decode cX3_readsOne 88 = .ok (.aload_n 0, 1) := by decide +kernel
theorem dX3_readsOne_89 : decode cX3_readsOne 89 = .ok (.iload_n 1, 1) := by decide +kernel
theorem dX3_readsOne_90 : decode cX3_readsOne 90 = .ok (.iconst 1, 1) := by decide +kernel
theorem dX3_readsOne_91 : decode cX3_readsOne 91 = .ok (.iadd, 1) := by decide +kernel
theorem dX3_readsOne_92 : decode cX3_readsOne 92 = .ok (.invokevirtual 45, 3) := by decide +kernel
theorem dX3_readsOne_95 : decode cX3_readsOne 95 = .ok (.ifCond .eq 16, 3) := by decide +kernel
theorem dX3_readsOne_98 : decode cX3_readsOne 98 = .ok (.aload_n 0, 1) := by decide +kernel
theorem dX3_readsOne_99 : decode cX3_readsOne 99 = .ok (.bipush 41, 2) := by decide +kernel
theorem dX3_readsOne_101 : decode cX3_readsOne 101 = .ok (.invokevirtual 41, 3) := by decide +kernel
theorem dX3_readsOne_104 : decode cX3_readsOne 104 = .ok (.ifCond .eq 7, 3) := by decide +kernel
theorem dX3_readsOne_107 : decode cX3_readsOne 107 = .ok (.iconst 1, 1) := by decide +kernel
theorem dX3_readsOne_108 : decode cX3_readsOne 108 = .ok (.goto 4, 3) := by decide +kernel
theorem dX3_readsOne_111 : decode cX3_readsOne 111 = .ok (.iconst 0, 1) := by decide +kernel
theorem dX3_readsOne_112 : decode cX3_readsOne 112 = .ok (.ireturn, 1) := by decide +kernel
theorem dX3_readsOneBehindMinus_0 : decode cX3_readsOneBehindMinus 0 = .ok (.aload_n 0, 1) := by decide +kernel
theorem dX3_readsOneBehindMinus_1 : decode cX3_readsOneBehindMinus 1 = .ok (.invokevirtual 31, 3) := by decide +kernel
theorem dX3_readsOneBehindMinus_4 : decode cX3_readsOneBehindMinus 4 = .ok (.aload_n 0, 1) := by decide +kernel
theorem dX3_readsOneBehindMinus_5 : decode cX3_readsOneBehindMinus 5 = .ok (.iload_n 1, 1) := by decide +kernel
theorem dX3_readsOneBehindMinus_6 : decode cX3_readsOneBehindMinus 6 = .ok (.invokevirtual 73, 3) := by decide +kernel
theorem dX3_readsOneBehindMinus_9 : decode cX3_readsOneBehindMinus 9 = .ok (.istore_n 2, 1) := by decide +kernel
theorem dX3_readsOneBehindMinus_10 : decode cX3_readsOneBehindMinus 10 = .ok (.aload_n 0, 1) := by decide +kernel
theorem dX3_readsOneBehindMinus_11 : decode cX3_readsOneBehindMinus 11 = .ok (.getfield 19, 3) := by decide +kernel
theorem dX3_readsOneBehindMinus_14 : decode cX3_readsOneBehindMinus 14 = .ok (.sipush (-259), 3) := by decide +kernel
theorem dX3_readsOneBehindMinus_17 : decode cX3_readsOneBehindMinus 17 = .ok (.invokevirtual 58, 3) := by decide +kernel
theorem dX3_readsOneBehindMinus_20 : decode cX3_readsOneBehindMinus 20 = .ok (.iload_n 2, 1) := by decide +kernel
theorem dX3_readsOneBehindMinus_21 : decode cX3_readsOneBehindMinus 21 = .ok (.ireturn, 1) := by decide +kernel
theorem dX3_next_0 : decode cX3_next 0 = .ok (.aload_n 0, 1) := by decide +kernel
theorem dX3_next_1 : decode cX3_next 1 = .ok (.getfield 28, 3) := by decide +kernel
theorem dX3_next_4 : decode cX3_next 4 = .ok (.aload_n 0, 1) := by decide +kernel
theorem dX3_next_5 : decode cX3_next 5 = .ok (.getfield 15, 3) := by decide +kernel
theorem dX3_next_8 : decode cX3_next 8 = .ok (.if_icmp .ge 31, 3) := by decide +kernel
theorem dX3_next_11 : decode cX3_next 11 = .ok (.aload_n 0, 1) := by decide +kernel
theorem dX3_next_12 : decode cX3_next 12 = .ok (.getfield 11, 3) := by decide +kernel
theorem dX3_next_15 : decode cX3_next 15 = .ok (.aload_n 0, 1) := by decide +kernel
theorem dX3_next_16 : decode cX3_next 16 = .ok (.getfield 28, 3) := by decide +kernel
theorem dX3_next_19 : decode cX3_next 19 = .ok (.iaload, 1) := by decide +kernel
theorem dX3_next_20 : decode cX3_next 20 = .ok (.invokestatic 85, 3) := by decide +kernel
theorem dX3_next_23 : decode cX3_next 23 = .ok (.ifCond .eq 16, 3) := by decide +kernel
theorem dX3_next_26 : decode cX3_next 26 = .ok (.aload_n 0, 1) := by decide +kernel
theorem dX3_next_27 : decode cX3_next 27 = .ok (.dup, 1) := by decide +kernel
theorem dX3_next_28 : decode cX3_next 28 = .ok (.getfield 28, 3) := by decide +kernel
theorem dX3_next_31 : decode cX3_next 31 = .ok (.iconst 1, 1) := by decide +kernel
theorem dX3_next_32 : decode cX3_next 32 = .ok (.iadd, 1) := by decide +kernel
theorem dX3_next_33 : decode cX3_next 33 = .ok (.putfield 28, 3) := by decide +kernel
theorem dX3_next_36 : decode cX3_next 36 = .ok (.goto (-36), 3) := by decide +kernel
theorem dX3_next_39 : decode cX3_next 39 = .ok (.aload_n 0, 1) := by decide +kernel
theorem dX3_next_40 : decode cX3_next 40 = .ok (.aload_n 0, 1) := by decide +kernel
theorem dX3_next_41 : decode cX3_next 41 = .ok (.getfield 28, 3) := by decide +kernel
theorem dX3_next_44 : decode cX3_next 44 = .ok (.putfield 38, 3) := by decide +kernel
theorem dX3_next_47 : decode cX3_next 47 = .ok (.aload_n 0, 1) := by decide +kernel
theorem dX3_next_48 : decode cX3_next 48 = .ok (.getfield 28, 3) := by decide +kernel
theorem dX3_next_51 : decode cX3_next 51 = .ok (.aload_n 0, 1) := by decide +kernel
theorem dX3_next_52 : decode cX3_next 52 = .ok (.getfield 15, 3) := by decide +kernel
theorem dX3_next_55 : decode cX3_next 55 = .ok (.if_icmp .lt 13, 3) := by decide +kernel
theorem dX3_next_58 : decode cX3_next 58 = .ok (.aload_n 0, 1) := by decide +kernel
theorem dX3_next_59 : decode cX3_next 59 = .ok (.sipush 256, 3) := by decide +kernel
theorem dX3_next_62 : decode cX3_next 62 = .ok (.putfield 52, 3) := by decide +kernel
theorem dX3_next_65 : decode cX3_next 65 = .ok (.goto 91, 3) := by decide +kernel
theorem dX3_next_68 : decode cX3_next 68 = .ok (.aload_n 0, 1) := by decide +kernel
theorem dX3_next_69 : decode cX3_next 69 = .ok (.getfield 11, 3) := by decide +kernel
theorem dX3_next_72 : decode cX3_next 72 = .ok (.aload_n 0, 1) := by decide +kernel
theorem dX3_next_73 : decode cX3_next 73 = .ok (.getfield 28, 3) := by decide +kernel
theorem dX3_next_76 : decode cX3_next 76 = .ok (.iaload, 1) := by decide +kernel
theorem dX3_next_77 : decode cX3_next 77 = .ok (.invokestatic 88, 3) := by decide +kernel
theorem dX3_next_80 : decode cX3_next 80 = .ok (.ifCond .eq 10, 3) := by decide +kernel
theorem dX3_next_83 : decode cX3_next 83 = .ok (.aload_n 0, 1) := by decide +kernel
theorem dX3_next_84 : decode cX3_next 84 = .ok (.invokevirtual 91, 3) := by decide +kernel
theorem dX3_next_87 : decode cX3_next 87 = .ok (.goto 69, 3) := by decide +kernel
theorem dX3_next_90 : decode cX3_next 90 = .ok (.aload_n 0, 1) := by decide +kernel
theorem dX3_next_91 : decode cX3_next 91 = .ok (.getfield 11, 3) := by decide +kernel
theorem dX3_next_94 : decode cX3_next 94 = .ok (.aload_n 0, 1) := by decide +kernel
theorem dX3_next_95 : decode cX3_next 95 = .ok (.getfield 28, 3) := by decide +kernel
theorem dX3_next_98 : decode cX3_next 98 = .ok (.iaload, 1) := by decide +kernel
theorem dX3_next_99 : decode cX3_next 99 = .ok (.invokestatic 94, 3) := by decide +kernel
theorem dX3_next_102 : decode cX3_next 102 = .ok (.ifCond .eq 10, 3) := by decide +kernel
theorem dX3_next_105 : decode cX3_next 105 = .ok (.aload_n 0, 1) := by decide +kernel
theorem dX3_next_106 : decode cX3_next 106 = .ok (.invokevirtual 97, 3) := by decide +kernel
theorem dX3_next_109 : decode cX3_next 109 = .ok (.goto 47, 3) := by decide +kernel
theorem dX3_next_112 : decode cX3_next 112 = .ok (.aload_n 0, 1) := by decide +kernel
theorem dX3_next_113 : decode cX3_next 113 = .ok (.aload_n 0, 1) := by decide +kernel
theorem dX3_next_114 : decode cX3_next 114 = .ok (.getfield 11, 3) := by decide +kernel
theorem dX3_next_117 : decode cX3_next 117 = .ok (.aload_n 0, 1) := by decide +kernel
theorem dX3_next_118 : decode cX3_next 118 = .ok (.getfield 28, 3) := by decide +kernel
theorem dX3_next_121 : decode cX3_next 121 = .ok (.iaload, 1) := by decide +kernel
theorem dX3_next_122 : decode cX3_next 122 = .ok (.invokestatic 100, 3) := by decide +kernel
theorem dX3_next_125 : decode cX3_next 125 = .ok (.ifCond .eq 15, 3) := by decide +kernel
theorem dX3_next_128 : decode cX3_next 128 = .ok (.aload_n 0, 1) := by decide +kernel
theorem dX3_next_129 : decode cX3_next 129 = .ok (.getfield 11, 3) := by decide +kernel
theorem dX3_next_132 : decode cX3_next 132 = .ok (.aload_n 0, 1) := by decide +kernel
theorem dX3_next_133 : decode cX3_next 133 = .ok (.getfield 28, 3) := by decide +kernel
theorem dX3_next_136 : decode cX3_next 136 = .ok (.iaload, 1) := by decide +kernel
theorem dX3_next_137 : decode cX3_next 137 = .ok (.goto 6, 3) := by decide +kernel
theorem dX3_next_140 : decode cX3_next 140 = .ok (.sipush 257, 3) := by decide +kernel
theorem dX3_next_143 : decode cX3_next 143 = .ok (.putfield 52, 3) := by decide +kernel
theorem dX3_next_146 : decode cX3_next 146 = .ok (.aload_n 0, 1) := by decide +kernel
theorem dX3_next_147 : decode cX3_next 147 = .ok (.dup, 1) := by decide +kernel
theorem dX3_next_148 : decode cX3_next 148 = .ok (.getfield 28, 3) := by decide +kernel
theorem dX3_next_151 : decode cX3_next 151 = .ok (.iconst 1, 1) := by decide +kernel
theorem dX3_next_152 : decode cX3_next 152 = .ok (.iadd, 1) := by decide +kernel
theorem dX3_next_153 : decode cX3_next 153 = .ok (.putfield 28, 3) := by decide +kernel
theorem dX3_next_156 : decode cX3_next 156 = .ok (.return_, 1) := by decide +kernel
theorem dX3_nextWord_0 : decode cX3_nextWord 0 = .ok (.aload_n 0, 1) := by decide +kernel
theorem dX3_nextWord_1 : decode cX3_nextWord 1 = .ok (.getfield 28, 3) := by decide +kernel
theorem dX3_nextWord_4 : decode cX3_nextWord 4 = .ok (.aload_n 0, 1) := by decide +kernel
theorem dX3_nextWord_5 : decode cX3_nextWord 5 = .ok (.getfield 15, 3) := by decide +kernel
theorem dX3_nextWord_8 : decode cX3_nextWord 8 = .ok (.if_icmp .ge 31, 3) := by decide +kernel
theorem dX3_nextWord_11 : decode cX3_nextWord 11 = .ok (.aload_n 0, 1) := by decide +kernel
theorem dX3_nextWord_12 : decode cX3_nextWord 12 = .ok (.getfield 11, 3) := by decide +kernel
theorem dX3_nextWord_15 : decode cX3_nextWord 15 = .ok (.aload_n 0, 1) := by decide +kernel
theorem dX3_nextWord_16 : decode cX3_nextWord 16 = .ok (.getfield 28, 3) := by decide +kernel
theorem dX3_nextWord_19 : decode cX3_nextWord 19 = .ok (.iaload, 1) := by decide +kernel
theorem dX3_nextWord_20 : decode cX3_nextWord 20 = .ok (.invokestatic 88, 3) := by decide +kernel
theorem dX3_nextWord_23 : decode cX3_nextWord 23 = .ok (.ifCond .eq 16, 3) := by decide +kernel
theorem dX3_nextWord_26 : decode cX3_nextWord 26 = .ok (.aload_n 0, 1) := by decide +kernel
theorem dX3_nextWord_27 : decode cX3_nextWord 27 = .ok (.dup, 1) := by decide +kernel
theorem dX3_nextWord_28 : decode cX3_nextWord 28 = .ok (.getfield 28, 3) := by decide +kernel
theorem dX3_nextWord_31 : decode cX3_nextWord 31 = .ok (.iconst 1, 1) := by decide +kernel
theorem dX3_nextWord_32 : decode cX3_nextWord 32 = .ok (.iadd, 1) := by decide +kernel
theorem dX3_nextWord_33 : decode cX3_nextWord 33 = .ok (.putfield 28, 3) := by decide +kernel
theorem dX3_nextWord_36 : decode cX3_nextWord 36 = .ok (.goto (-36), 3) := by decide +kernel
theorem dX3_nextWord_39 : decode cX3_nextWord 39 = .ok (.aload_n 0, 1) := by decide +kernel
theorem dX3_nextWord_40 : decode cX3_nextWord 40 = .ok (.sipush 257, 3) := by decide +kernel
theorem dX3_nextWord_43 : decode cX3_nextWord 43 = .ok (.putfield 52, 3) := by decide +kernel
theorem dX3_nextWord_46 : decode cX3_nextWord 46 = .ok (.iconst 0, 1) := by decide +kernel
theorem dX3_nextWord_47 : decode cX3_nextWord 47 = .ok (.istore_n 1, 1) := by decide +kernel
theorem dX3_nextWord_48 : decode cX3_nextWord 48 = .ok (.iconst 0, 1) := by decide +kernel
theorem dX3_nextWord_49 : decode cX3_nextWord 49 = .ok (.istore_n 2, 1) := by decide +kernel
theorem dX3_nextWord_50 : decode cX3_nextWord 50 = .ok (.iconst 0, 1) := by decide +kernel
theorem dX3_nextWord_51 : decode cX3_nextWord 51 = .ok (.istore_n 3, 1) := by decide +kernel
theorem dX3_nextWord_52 : decode cX3_nextWord 52 = .ok (.iload_n 3, 1) := by decide +kernel
theorem dX3_nextWord_53 : decode cX3_nextWord 53 = .ok (.ldc 103, 2) := by decide +kernel
theorem dX3_nextWord_55 : decode cX3_nextWord 55 = .ok (.invokevirtual 105, 3) := by decide +kernel
theorem dX3_nextWord_58 : decode cX3_nextWord 58 = .ok (.if_icmp .ge 45, 3) := by decide +kernel
theorem dX3_nextWord_61 : decode cX3_nextWord 61 = .ok (.ldc 103, 2) := by decide +kernel
theorem dX3_nextWord_63 : decode cX3_nextWord 63 = .ok (.iload_n 3, 1) := by decide +kernel
theorem dX3_nextWord_64 : decode cX3_nextWord 64 = .ok (.invokevirtual 111, 3) := by decide +kernel
theorem dX3_nextWord_67 : decode cX3_nextWord 67 = .ok (.bipush 32, 2) := by decide +kernel
theorem dX3_nextWord_69 : decode cX3_nextWord 69 = .ok (.if_icmp .ne 28, 3) := by decide +kernel
theorem dX3_nextWord_72 : decode cX3_nextWord 72 = .ok (.aload_n 0, 1) := by decide +kernel
theorem dX3_nextWord_73 : decode cX3_nextWord 73 = .ok (.iload_n 1, 1) := by decide +kernel
theorem dX3_nextWord_74 : decode cX3_nextWord 74 = .ok (.iload_n 3, 1) := by decide +kernel
theorem dX3_nextWord_75 : decode cX3_nextWord 75 = .ok (.invokevirtual 115, 3) := by decide +kernel
theorem dX3_nextWord_78 : decode cX3_nextWord 78 = .ok (.ifCond .eq 12, 3) := by decide +kernel
theorem dX3_nextWord_81 : decode cX3_nextWord 81 = .ok (.aload_n 0, 1) := by decide +kernel
theorem dX3_nextWord_82 : decode cX3_nextWord 82 = .ok (.sipush 260, 3) := by decide +kernel
theorem dX3_nextWord_85 : decode cX3_nextWord 85 = .ok (.iload_n 2, 1) := by decide +kernel
theorem dX3_nextWord_86 : decode cX3_nextWord 86 = .ok (.iadd, 1) := by decide +kernel
theorem dX3_nextWord_87 : decode cX3_nextWord 87 = .ok (.putfield 52, 3) := by decide +kernel
theorem dX3_nextWord_90 : decode cX3_nextWord 90 = .ok (.iload_n 3, 1) := by decide +kernel
theorem dX3_nextWord_91 : decode cX3_nextWord 91 = .ok (.iconst 1, 1) := by decide +kernel
theorem dX3_nextWord_92 : decode cX3_nextWord 92 = .ok (.iadd, 1) := by decide +kernel
theorem dX3_nextWord_93 : decode cX3_nextWord 93 = .ok (.istore_n 1, 1) := by decide +kernel
theorem dX3_nextWord_94 : decode cX3_nextWord 94 = .ok (.iinc 2 1, 3) := by decide +kernel
theorem dX3_nextWord_97 : decode cX3_nextWord 97 = .ok (.iinc 3 1, 3) := by decide +kernel
theorem dX3_nextWord_100 : decode cX3_nextWord 100 = .ok (.goto (-48), 3) := by decide +kernel
theorem dX3_nextWord_103 : decode cX3_nextWord 103 = .ok (.return_, 1) := by decide +kernel
theorem dX3_spells_0 : decode cX3_spells 0 = .ok (.aload_n 0, 1) := by decide +kernel
theorem dX3_spells_1 : decode cX3_spells 1 = .ok (.getfield 28, 3) := by decide +kernel
theorem dX3_spells_4 : decode cX3_spells 4 = .ok (.aload_n 0, 1) := by decide +kernel
theorem dX3_spells_5 : decode cX3_spells 5 = .ok (.getfield 38, 3) := by decide +kernel
theorem dX3_spells_8 : decode cX3_spells 8 = .ok (.isub, 1) := by decide +kernel
theorem dX3_spells_9 : decode cX3_spells 9 = .ok (.iload_n 2, 1) := by decide +kernel
theorem dX3_spells_10 : decode cX3_spells 10 = .ok (.iload_n 1, 1) := by decide +kernel
theorem dX3_spells_11 : decode cX3_spells 11 = .ok (.isub, 1) := by decide +kernel
theorem dX3_spells_12 : decode cX3_spells 12 = .ok (.if_icmp .eq 5, 3) := by decide +kernel
theorem dX3_spells_15 : decode cX3_spells 15 = .ok (.iconst 0, 1) := by decide +kernel
theorem dX3_spells_16 : decode cX3_spells 16 = .ok (.ireturn, 1) := by decide +kernel
theorem dX3_spells_17 : decode cX3_spells 17 = .ok (.iconst 0, 1) := by decide +kernel
theorem dX3_spells_18 : decode cX3_spells 18 = .ok (.istore_n 3, 1) := by decide +kernel
theorem dX3_spells_19 : decode cX3_spells 19 = .ok (.iload_n 3, 1) := by decide +kernel
theorem dX3_spells_20 : decode cX3_spells 20 = .ok (.iload_n 2, 1) := by decide +kernel
theorem dX3_spells_21 : decode cX3_spells 21 = .ok (.iload_n 1, 1) := by decide +kernel
theorem dX3_spells_22 : decode cX3_spells 22 = .ok (.isub, 1) := by decide +kernel
theorem dX3_spells_23 : decode cX3_spells 23 = .ok (.if_icmp .ge 33, 3) := by decide +kernel
theorem dX3_spells_26 : decode cX3_spells 26 = .ok (.aload_n 0, 1) := by decide +kernel
theorem dX3_spells_27 : decode cX3_spells 27 = .ok (.getfield 11, 3) := by decide +kernel
theorem dX3_spells_30 : decode cX3_spells 30 = .ok (.aload_n 0, 1) := by decide +kernel
theorem dX3_spells_31 : decode cX3_spells 31 = .ok (.getfield 38, 3) := by decide +kernel
theorem dX3_spells_34 : decode cX3_spells 34 = .ok (.iload_n 3, 1) := by decide +kernel
theorem dX3_spells_35 : decode cX3_spells 35 = .ok (.iadd, 1) := by decide +kernel
theorem dX3_spells_36 : decode cX3_spells 36 = .ok (.iaload, 1) := by decide +kernel
theorem dX3_spells_37 : decode cX3_spells 37 = .ok (.ldc 103, 2) := by decide +kernel
theorem dX3_spells_39 : decode cX3_spells 39 = .ok (.iload_n 1, 1) := by decide +kernel
theorem dX3_spells_40 : decode cX3_spells 40 = .ok (.iload_n 3, 1) := by decide +kernel
theorem dX3_spells_41 : decode cX3_spells 41 = .ok (.iadd, 1) := by decide +kernel
theorem dX3_spells_42 : decode cX3_spells 42 = .ok (.invokevirtual 111, 3) := by decide +kernel
theorem dX3_spells_45 : decode cX3_spells 45 = .ok (.if_icmp .eq 5, 3) := by decide +kernel
theorem dX3_spells_48 : decode cX3_spells 48 = .ok (.iconst 0, 1) := by decide +kernel
theorem dX3_spells_49 : decode cX3_spells 49 = .ok (.ireturn, 1) := by decide +kernel
theorem dX3_spells_50 : decode cX3_spells 50 = .ok (.iinc 3 1, 3) := by decide +kernel
theorem dX3_spells_53 : decode cX3_spells 53 = .ok (.goto (-34), 3) := by decide +kernel
theorem dX3_spells_56 : decode cX3_spells 56 = .ok (.iconst 1, 1) := by decide +kernel
theorem dX3_spells_57 : decode cX3_spells 57 = .ok (.ireturn, 1) := by decide +kernel
theorem dX3_nextNumber_0 : decode cX3_nextNumber 0 = .ok (.aload_n 0, 1) := by decide +kernel
theorem dX3_nextNumber_1 : decode cX3_nextNumber 1 = .ok (.iconst 0, 1) := by decide +kernel
theorem dX3_nextNumber_2 : decode cX3_nextNumber 2 = .ok (.putfield 79, 3) := by decide +kernel
theorem dX3_nextNumber_5 : decode cX3_nextNumber 5 = .ok (.aload_n 0, 1) := by decide +kernel
theorem dX3_nextNumber_6 : decode cX3_nextNumber 6 = .ok (.getfield 28, 3) := by decide +kernel
theorem dX3_nextNumber_9 : decode cX3_nextNumber 9 = .ok (.aload_n 0, 1) := by decide +kernel
theorem dX3_nextNumber_10 : decode cX3_nextNumber 10 = .ok (.getfield 15, 3) := by decide +kernel
theorem dX3_nextNumber_13 : decode cX3_nextNumber 13 = .ok (.if_icmp .ge 55, 3) := by decide +kernel
theorem dX3_nextNumber_16 : decode cX3_nextNumber 16 = .ok (.aload_n 0, 1) := by decide +kernel
theorem dX3_nextNumber_17 : decode cX3_nextNumber 17 = .ok (.getfield 11, 3) := by decide +kernel
theorem dX3_nextNumber_20 : decode cX3_nextNumber 20 = .ok (.aload_n 0, 1) := by decide +kernel
theorem dX3_nextNumber_21 : decode cX3_nextNumber 21 = .ok (.getfield 28, 3) := by decide +kernel
theorem dX3_nextNumber_24 : decode cX3_nextNumber 24 = .ok (.iaload, 1) := by decide +kernel
theorem dX3_nextNumber_25 : decode cX3_nextNumber 25 = .ok (.invokestatic 94, 3) := by decide +kernel
theorem dX3_nextNumber_28 : decode cX3_nextNumber 28 = .ok (.ifCond .eq 40, 3) := by decide +kernel
theorem dX3_nextNumber_31 : decode cX3_nextNumber 31 = .ok (.aload_n 0, 1) := by decide +kernel
theorem dX3_nextNumber_32 : decode cX3_nextNumber 32 = .ok (.aload_n 0, 1) := by decide +kernel
theorem dX3_nextNumber_33 : decode cX3_nextNumber 33 = .ok (.getfield 79, 3) := by decide +kernel
theorem dX3_nextNumber_36 : decode cX3_nextNumber 36 = .ok (.bipush 10, 2) := by decide +kernel
theorem dX3_nextNumber_38 : decode cX3_nextNumber 38 = .ok (.imul, 1) := by decide +kernel
theorem dX3_nextNumber_39 : decode cX3_nextNumber 39 = .ok (.aload_n 0, 1) := by decide +kernel
theorem dX3_nextNumber_40 : decode cX3_nextNumber 40 = .ok (.getfield 11, 3) := by decide +kernel
theorem dX3_nextNumber_43 : decode cX3_nextNumber 43 = .ok (.aload_n 0, 1) := by decide +kernel
theorem dX3_nextNumber_44 : decode cX3_nextNumber 44 = .ok (.getfield 28, 3) := by decide +kernel
theorem dX3_nextNumber_47 : decode cX3_nextNumber 47 = .ok (.iaload, 1) := by decide +kernel
theorem dX3_nextNumber_48 : decode cX3_nextNumber 48 = .ok (.iadd, 1) := by decide +kernel
theorem dX3_nextNumber_49 : decode cX3_nextNumber 49 = .ok (.bipush 48, 2) := by decide +kernel
theorem dX3_nextNumber_51 : decode cX3_nextNumber 51 = .ok (.isub, 1) := by decide +kernel
theorem dX3_nextNumber_52 : decode cX3_nextNumber 52 = .ok (.putfield 79, 3) := by decide +kernel
theorem dX3_nextNumber_55 : decode cX3_nextNumber 55 = .ok (.aload_n 0, 1) := by decide +kernel
theorem dX3_nextNumber_56 : decode cX3_nextNumber 56 = .ok (.dup, 1) := by decide +kernel
theorem dX3_nextNumber_57 : decode cX3_nextNumber 57 = .ok (.getfield 28, 3) := by decide +kernel
theorem dX3_nextNumber_60 : decode cX3_nextNumber 60 = .ok (.iconst 1, 1) := by decide +kernel
theorem dX3_nextNumber_61 : decode cX3_nextNumber 61 = .ok (.iadd, 1) := by decide +kernel
theorem dX3_nextNumber_62 : decode cX3_nextNumber 62 = .ok (.putfield 28, 3) := by decide +kernel
theorem dX3_nextNumber_65 : decode cX3_nextNumber 65 = .ok (.goto (-60), 3) := by decide +kernel
theorem dX3_nextNumber_68 : decode cX3_nextNumber 68 = .ok (.aload_n 0, 1) := by decide +kernel
theorem dX3_nextNumber_69 : decode cX3_nextNumber 69 = .ok (.aload_n 0, 1) := by decide +kernel
theorem dX3_nextNumber_70 : decode cX3_nextNumber 70 = .ok (.getfield 28, 3) := by decide +kernel
theorem dX3_nextNumber_73 : decode cX3_nextNumber 73 = .ok (.aload_n 0, 1) := by decide +kernel
theorem dX3_nextNumber_74 : decode cX3_nextNumber 74 = .ok (.getfield 38, 3) := by decide +kernel
theorem dX3_nextNumber_77 : decode cX3_nextNumber 77 = .ok (.isub, 1) := by decide +kernel
theorem dX3_nextNumber_78 : decode cX3_nextNumber 78 = .ok (.iconst 4, 1) := by decide +kernel
theorem dX3_nextNumber_79 : decode cX3_nextNumber 79 = .ok (.if_icmp .le 9, 3) := by decide +kernel
theorem dX3_nextNumber_82 : decode cX3_nextNumber 82 = .ok (.sipush 257, 3) := by decide +kernel
theorem dX3_nextNumber_85 : decode cX3_nextNumber 85 = .ok (.goto 6, 3) := by decide +kernel
theorem dX3_nextNumber_88 : decode cX3_nextNumber 88 = .ok (.sipush 258, 3) := by decide +kernel
theorem dX3_nextNumber_91 : decode cX3_nextNumber 91 = .ok (.putfield 52, 3) := by decide +kernel
theorem dX3_nextNumber_94 : decode cX3_nextNumber 94 = .ok (.return_, 1) := by decide +kernel
theorem dX3_isBlank_0 : decode cX3_isBlank 0 = .ok (.iload_n 0, 1) := by decide +kernel
theorem dX3_isBlank_1 : decode cX3_isBlank 1 = .ok (.bipush 32, 2) := by decide +kernel
theorem dX3_isBlank_3 : decode cX3_isBlank 3 = .ok (.if_icmp .eq 9, 3) := by decide +kernel
theorem dX3_isBlank_6 : decode cX3_isBlank 6 = .ok (.iload_n 0, 1) := by decide +kernel
theorem dX3_isBlank_7 : decode cX3_isBlank 7 = .ok (.bipush 10, 2) := by decide +kernel
theorem dX3_isBlank_9 : decode cX3_isBlank 9 = .ok (.if_icmp .ne 7, 3) := by decide +kernel
theorem dX3_isBlank_12 : decode cX3_isBlank 12 = .ok (.iconst 1, 1) := by decide +kernel
theorem dX3_isBlank_13 : decode cX3_isBlank 13 = .ok (.goto 4, 3) := by decide +kernel
theorem dX3_isBlank_16 : decode cX3_isBlank 16 = .ok (.iconst 0, 1) := by decide +kernel
theorem dX3_isBlank_17 : decode cX3_isBlank 17 = .ok (.ireturn, 1) := by decide +kernel
theorem dX3_isLetter_0 : decode cX3_isLetter 0 = .ok (.iload_n 0, 1) := by decide +kernel
theorem dX3_isLetter_1 : decode cX3_isLetter 1 = .ok (.bipush 97, 2) := by decide +kernel
theorem dX3_isLetter_3 : decode cX3_isLetter 3 = .ok (.if_icmp .lt 13, 3) := by decide +kernel
theorem dX3_isLetter_6 : decode cX3_isLetter 6 = .ok (.iload_n 0, 1) := by decide +kernel
theorem dX3_isLetter_7 : decode cX3_isLetter 7 = .ok (.bipush 122, 2) := by decide +kernel
theorem dX3_isLetter_9 : decode cX3_isLetter 9 = .ok (.if_icmp .gt 7, 3) := by decide +kernel
theorem dX3_isLetter_12 : decode cX3_isLetter 12 = .ok (.iconst 1, 1) := by decide +kernel
theorem dX3_isLetter_13 : decode cX3_isLetter 13 = .ok (.goto 4, 3) := by decide +kernel
theorem dX3_isLetter_16 : decode cX3_isLetter 16 = .ok (.iconst 0, 1) := by decide +kernel
theorem dX3_isLetter_17 : decode cX3_isLetter 17 = .ok (.ireturn, 1) := by decide +kernel
theorem dX3_isDigit_0 : decode cX3_isDigit 0 = .ok (.iload_n 0, 1) := by decide +kernel
theorem dX3_isDigit_1 : decode cX3_isDigit 1 = .ok (.bipush 48, 2) := by decide +kernel
theorem dX3_isDigit_3 : decode cX3_isDigit 3 = .ok (.if_icmp .lt 13, 3) := by decide +kernel
theorem dX3_isDigit_6 : decode cX3_isDigit 6 = .ok (.iload_n 0, 1) := by decide +kernel
theorem dX3_isDigit_7 : decode cX3_isDigit 7 = .ok (.bipush 57, 2) := by decide +kernel
theorem dX3_isDigit_9 : decode cX3_isDigit 9 = .ok (.if_icmp .gt 7, 3) := by decide +kernel
theorem dX3_isDigit_12 : decode cX3_isDigit 12 = .ok (.iconst 1, 1) := by decide +kernel
theorem dX3_isDigit_13 : decode cX3_isDigit 13 = .ok (.goto 4, 3) := by decide +kernel
theorem dX3_isDigit_16 : decode cX3_isDigit 16 = .ok (.iconst 0, 1) := by decide +kernel
theorem dX3_isDigit_17 : decode cX3_isDigit 17 = .ok (.ireturn, 1) := by decide +kernel
theorem dX3_isSign_0 : decode cX3_isSign 0 = .ok (.iload_n 0, 1) := by decide +kernel
theorem dX3_isSign_1 : decode cX3_isSign 1 = .ok (.bipush 40, 2) := by decide +kernel
theorem dX3_isSign_3 : decode cX3_isSign 3 = .ok (.if_icmp .lt 15, 3) := by decide +kernel
theorem dX3_isSign_6 : decode cX3_isSign 6 = .ok (.iload_n 0, 1) := by decide +kernel
theorem dX3_isSign_7 : decode cX3_isSign 7 = .ok (.bipush 45, 2) := by decide +kernel
theorem dX3_isSign_9 : decode cX3_isSign 9 = .ok (.if_icmp .gt 9, 3) := by decide +kernel
theorem dX3_isSign_12 : decode cX3_isSign 12 = .ok (.iload_n 0, 1) := by decide +kernel
theorem dX3_isSign_13 : decode cX3_isSign 13 = .ok (.bipush 44, 2) := by decide +kernel
theorem dX3_isSign_15 : decode cX3_isSign 15 = .ok (.if_icmp .ne 21, 3) := by decide +kernel
theorem dX3_isSign_18 : decode cX3_isSign 18 = .ok (.iload_n 0, 1) := by decide +kernel
theorem dX3_isSign_19 : decode cX3_isSign 19 = .ok (.bipush 59, 2) := by decide +kernel
theorem dX3_isSign_21 : decode cX3_isSign 21 = .ok (.if_icmp .eq 15, 3) := by decide +kernel
theorem dX3_isSign_24 : decode cX3_isSign 24 = .ok (.iload_n 0, 1) := by decide +kernel
theorem dX3_isSign_25 : decode cX3_isSign 25 = .ok (.bipush 60, 2) := by decide +kernel
theorem dX3_isSign_27 : decode cX3_isSign 27 = .ok (.if_icmp .eq 9, 3) := by decide +kernel
theorem dX3_isSign_30 : decode cX3_isSign 30 = .ok (.iload_n 0, 1) := by decide +kernel
theorem dX3_isSign_31 : decode cX3_isSign 31 = .ok (.bipush 61, 2) := by decide +kernel
theorem dX3_isSign_33 : decode cX3_isSign 33 = .ok (.if_icmp .ne 7, 3) := by decide +kernel
theorem dX3_isSign_36 : decode cX3_isSign 36 = .ok (.iconst 1, 1) := by decide +kernel
theorem dX3_isSign_37 : decode cX3_isSign 37 = .ok (.goto 4, 3) := by decide +kernel
theorem dX3_isSign_40 : decode cX3_isSign 40 = .ok (.iconst 0, 1) := by decide +kernel
theorem dX3_isSign_41 : decode cX3_isSign 41 = .ok (.ireturn, 1) := by decide +kernel
theorem dX4_init_0 : decode cX4_init 0 = .ok (.aload_n 0, 1) := by decide +kernel
theorem dX4_init_1 : decode cX4_init 1 = .ok (.invokespecial 3, 3) := by decide +kernel
theorem dX4_init_4 : decode cX4_init 4 = .ok (.aload_n 0, 1) := by decide +kernel
theorem dX4_init_5 : decode cX4_init 5 = .ok (.sipush 160, 3) := by decide +kernel
theorem dX4_init_8 : decode cX4_init 8 = .ok (.newarray .int, 2) := by decide +kernel
theorem dX4_init_10 : decode cX4_init 10 = .ok (.putfield 11, 3) := by decide +kernel
theorem dX4_init_13 : decode cX4_init 13 = .ok (.aload_n 0, 1) := by decide +kernel
theorem dX4_init_14 : decode cX4_init 14 = .ok (.iconst 3, 1) := by decide +kernel
theorem dX4_init_15 : decode cX4_init 15 = .ok (.newarray .int, 2) := by decide +kernel
theorem dX4_init_17 : decode cX4_init 17 = .ok (.putfield 17, 3) := by decide +kernel
theorem dX4_init_20 : decode cX4_init 20 = .ok (.aload_n 0, 1) := by decide +kernel
theorem dX4_init_21 : decode cX4_init 21 = .ok (.bipush 6, 2) := by decide +kernel
theorem dX4_init_23 : decode cX4_init 23 = .ok (.newarray .int, 2) := by decide +kernel
theorem dX4_init_25 : decode cX4_init 25 = .ok (.putfield 20, 3) := by decide +kernel
theorem dX4_init_28 : decode cX4_init 28 = .ok (.aload_n 0, 1) := by decide +kernel
theorem dX4_init_29 : decode cX4_init 29 = .ok (.bipush 40, 2) := by decide +kernel
theorem dX4_init_31 : decode cX4_init 31 = .ok (.newarray .int, 2) := by decide +kernel
theorem dX4_init_33 : decode cX4_init 33 = .ok (.putfield 23, 3) := by decide +kernel
theorem dX4_init_36 : decode cX4_init 36 = .ok (.aload_n 0, 1) := by decide +kernel
theorem dX4_init_37 : decode cX4_init 37 = .ok (.iload_n 1, 1) := by decide +kernel
theorem dX4_init_38 : decode cX4_init 38 = .ok (.putfield 26, 3) := by decide +kernel
theorem dX4_init_41 : decode cX4_init 41 = .ok (.return_, 1) := by decide +kernel
theorem dX4_clear_0 : decode cX4_clear 0 = .ok (.aload_n 0, 1) := by decide +kernel
theorem dX4_clear_1 : decode cX4_clear 1 = .ok (.iconst 0, 1) := by decide +kernel
theorem dX4_clear_2 : decode cX4_clear 2 = .ok (.putfield 30, 3) := by decide +kernel
theorem dX4_clear_5 : decode cX4_clear 5 = .ok (.return_, 1) := by decide +kernel
theorem dX4_add_0 : decode cX4_add 0 = .ok (.aload_n 0, 1) := by decide +kernel
theorem dX4_add_1 : decode cX4_add 1 = .ok (.getfield 30, 3) := by decide +kernel
theorem dX4_add_4 : decode cX4_add 4 = .ok (.aload_n 0, 1) := by decide +kernel
theorem dX4_add_5 : decode cX4_add 5 = .ok (.getfield 11, 3) := by decide +kernel
theorem dX4_add_8 : decode cX4_add 8 = .ok (.arraylength, 1) := by decide +kernel
theorem dX4_add_9 : decode cX4_add 9 = .ok (.if_icmp .ge 23, 3) := by decide +kernel
theorem dX4_add_12 : decode cX4_add 12 = .ok (.aload_n 0, 1) := by decide +kernel
theorem dX4_add_13 : decode cX4_add 13 = .ok (.getfield 11, 3) := by decide +kernel
theorem dX4_add_16 : decode cX4_add 16 = .ok (.aload_n 0, 1) := by decide +kernel
theorem dX4_add_17 : decode cX4_add 17 = .ok (.getfield 30, 3) := by decide +kernel
theorem dX4_add_20 : decode cX4_add 20 = .ok (.iload_n 1, 1) := by decide +kernel
theorem dX4_add_21 : decode cX4_add 21 = .ok (.iastore, 1) := by decide +kernel
theorem dX4_add_22 : decode cX4_add 22 = .ok (.aload_n 0, 1) := by decide +kernel
theorem dX4_add_23 : decode cX4_add 23 = .ok (.dup, 1) := by decide +kernel
theorem dX4_add_24 : decode cX4_add 24 = .ok (.getfield 30, 3) := by decide +kernel
theorem dX4_add_27 : decode cX4_add 27 = .ok (.iconst 1, 1) := by decide +kernel
theorem dX4_add_28 : decode cX4_add 28 = .ok (.iadd, 1) := by decide +kernel
theorem dX4_add_29 : decode cX4_add 29 = .ok (.putfield 30, 3) := by decide +kernel
theorem dX4_add_32 : decode cX4_add 32 = .ok (.return_, 1) := by decide +kernel
theorem dX4_endPart_0 : decode cX4_endPart 0 = .ok (.iload_n 1, 1) := by decide +kernel
theorem dX4_endPart_1 : decode cX4_endPart 1 = .ok (.ifCond .lt 18, 3) := by decide +kernel
theorem dX4_endPart_4 : decode cX4_endPart 4 = .ok (.iload_n 1, 1) := by decide +kernel
theorem dX4_endPart_5 : decode cX4_endPart 5 = .ok (.iconst 3, 1) := by decide +kernel
theorem dX4_endPart_6 : decode cX4_endPart 6 = .ok (.if_icmp .ge 13, 3) := by decide +kernel
theorem dX4_endPart_9 : decode cX4_endPart 9 = .ok (.aload_n 0, 1) := by decide +kernel
theorem dX4_endPart_10 : decode cX4_endPart 10 = .ok (.getfield 17, 3) := by decide +kernel
theorem dX4_endPart_13 : decode cX4_endPart 13 = .ok (.iload_n 1, 1) := by decide +kernel
theorem dX4_endPart_14 : decode cX4_endPart 14 = .ok (.aload_n 0, 1) := by decide +kernel
theorem dX4_endPart_15 : decode cX4_endPart 15 = .ok (.getfield 30, 3) := by decide +kernel
theorem dX4_endPart_18 : decode cX4_endPart 18 = .ok (.iastore, 1) := by decide +kernel
theorem dX4_endPart_19 : decode cX4_endPart 19 = .ok (.return_, 1) := by decide +kernel
theorem dX4_says_0 : decode cX4_says 0 = .ok (.aload_n 0, 1) := by decide +kernel
theorem dX4_says_1 : decode cX4_says 1 = .ok (.getfield 20, 3) := by decide +kernel
theorem dX4_says_4 : decode cX4_says 4 = .ok (.iconst 0, 1) := by decide +kernel
theorem dX4_says_5 : decode cX4_says 5 = .ok (.iload_n 2, 1) := by decide +kernel
theorem dX4_says_6 : decode cX4_says 6 = .ok (.iastore, 1) := by decide +kernel
theorem dX4_says_7 : decode cX4_says 7 = .ok (.aload_n 0, 1) := by decide +kernel
theorem dX4_says_8 : decode cX4_says 8 = .ok (.getfield 20, 3) := by decide +kernel
theorem dX4_says_11 : decode cX4_says 11 = .ok (.iconst 1, 1) := by decide +kernel
theorem dX4_says_12 : decode cX4_says 12 = .ok (.iload_n 3, 1) := by decide +kernel
theorem dX4_says_13 : decode cX4_says 13 = .ok (.iastore, 1) := by decide +kernel
theorem dX4_says_14 : decode cX4_says 14 = .ok (.aload_n 0, 1) := by decide +kernel
theorem dX4_says_15 : decode cX4_says 15 = .ok (.getfield 20, 3) := by decide +kernel
theorem dX4_says_18 : decode cX4_says 18 = .ok (.iconst 2, 1) := by decide +kernel
theorem dX4_says_19 : decode cX4_says 19 = .ok (.iload 4, 2) := by decide +kernel
theorem dX4_says_21 : decode cX4_says 21 = .ok (.iastore, 1) := by decide +kernel
theorem dX4_says_22 : decode cX4_says 22 = .ok (.aload_n 0, 1) := by decide +kernel
theorem dX4_says_23 : decode cX4_says 23 = .ok (.getfield 20, 3) := by decide +kernel
theorem dX4_says_26 : decode cX4_says 26 = .ok (.iconst 3, 1) := by decide +kernel
theorem dX4_says_27 : decode cX4_says 27 = .ok (.iload 5, 2) := by decide +kernel
theorem dX4_says_29 : decode cX4_says 29 = .ok (.iastore, 1) := by decide +kernel
theorem dX4_says_30 : decode cX4_says 30 = .ok (.aload_n 0, 1) := by decide +kernel
theorem dX4_says_31 : decode cX4_says 31 = .ok (.getfield 20, 3) := by decide +kernel
theorem dX4_says_34 : decode cX4_says 34 = .ok (.iconst 4, 1) := by decide +kernel
theorem dX4_says_35 : decode cX4_says 35 = .ok (.iload 6, 2) := by decide +kernel
theorem dX4_says_37 : decode cX4_says 37 = .ok (.iastore, 1) := by decide +kernel
theorem dX4_says_38 : decode cX4_says 38 = .ok (.aload_n 0, 1) := by decide +kernel
theorem dX4_says_39 : decode cX4_says 39 = .ok (.getfield 20, 3) := by decide +kernel
theorem dX4_says_42 : decode cX4_says 42 = .ok (.iconst 5, 1) := by decide +kernel
theorem dX4_says_43 : decode cX4_says 43 = .ok (.iload 7, 2) := by decide +kernel
theorem dX4_says_45 : decode cX4_says 45 = .ok (.iastore, 1) := by decide +kernel
theorem dX4_says_46 : decode cX4_says 46 = .ok (.iload_n 1, 1) := by decide +kernel
theorem dX4_says_47 : decode cX4_says 47 = .ok (.ifCond .lt 8, 3) := by decide +kernel
theorem dX4_says_50 : decode cX4_says 50 = .ok (.iload_n 1, 1) := by decide +kernel
theorem dX4_says_51 : decode cX4_says 51 = .ok (.iconst 2, 1) := by decide +kernel
theorem dX4_says_52 : decode cX4_says 52 = .ok (.if_icmp .le 5, 3) := by decide +kernel
theorem dX4_says_55 : decode cX4_says 55 = .ok (.iconst 0, 1) := by decide +kernel
theorem dX4_says_56 : decode cX4_says 56 = .ok (.ireturn, 1) := by decide +kernel
theorem dX4_says_57 : decode cX4_says 57 = .ok (.iconst 0, 1) := by decide +kernel
theorem dX4_says_58 : decode cX4_says 58 = .ok (.istore 8, 2) := by decide +kernel
theorem dX4_says_60 : decode cX4_says 60 = .ok (.iload_n 1, 1) := by decide +kernel
theorem dX4_says_61 : decode cX4_says 61 = .ok (.ifCond .ne 7, 3) := by decide +kernel
theorem dX4_says_64 : decode cX4_says 64 = .ok (.iconst 0, 1) := by decide +kernel
theorem dX4_says_65 : decode cX4_says 65 = .ok (.goto 11, 3) := by decide +kernel
theorem dX4_says_68 : decode cX4_says 68 = .ok (.aload_n 0, 1) := by decide +kernel
theorem dX4_says_69 : decode cX4_says 69 = .ok (.getfield 17, 3) := by decide +kernel
theorem dX4_says_72 : decode cX4_says 72 = .ok (.iload_n 1, 1) := by decide +kernel
theorem dX4_says_73 : decode cX4_says 73 = .ok (.iconst 1, 1) := by decide +kernel
theorem dX4_says_74 : decode cX4_says 74 = .ok (.isub, 1) := by decide +kernel
theorem dX4_says_75 : decode cX4_says 75 = .ok (.iaload, 1) := by decide +kernel
theorem dX4_says_76 : decode cX4_says 76 = .ok (.istore 9, 2) := by decide +kernel
theorem dX4_says_78 : decode cX4_says 78 = .ok (.iload 9, 2) := by decide +kernel
theorem dX4_says_80 : decode cX4_says 80 = .ok (.aload_n 0, 1) := by decide +kernel
theorem dX4_says_81 : decode cX4_says 81 = .ok (.getfield 17, 3) := by decide +kernel
theorem dX4_says_84 : decode cX4_says 84 = .ok (.iload_n 1, 1) := by decide +kernel
theorem dX4_says_85 : decode cX4_says 85 = .ok (.iaload, 1) := by decide +kernel
theorem dX4_says_86 : decode cX4_says 86 = .ok (.if_icmp .ge 208, 3) := by decide +kernel
theorem dX4_says_89 : decode cX4_says 89 = .ok (.aload_n 0, 1) := by decide +kernel
theorem dX4_says_90 : decode cX4_says 90 = .ok (.getfield 11, 3) := by decide +kernel
theorem dX4_says_93 : decode cX4_says 93 = .ok (.iload 9, 2) := by decide +kernel
theorem dX4_says_95 : decode cX4_says 95 = .ok (.iaload, 1) := by decide +kernel
theorem dX4_says_96 : decode cX4_says 96 = .ok (.ineg, 1) := by decide +kernel
theorem dX4_says_97 : decode cX4_says 97 = .ok (.istore 10, 2) := by decide +kernel
theorem dX4_says_99 : decode cX4_says 99 = .ok (.iload 10, 2) := by decide +kernel
theorem dX4_says_101 : decode cX4_says 101 = .ok (.ifCond .gt 29, 3) := by decide +kernel
theorem dX4_says_104 : decode cX4_says 104 = .ok (.iload 8, 2) := by decide +kernel
theorem dX4_says_106 : decode cX4_says 106 = .ok (.aload_n 0, 1) := by decide +kernel
theorem dX4_says_107 : decode cX4_says 107 = .ok (.getfield 23, 3) := by decide +kernel
theorem dX4_says_110 : decode cX4_says 110 = .ok (.arraylength, 1) := by decide +kernel
theorem dX4_says_111 : decode cX4_says 111 = .ok (.if_icmp .ge 19, 3) := by decide +kernel
theorem dX4_says_114 : decode cX4_says 114 = .ok (.aload_n 0, 1) := by decide +kernel
theorem dX4_says_115 : decode cX4_says 115 = .ok (.getfield 23, 3) := by decide +kernel
theorem dX4_says_118 : decode cX4_says 118 = .ok (.iload 8, 2) := by decide +kernel
theorem dX4_says_120 : decode cX4_says 120 = .ok (.iload 10, 2) := by decide +kernel
theorem dX4_says_122 : decode cX4_says 122 = .ok (.ineg, 1) := by decide +kernel
theorem dX4_says_123 : decode cX4_says 123 = .ok (.iastore, 1) := by decide +kernel
theorem dX4_says_124 : decode cX4_says 124 = .ok (.iinc 8 1, 3) := by decide +kernel
theorem dX4_says_127 : decode cX4_says 127 = .ok (.goto 161, 3) := by decide +kernel
theorem dX4_says_130 : decode cX4_says 130 = .ok (.iload 10, 2) := by decide +kernel
theorem dX4_says_132 : decode cX4_says 132 = .ok (.invokestatic 33, 3) := by decide +kernel
theorem dX4_says_135 : decode cX4_says 135 = .ok (.ifCond .eq 37, 3) := by decide +kernel
theorem dX4_says_138 : decode cX4_says 138 = .ok (.iload 8, 2) := by decide +kernel
theorem dX4_says_140 : decode cX4_says 140 = .ok (.aload_n 0, 1) := by decide +kernel
theorem dX4_says_141 : decode cX4_says 141 = .ok (.getfield 23, 3) := by decide +kernel
theorem dX4_says_144 : decode cX4_says 144 = .ok (.arraylength, 1) := by decide +kernel
theorem dX4_says_145 : decode cX4_says 145 = .ok (.if_icmp .ge 27, 3) := by decide +kernel
theorem dX4_says_148 : decode cX4_says 148 = .ok (.aload_n 0, 1) := by decide +kernel
theorem dX4_says_149 : decode cX4_says 149 = .ok (.getfield 23, 3) := by decide +kernel
theorem dX4_says_152 : decode cX4_says 152 = .ok (.iload 8, 2) := by decide +kernel
theorem dX4_says_154 : decode cX4_says 154 = .ok (.aload_n 0, 1) := by decide +kernel
theorem dX4_says_155 : decode cX4_says 155 = .ok (.getfield 20, 3) := by decide +kernel
theorem dX4_says_158 : decode cX4_says 158 = .ok (.iload 10, 2) := by decide +kernel
theorem dX4_says_160 : decode cX4_says 160 = .ok (.sipush 266, 3) := by decide +kernel
theorem dX4_says_163 : decode cX4_says 163 = .ok (.isub, 1) := by decide +kernel
theorem dX4_says_164 : decode cX4_says 164 = .ok (.iaload, 1) := by decide +kernel
theorem dX4_says_165 : decode cX4_says 165 = .ok (.iastore, 1) := by decide +kernel
theorem dX4_says_166 : decode cX4_says 166 = .ok (.iinc 8 1, 3) := by decide +kernel
theorem dX4_says_169 : decode cX4_says 169 = .ok (.goto 119, 3) := by decide +kernel
theorem dX4_says_172 : decode cX4_says 172 = .ok (.iload 10, 2) := by decide +kernel
theorem dX4_says_174 : decode cX4_says 174 = .ok (.sipush 265, 3) := by decide +kernel
theorem dX4_says_177 : decode cX4_says 177 = .ok (.if_icmp .ne 37, 3) := by decide +kernel
theorem dX4_says_180 : decode cX4_says 180 = .ok (.iload 8, 2) := by decide +kernel
theorem dX4_says_182 : decode cX4_says 182 = .ok (.ifCond .le 32, 3) := by decide +kernel
theorem dX4_says_185 : decode cX4_says 185 = .ok (.aload_n 0, 1) := by decide +kernel
theorem dX4_says_186 : decode cX4_says 186 = .ok (.getfield 23, 3) := by decide +kernel
theorem dX4_says_189 : decode cX4_says 189 = .ok (.iload 8, 2) := by decide +kernel
theorem dX4_says_191 : decode cX4_says 191 = .ok (.iconst 1, 1) := by decide +kernel
theorem dX4_says_192 : decode cX4_says 192 = .ok (.isub, 1) := by decide +kernel
theorem dX4_says_193 : decode cX4_says 193 = .ok (.aload_n 0, 1) := by decide +kernel
theorem dX4_says_194 : decode cX4_says 194 = .ok (.getfield 23, 3) := by decide +kernel
theorem dX4_says_197 : decode cX4_says 197 = .ok (.iload 8, 2) := by decide +kernel
theorem dX4_says_199 : decode cX4_says 199 = .ok (.iconst 1, 1) := by decide +kernel
theorem dX4_says_200 : decode cX4_says 200 = .ok (.isub, 1) := by decide +kernel
theorem dX4_says_201 : decode cX4_says 201 = .ok (.iaload, 1) := by decide +kernel
theorem dX4_says_202 : decode cX4_says 202 = .ok (.ifCond .ne 7, 3) := by decide +kernel
theorem dX4_says_205 : decode cX4_says 205 = .ok (.iconst 1, 1) := by decide +kernel
theorem dX4_says_206 : decode cX4_says 206 = .ok (.goto 4, 3) := by decide +kernel
theorem dX4_says_209 : decode cX4_says 209 = .ok (.iconst 0, 1) := by decide +kernel
theorem dX4_says_210 : decode cX4_says 210 = .ok (.iastore, 1) := by decide +kernel
theorem dX4_says_211 : decode cX4_says 211 = .ok (.goto 77, 3) := by decide +kernel
theorem dX4_says_214 : decode cX4_says 214 = .ok (.iload 10, 2) := by decide +kernel
theorem dX4_says_216 : decode cX4_says 216 = .ok (.sipush 259, 3) := by decide +kernel
theorem dX4_says_219 : decode cX4_says 219 = .ok (.if_icmp .ne 30, 3) := by decide +kernel
theorem dX4_says_222 : decode cX4_says 222 = .ok (.iload 8, 2) := by decide +kernel
theorem dX4_says_224 : decode cX4_says 224 = .ok (.ifCond .le 25, 3) := by decide +kernel
theorem dX4_says_227 : decode cX4_says 227 = .ok (.aload_n 0, 1) := by decide +kernel
theorem dX4_says_228 : decode cX4_says 228 = .ok (.getfield 23, 3) := by decide +kernel
theorem dX4_says_231 : decode cX4_says 231 = .ok (.iload 8, 2) := by decide +kernel
theorem dX4_says_233 : decode cX4_says 233 = .ok (.iconst 1, 1) := by decide +kernel
theorem dX4_says_234 : decode cX4_says 234 = .ok (.isub, 1) := by decide +kernel
theorem dX4_says_235 : decode cX4_says 235 = .ok (.aload_n 0, 1) := by decide +kernel
theorem dX4_says_236 : decode cX4_says 236 = .ok (.getfield 23, 3) := by decide +kernel
theorem dX4_says_239 : decode cX4_says 239 = .ok (.iload 8, 2) := by decide +kernel
theorem dX4_says_241 : decode cX4_says 241 = .ok (.iconst 1, 1) := by decide +kernel
theorem dX4_says_242 : decode cX4_says 242 = .ok (.isub, 1) := by decide +kernel
theorem dX4_says_243 : decode cX4_says 243 = .ok (.iaload, 1) := by decide +kernel
theorem dX4_says_244 : decode cX4_says 244 = .ok (.ineg, 1) := by decide +kernel
theorem dX4_says_245 : decode cX4_says 245 = .ok (.iastore, 1) := by decide +kernel
theorem dX4_says_246 : decode cX4_says 246 = .ok (.goto 42, 3) := by decide +kernel
theorem dX4_says_249 : decode cX4_says 249 = .ok (.iload 8, 2) := by decide +kernel
theorem dX4_says_251 : decode cX4_says 251 = .ok (.iconst 1, 1) := by decide +kernel
theorem dX4_says_252 : decode cX4_says 252 = .ok (.if_icmp .le 36, 3) := by decide +kernel
theorem dX4_says_255 : decode cX4_says 255 = .ok (.iinc 8 (-1), 3) := by decide +kernel
theorem dX4_says_258 : decode cX4_says 258 = .ok (.aload_n 0, 1) := by decide +kernel
theorem dX4_says_259 : decode cX4_says 259 = .ok (.getfield 23, 3) := by decide +kernel
theorem dX4_says_262 : decode cX4_says 262 = .ok (.iload 8, 2) := by decide +kernel
theorem dX4_says_264 : decode cX4_says 264 = .ok (.iconst 1, 1) := by decide +kernel
theorem dX4_says_265 : decode cX4_says 265 = .ok (.isub, 1) := by decide +kernel
theorem dX4_says_266 : decode cX4_says 266 = .ok (.iload 10, 2) := by decide +kernel
theorem dX4_says_268 : decode cX4_says 268 = .ok (.aload_n 0, 1) := by decide +kernel
theorem dX4_says_269 : decode cX4_says 269 = .ok (.getfield 23, 3) := by decide +kernel
theorem dX4_says_272 : decode cX4_says 272 = .ok (.iload 8, 2) := by decide +kernel
theorem dX4_says_274 : decode cX4_says 274 = .ok (.iconst 1, 1) := by decide +kernel
theorem dX4_says_275 : decode cX4_says 275 = .ok (.isub, 1) := by decide +kernel
theorem dX4_says_276 : decode cX4_says 276 = .ok (.iaload, 1) := by decide +kernel
theorem dX4_says_277 : decode cX4_says 277 = .ok (.aload_n 0, 1) := by decide +kernel
theorem dX4_says_278 : decode cX4_says 278 = .ok (.getfield 23, 3) := by decide +kernel
theorem dX4_says_281 : decode cX4_says 281 = .ok (.iload 8, 2) := by decide +kernel
theorem dX4_says_283 : decode cX4_says 283 = .ok (.iaload, 1) := by decide +kernel
theorem dX4_says_284 : decode cX4_says 284 = .ok (.invokestatic 37, 3) := by decide +kernel
theorem dX4_says_287 : decode cX4_says 287 = .ok (.iastore, 1) := by decide +kernel
theorem dX4_says_288 : decode cX4_says 288 = .ok (.iinc 9 1, 3) := by decide +kernel
theorem dX4_says_291 : decode cX4_says 291 = .ok (.goto (-213), 3) := by decide +kernel
theorem dX4_says_294 : decode cX4_says 294 = .ok (.iconst 0, 1) := by decide +kernel
theorem dX4_says_295 : decode cX4_says 295 = .ok (.bipush 99, 2) := by decide +kernel
theorem dX4_says_297 : decode cX4_says 297 = .ok (.aload_n 0, 1) := by decide +kernel
theorem dX4_says_298 : decode cX4_says 298 = .ok (.getfield 23, 3) := by decide +kernel
theorem dX4_says_301 : decode cX4_says 301 = .ok (.iconst 0, 1) := by decide +kernel
theorem dX4_says_302 : decode cX4_says 302 = .ok (.iaload, 1) := by decide +kernel
theorem dX4_says_303 : decode cX4_says 303 = .ok (.invokestatic 41, 3) := by decide +kernel
theorem dX4_says_306 : decode cX4_says 306 = .ok (.invokestatic 47, 3) := by decide +kernel
theorem dX4_says_309 : decode cX4_says 309 = .ok (.ireturn, 1) := by decide +kernel
theorem dX4_joined_0 : decode cX4_joined 0 = .ok (.iload_n 0, 1) := by decide +kernel
theorem dX4_joined_1 : decode cX4_joined 1 = .ok (.lookupswitch 107 #[(42, 67), (43, 59), (45, 63), (60, 71), (61, 82), (263, 93)], 59) := by decide +kernel
theorem dX4_joined_60 : decode cX4_joined 60 = .ok (.iload_n 1, 1) := by decide +kernel
theorem dX4_joined_61 : decode cX4_joined 61 = .ok (.iload_n 2, 1) := by decide +kernel
theorem dX4_joined_62 : decode cX4_joined 62 = .ok (.iadd, 1) := by decide +kernel
theorem dX4_joined_63 : decode cX4_joined 63 = .ok (.ireturn, 1) := by decide +kernel
theorem dX4_joined_64 : decode cX4_joined 64 = .ok (.iload_n 1, 1) := by decide +kernel
theorem dX4_joined_65 : decode cX4_joined 65 = .ok (.iload_n 2, 1) := by decide +kernel
theorem dX4_joined_66 : decode cX4_joined 66 = .ok (.isub, 1) := by decide +kernel
theorem dX4_joined_67 : decode cX4_joined 67 = .ok (.ireturn, 1) := by decide +kernel
theorem dX4_joined_68 : decode cX4_joined 68 = .ok (.iload_n 1, 1) := by decide +kernel
theorem dX4_joined_69 : decode cX4_joined 69 = .ok (.iload_n 2, 1) := by decide +kernel
theorem dX4_joined_70 : decode cX4_joined 70 = .ok (.imul, 1) := by decide +kernel
theorem dX4_joined_71 : decode cX4_joined 71 = .ok (.ireturn, 1) := by decide +kernel
theorem dX4_joined_72 : decode cX4_joined 72 = .ok (.iload_n 1, 1) := by decide +kernel
theorem dX4_joined_73 : decode cX4_joined 73 = .ok (.iload_n 2, 1) := by decide +kernel
theorem dX4_joined_74 : decode cX4_joined 74 = .ok (.if_icmp .ge 7, 3) := by decide +kernel
theorem dX4_joined_77 : decode cX4_joined 77 = .ok (.iconst 1, 1) := by decide +kernel
theorem dX4_joined_78 : decode cX4_joined 78 = .ok (.goto 4, 3) := by decide +kernel
theorem dX4_joined_81 : decode cX4_joined 81 = .ok (.iconst 0, 1) := by decide +kernel
theorem dX4_joined_82 : decode cX4_joined 82 = .ok (.ireturn, 1) := by decide +kernel
theorem dX4_joined_83 : decode cX4_joined 83 = .ok (.iload_n 1, 1) := by decide +kernel
theorem dX4_joined_84 : decode cX4_joined 84 = .ok (.iload_n 2, 1) := by decide +kernel
theorem dX4_joined_85 : decode cX4_joined 85 = .ok (.if_icmp .ne 7, 3) := by decide +kernel
theorem dX4_joined_88 : decode cX4_joined 88 = .ok (.iconst 1, 1) := by decide +kernel
theorem dX4_joined_89 : decode cX4_joined 89 = .ok (.goto 4, 3) := by decide +kernel
theorem dX4_joined_92 : decode cX4_joined 92 = .ok (.iconst 0, 1) := by decide +kernel
theorem dX4_joined_93 : decode cX4_joined 93 = .ok (.ireturn, 1) := by decide +kernel
theorem dX4_joined_94 : decode cX4_joined 94 = .ok (.iload_n 1, 1) := by decide +kernel
theorem dX4_joined_95 : decode cX4_joined 95 = .ok (.ifCond .eq 11, 3) := by decide +kernel
theorem dX4_joined_98 : decode cX4_joined 98 = .ok (.iload_n 2, 1) := by decide +kernel
theorem dX4_joined_99 : decode cX4_joined 99 = .ok (.ifCond .eq 7, 3) := by decide +kernel
theorem dX4_joined_102 : decode cX4_joined 102 = .ok (.iconst 1, 1) := by decide +kernel
theorem dX4_joined_103 : decode cX4_joined 103 = .ok (.goto 4, 3) := by decide +kernel
theorem dX4_joined_106 : decode cX4_joined 106 = .ok (.iconst 0, 1) := by decide +kernel
theorem dX4_joined_107 : decode cX4_joined 107 = .ok (.ireturn, 1) := by decide +kernel
theorem dX4_joined_108 : decode cX4_joined 108 = .ok (.iload_n 1, 1) := by decide +kernel
theorem dX4_joined_109 : decode cX4_joined 109 = .ok (.ifCond .ne 7, 3) := by decide +kernel
theorem dX4_joined_112 : decode cX4_joined 112 = .ok (.iload_n 2, 1) := by decide +kernel
theorem dX4_joined_113 : decode cX4_joined 113 = .ok (.ifCond .eq 7, 3) := by decide +kernel
theorem dX4_joined_116 : decode cX4_joined 116 = .ok (.iconst 1, 1) := by decide +kernel
theorem dX4_joined_117 : decode cX4_joined 117 = .ok (.goto 4, 3) := by decide +kernel
theorem dX4_joined_120 : decode cX4_joined 120 = .ok (.iconst 0, 1) := by decide +kernel
theorem dX4_joined_121 : decode cX4_joined 121 = .ok (.ireturn, 1) := by decide +kernel
