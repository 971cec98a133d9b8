theorem dX5_init_0 : decode cX5_init 0 = .ok (.aload_n 0, 1) := by decide +kernel
theorem dX5_init_1 : decode cX5_init 1 = .ok (.invokespecial 1, 3) := by decide +kernel
theorem dX5_init_4 : decode cX5_init 4 = .ok (.aload_n 0, 1) := by decide +kernel
theorem dX5_init_5 : decode cX5_init 5 = .ok (.new 7, 3) := by decide +kernel
theorem dX5_init_8 : decode cX5_init 8 = .ok (.dup, 1) := by decide +kernel
theorem dX5_init_9 : decode cX5_init 9 = .ok (.invokespecial 9, 3) := by decide +kernel
theorem dX5_init_12 : decode cX5_init 12 = .ok (.putfield 10, 3) := by decide +kernel
theorem dX5_init_15 : decode cX5_init 15 = .ok (.aload_n 0, 1) := by decide +kernel
theorem dX5_init_16 : decode cX5_init 16 = .ok (.bipush 6, 2) := by decide +kernel
theorem dX5_init_18 : decode cX5_init 18 = .ok (.anewarray 16, 3) := by decide +kernel
theorem dX5_init_21 : decode cX5_init 21 = .ok (.putfield 18, 3) := by decide +kernel
theorem dX5_init_24 : decode cX5_init 24 = .ok (.aload_n 0, 1) := by decide +kernel
theorem dX5_init_25 : decode cX5_init 25 = .ok (.iconst 4, 1) := by decide +kernel
theorem dX5_init_26 : decode cX5_init 26 = .ok (.anewarray 22, 3) := by decide +kernel
theorem dX5_init_29 : decode cX5_init 29 = .ok (.putfield 24, 3) := by decide +kernel
theorem dX5_init_32 : decode cX5_init 32 = .ok (.iconst 0, 1) := by decide +kernel
theorem dX5_init_33 : decode cX5_init 33 = .ok (.istore_n 1, 1) := by decide +kernel
theorem dX5_init_34 : decode cX5_init 34 = .ok (.iload_n 1, 1) := by decide +kernel
theorem dX5_init_35 : decode cX5_init 35 = .ok (.bipush 6, 2) := by decide +kernel
theorem dX5_init_37 : decode cX5_init 37 = .ok (.if_icmp .ge 23, 3) := by decide +kernel
theorem dX5_init_40 : decode cX5_init 40 = .ok (.aload_n 0, 1) := by decide +kernel
theorem dX5_init_41 : decode cX5_init 41 = .ok (.getfield 18, 3) := by decide +kernel
theorem dX5_init_44 : decode cX5_init 44 = .ok (.iload_n 1, 1) := by decide +kernel
theorem dX5_init_45 : decode cX5_init 45 = .ok (.new 16, 3) := by decide +kernel
theorem dX5_init_48 : decode cX5_init 48 = .ok (.dup, 1) := by decide +kernel
theorem dX5_init_49 : decode cX5_init 49 = .ok (.iload_n 1, 1) := by decide +kernel
theorem dX5_init_50 : decode cX5_init 50 = .ok (.invokespecial 28, 3) := by decide +kernel
theorem dX5_init_53 : decode cX5_init 53 = .ok (.aastore, 1) := by decide +kernel
theorem dX5_init_54 : decode cX5_init 54 = .ok (.iinc 1 1, 3) := by decide +kernel
theorem dX5_init_57 : decode cX5_init 57 = .ok (.goto (-23), 3) := by decide +kernel
theorem dX5_init_60 : decode cX5_init 60 = .ok (.iconst 0, 1) := by decide +kernel
theorem dX5_init_61 : decode cX5_init 61 = .ok (.istore_n 1, 1) := by decide +kernel
theorem dX5_init_62 : decode cX5_init 62 = .ok (.iload_n 1, 1) := by decide +kernel
theorem dX5_init_63 : decode cX5_init 63 = .ok (.iconst 4, 1) := by decide +kernel
theorem dX5_init_64 : decode cX5_init 64 = .ok (.if_icmp .ge 22, 3) := by decide +kernel
theorem dX5_init_67 : decode cX5_init 67 = .ok (.aload_n 0, 1) := by decide +kernel
theorem dX5_init_68 : decode cX5_init 68 = .ok (.getfield 24, 3) := by decide +kernel
theorem dX5_init_71 : decode cX5_init 71 = .ok (.iload_n 1, 1) := by decide +kernel
theorem dX5_init_72 : decode cX5_init 72 = .ok (.new 22, 3) := by decide +kernel
theorem dX5_init_75 : decode cX5_init 75 = .ok (.dup, 1) := by decide +kernel
theorem dX5_init_76 : decode cX5_init 76 = .ok (.invokespecial 31, 3) := by decide +kernel
theorem dX5_init_79 : decode cX5_init 79 = .ok (.aastore, 1) := by decide +kernel
theorem dX5_init_80 : decode cX5_init 80 = .ok (.iinc 1 1, 3) := by decide +kernel
theorem dX5_init_83 : decode cX5_init 83 = .ok (.goto (-21), 3) := by decide +kernel
theorem dX5_init_86 : decode cX5_init 86 = .ok (.iconst 0, 1) := by decide +kernel
theorem dX5_init_87 : decode cX5_init 87 = .ok (.istore_n 1, 1) := by decide +kernel
theorem dX5_init_88 : decode cX5_init 88 = .ok (.iload_n 1, 1) := by decide +kernel
theorem dX5_init_89 : decode cX5_init 89 = .ok (.ldc 32, 2) := by decide +kernel
theorem dX5_init_91 : decode cX5_init 91 = .ok (.invokevirtual 34, 3) := by decide +kernel
theorem dX5_init_94 : decode cX5_init 94 = .ok (.if_icmp .ge 22, 3) := by decide +kernel
theorem dX5_init_97 : decode cX5_init 97 = .ok (.aload_n 0, 1) := by decide +kernel
theorem dX5_init_98 : decode cX5_init 98 = .ok (.getfield 10, 3) := by decide +kernel
theorem dX5_init_101 : decode cX5_init 101 = .ok (.ldc 32, 2) := by decide +kernel
theorem dX5_init_103 : decode cX5_init 103 = .ok (.iload_n 1, 1) := by decide +kernel
theorem dX5_init_104 : decode cX5_init 104 = .ok (.invokevirtual 40, 3) := by decide +kernel
theorem dX5_init_107 : decode cX5_init 107 = .ok (.invokevirtual 44, 3) := by decide +kernel
theorem dX5_init_110 : decode cX5_init 110 = .ok (.iinc 1 1, 3) := by decide +kernel
theorem dX5_init_113 : decode cX5_init 113 = .ok (.goto (-25), 3) := by decide +kernel
theorem dX5_init_116 : decode cX5_init 116 = .ok (.aload_n 0, 1) := by decide +kernel
theorem dX5_init_117 : decode cX5_init 117 = .ok (.getfield 10, 3) := by decide +kernel
theorem dX5_init_120 : decode cX5_init 120 = .ok (.aload_n 0, 1) := by decide +kernel
theorem dX5_init_121 : decode cX5_init 121 = .ok (.getfield 18, 3) := by decide +kernel
theorem dX5_init_124 : decode cX5_init 124 = .ok (.iconst 0, 1) := by decide +kernel
theorem dX5_init_125 : decode cX5_init 125 = .ok (.aaload, 1) := by decide +kernel
theorem dX5_init_126 : decode cX5_init 126 = .ok (.invokevirtual 47, 3) := by decide +kernel
theorem dX5_init_129 : decode cX5_init 129 = .ok (.pop, 1) := by decide +kernel
theorem dX5_init_130 : decode cX5_init 130 = .ok (.aload_n 0, 1) := by decide +kernel
theorem dX5_init_131 : decode cX5_init 131 = .ok (.getfield 10, 3) := by decide +kernel
theorem dX5_init_134 : decode cX5_init 134 = .ok (.invokevirtual 51, 3) := by decide +kernel
theorem dX5_init_137 : decode cX5_init 137 = .ok (.aload_n 0, 1) := by decide +kernel
theorem dX5_init_138 : decode cX5_init 138 = .ok (.iconst 1, 1) := by decide +kernel
theorem dX5_init_139 : decode cX5_init 139 = .ok (.putfield 54, 3) := by decide +kernel
theorem dX5_init_142 : decode cX5_init 142 = .ok (.aload_n 0, 1) := by decide +kernel
theorem dX5_init_143 : decode cX5_init 143 = .ok (.new 58, 3) := by decide +kernel
theorem dX5_init_146 : decode cX5_init 146 = .ok (.dup, 1) := by decide +kernel
theorem dX5_init_147 : decode cX5_init 147 = .ok (.aload_n 0, 1) := by decide +kernel
theorem dX5_init_148 : decode cX5_init 148 = .ok (.getfield 18, 3) := by decide +kernel
theorem dX5_init_151 : decode cX5_init 151 = .ok (.iconst 0, 1) := by decide +kernel
theorem dX5_init_152 : decode cX5_init 152 = .ok (.aaload, 1) := by decide +kernel
theorem dX5_init_153 : decode cX5_init 153 = .ok (.invokespecial 60, 3) := by decide +kernel
theorem dX5_init_156 : decode cX5_init 156 = .ok (.putfield 63, 3) := by decide +kernel
theorem dX5_init_159 : decode cX5_init 159 = .ok (.aload_n 0, 1) := by decide +kernel
theorem dX5_init_160 : decode cX5_init 160 = .ok (.new 58, 3) := by decide +kernel
theorem dX5_init_163 : decode cX5_init 163 = .ok (.dup, 1) := by decide +kernel
theorem dX5_init_164 : decode cX5_init 164 = .ok (.aload_n 0, 1) := by decide +kernel
theorem dX5_init_165 : decode cX5_init 165 = .ok (.getfield 18, 3) := by decide +kernel
theorem dX5_init_168 : decode cX5_init 168 = .ok (.iconst 0, 1) := by decide +kernel
theorem dX5_init_169 : decode cX5_init 169 = .ok (.aaload, 1) := by decide +kernel
theorem dX5_init_170 : decode cX5_init 170 = .ok (.invokespecial 60, 3) := by decide +kernel
theorem dX5_init_173 : decode cX5_init 173 = .ok (.putfield 67, 3) := by decide +kernel
theorem dX5_init_176 : decode cX5_init 176 = .ok (.aload_n 0, 1) := by decide +kernel
theorem dX5_init_177 : decode cX5_init 177 = .ok (.new 58, 3) := by decide +kernel
theorem dX5_init_180 : decode cX5_init 180 = .ok (.dup, 1) := by decide +kernel
theorem dX5_init_181 : decode cX5_init 181 = .ok (.aload_n 0, 1) := by decide +kernel
theorem dX5_init_182 : decode cX5_init 182 = .ok (.getfield 18, 3) := by decide +kernel
theorem dX5_init_185 : decode cX5_init 185 = .ok (.iconst 0, 1) := by decide +kernel
theorem dX5_init_186 : decode cX5_init 186 = .ok (.aaload, 1) := by decide +kernel
theorem dX5_init_187 : decode cX5_init 187 = .ok (.invokespecial 60, 3) := by decide +kernel
theorem dX5_init_190 : decode cX5_init 190 = .ok (.putfield 70, 3) := by decide +kernel
theorem dX5_init_193 : decode cX5_init 193 = .ok (.return_, 1) := by decide +kernel
theorem dX5_count_0 : decode cX5_count 0 = .ok (.iload_n 1, 1) := by decide +kernel
theorem dX5_count_1 : decode cX5_count 1 = .ok (.tableswitch 107 0 6 #[43, 51, 63, 75, 83, 88, 99], 43) := by decide +kernel
theorem dX5_count_44 : decode cX5_count 44 = .ok (.aload_n 0, 1) := by decide +kernel
theorem dX5_count_45 : decode cX5_count 45 = .ok (.getfield 63, 3) := by decide +kernel
theorem dX5_count_48 : decode cX5_count 48 = .ok (.getfield 73, 3) := by decide +kernel
theorem dX5_count_51 : decode cX5_count 51 = .ok (.ireturn, 1) := by decide +kernel
theorem dX5_count_52 : decode cX5_count 52 = .ok (.aload_n 0, 1) := by decide +kernel
theorem dX5_count_53 : decode cX5_count 53 = .ok (.getfield 63, 3) := by decide +kernel
theorem dX5_count_56 : decode cX5_count 56 = .ok (.iconst 0, 1) := by decide +kernel
theorem dX5_count_57 : decode cX5_count 57 = .ok (.invokevirtual 76, 3) := by decide +kernel
theorem dX5_count_60 : decode cX5_count 60 = .ok (.invokestatic 80, 3) := by decide +kernel
theorem dX5_count_63 : decode cX5_count 63 = .ok (.ireturn, 1) := by decide +kernel
theorem dX5_count_64 : decode cX5_count 64 = .ok (.aload_n 0, 1) := by decide +kernel
theorem dX5_count_65 : decode cX5_count 65 = .ok (.getfield 63, 3) := by decide +kernel
theorem dX5_count_68 : decode cX5_count 68 = .ok (.iconst 1, 1) := by decide +kernel
theorem dX5_count_69 : decode cX5_count 69 = .ok (.invokevirtual 76, 3) := by decide +kernel
theorem dX5_count_72 : decode cX5_count 72 = .ok (.invokestatic 80, 3) := by decide +kernel
theorem dX5_count_75 : decode cX5_count 75 = .ok (.ireturn, 1) := by decide +kernel
theorem dX5_count_76 : decode cX5_count 76 = .ok (.aload_n 0, 1) := by decide +kernel
theorem dX5_count_77 : decode cX5_count 77 = .ok (.getfield 63, 3) := by decide +kernel
theorem dX5_count_80 : decode cX5_count 80 = .ok (.getfield 85, 3) := by decide +kernel
theorem dX5_count_83 : decode cX5_count 83 = .ok (.ireturn, 1) := by decide +kernel
theorem dX5_count_84 : decode cX5_count 84 = .ok (.aload_n 0, 1) := by decide +kernel
theorem dX5_count_85 : decode cX5_count 85 = .ok (.getfield 54, 3) := by decide +kernel
theorem dX5_count_88 : decode cX5_count 88 = .ok (.ireturn, 1) := by decide +kernel
theorem dX5_count_89 : decode cX5_count 89 = .ok (.aload_n 0, 1) := by decide +kernel
theorem dX5_count_90 : decode cX5_count 90 = .ok (.getfield 63, 3) := by decide +kernel
theorem dX5_count_93 : decode cX5_count 93 = .ok (.getfield 88, 3) := by decide +kernel
theorem dX5_count_96 : decode cX5_count 96 = .ok (.getfield 92, 3) := by decide +kernel
theorem dX5_count_99 : decode cX5_count 99 = .ok (.ireturn, 1) := by decide +kernel
theorem dX5_count_100 : decode cX5_count 100 = .ok (.aload_n 0, 1) := by decide +kernel
theorem dX5_count_101 : decode cX5_count 101 = .ok (.getfield 10, 3) := by decide +kernel
theorem dX5_count_104 : decode cX5_count 104 = .ok (.getfield 95, 3) := by decide +kernel
theorem dX5_count_107 : decode cX5_count 107 = .ok (.ireturn, 1) := by decide +kernel
theorem dX5_count_108 : decode cX5_count 108 = .ok (.bipush (-2), 2) := by decide +kernel
theorem dX5_count_110 : decode cX5_count 110 = .ok (.ireturn, 1) := by decide +kernel
theorem dX5_cask_0 : decode cX5_cask 0 = .ok (.iload_n 1, 1) := by decide +kernel
theorem dX5_cask_1 : decode cX5_cask 1 = .ok (.invokestatic 98, 3) := by decide +kernel
theorem dX5_cask_4 : decode cX5_cask 4 = .ok (.ifCond .ne 6, 3) := by decide +kernel
theorem dX5_cask_7 : decode cX5_cask 7 = .ok (.bipush (-5), 2) := by decide +kernel
theorem dX5_cask_9 : decode cX5_cask 9 = .ok (.ireturn, 1) := by decide +kernel
theorem dX5_cask_10 : decode cX5_cask 10 = .ok (.iload_n 2, 1) := by decide +kernel
theorem dX5_cask_11 : decode cX5_cask 11 = .ok (.getstatic 102, 3) := by decide +kernel
theorem dX5_cask_14 : decode cX5_cask 14 = .ok (.arraylength, 1) := by decide +kernel
theorem dX5_cask_15 : decode cX5_cask 15 = .ok (.iconst 1, 1) := by decide +kernel
theorem dX5_cask_16 : decode cX5_cask 16 = .ok (.isub, 1) := by decide +kernel
theorem dX5_cask_17 : decode cX5_cask 17 = .ok (.invokestatic 106, 3) := by decide +kernel
theorem dX5_cask_20 : decode cX5_cask 20 = .ok (.ifCond .eq 15, 3) := by decide +kernel
theorem dX5_cask_23 : decode cX5_cask 23 = .ok (.iload_n 3, 1) := by decide +kernel
theorem dX5_cask_24 : decode cX5_cask 24 = .ok (.getstatic 102, 3) := by decide +kernel
theorem dX5_cask_27 : decode cX5_cask 27 = .ok (.iload_n 2, 1) := by decide +kernel
theorem dX5_cask_28 : decode cX5_cask 28 = .ok (.iaload, 1) := by decide +kernel
theorem dX5_cask_29 : decode cX5_cask 29 = .ok (.invokestatic 106, 3) := by decide +kernel
theorem dX5_cask_32 : decode cX5_cask 32 = .ok (.ifCond .ne 6, 3) := by decide +kernel
theorem dX5_cask_35 : decode cX5_cask 35 = .ok (.bipush (-7), 2) := by decide +kernel
theorem dX5_cask_37 : decode cX5_cask 37 = .ok (.ireturn, 1) := by decide +kernel
theorem dX5_cask_38 : decode cX5_cask 38 = .ok (.aload_n 0, 1) := by decide +kernel
theorem dX5_cask_39 : decode cX5_cask 39 = .ok (.getfield 63, 3) := by decide +kernel
theorem dX5_cask_42 : decode cX5_cask 42 = .ok (.iload_n 2, 1) := by decide +kernel
theorem dX5_cask_43 : decode cX5_cask 43 = .ok (.invokevirtual 110, 3) := by decide +kernel
theorem dX5_cask_46 : decode cX5_cask 46 = .ok (.astore 4, 2) := by decide +kernel
theorem dX5_cask_48 : decode cX5_cask 48 = .ok (.aload 4, 2) := by decide +kernel
theorem dX5_cask_50 : decode cX5_cask 50 = .ok (.iload_n 1, 1) := by decide +kernel
theorem dX5_cask_51 : decode cX5_cask 51 = .ok (.iaload, 1) := by decide +kernel
theorem dX5_cask_52 : decode cX5_cask 52 = .ok (.istore 5, 2) := by decide +kernel
theorem dX5_cask_54 : decode cX5_cask 54 = .ok (.aload 4, 2) := by decide +kernel
theorem dX5_cask_56 : decode cX5_cask 56 = .ok (.iload_n 1, 1) := by decide +kernel
theorem dX5_cask_57 : decode cX5_cask 57 = .ok (.iload_n 3, 1) := by decide +kernel
theorem dX5_cask_58 : decode cX5_cask 58 = .ok (.iastore, 1) := by decide +kernel
theorem dX5_cask_59 : decode cX5_cask 59 = .ok (.iload 5, 2) := by decide +kernel
theorem dX5_cask_61 : decode cX5_cask 61 = .ok (.ireturn, 1) := by decide +kernel
theorem dX5_lies_0 : decode cX5_lies 0 = .ok (.iload_n 1, 1) := by decide +kernel
theorem dX5_lies_1 : decode cX5_lies 1 = .ok (.invokestatic 98, 3) := by decide +kernel
theorem dX5_lies_4 : decode cX5_lies 4 = .ok (.ifCond .ne 6, 3) := by decide +kernel
theorem dX5_lies_7 : decode cX5_lies 7 = .ok (.bipush (-5), 2) := by decide +kernel
theorem dX5_lies_9 : decode cX5_lies 9 = .ok (.ireturn, 1) := by decide +kernel
theorem dX5_lies_10 : decode cX5_lies 10 = .ok (.iload_n 2, 1) := by decide +kernel
theorem dX5_lies_11 : decode cX5_lies 11 = .ok (.getstatic 102, 3) := by decide +kernel
theorem dX5_lies_14 : decode cX5_lies 14 = .ok (.arraylength, 1) := by decide +kernel
theorem dX5_lies_15 : decode cX5_lies 15 = .ok (.iconst 1, 1) := by decide +kernel
theorem dX5_lies_16 : decode cX5_lies 16 = .ok (.isub, 1) := by decide +kernel
theorem dX5_lies_17 : decode cX5_lies 17 = .ok (.invokestatic 106, 3) := by decide +kernel
theorem dX5_lies_20 : decode cX5_lies 20 = .ok (.ifCond .eq 16, 3) := by decide +kernel
theorem dX5_lies_23 : decode cX5_lies 23 = .ok (.aload_n 0, 1) := by decide +kernel
theorem dX5_lies_24 : decode cX5_lies 24 = .ok (.getfield 63, 3) := by decide +kernel
theorem dX5_lies_27 : decode cX5_lies 27 = .ok (.iload_n 2, 1) := by decide +kernel
theorem dX5_lies_28 : decode cX5_lies 28 = .ok (.invokevirtual 110, 3) := by decide +kernel
theorem dX5_lies_31 : decode cX5_lies 31 = .ok (.iload_n 1, 1) := by decide +kernel
theorem dX5_lies_32 : decode cX5_lies 32 = .ok (.iaload, 1) := by decide +kernel
theorem dX5_lies_33 : decode cX5_lies 33 = .ok (.goto 5, 3) := by decide +kernel
theorem dX5_lies_36 : decode cX5_lies 36 = .ok (.bipush (-7), 2) := by decide +kernel
theorem dX5_lies_38 : decode cX5_lies 38 = .ok (.ireturn, 1) := by decide +kernel
theorem dX5_sky_0 : decode cX5_sky 0 = .ok (.iload_n 1, 1) := by decide +kernel
theorem dX5_sky_1 : decode cX5_sky 1 = .ok (.bipush 6, 2) := by decide +kernel
theorem dX5_sky_3 : decode cX5_sky 3 = .ok (.if_icmp .ne 9, 3) := by decide +kernel
theorem dX5_sky_6 : decode cX5_sky 6 = .ok (.aload_n 0, 1) := by decide +kernel
theorem dX5_sky_7 : decode cX5_sky 7 = .ok (.iload_n 2, 1) := by decide +kernel
theorem dX5_sky_8 : decode cX5_sky 8 = .ok (.invokevirtual 114, 3) := by decide +kernel
theorem dX5_sky_11 : decode cX5_sky 11 = .ok (.ireturn, 1) := by decide +kernel
theorem dX5_sky_12 : decode cX5_sky 12 = .ok (.iload_n 1, 1) := by decide +kernel
theorem dX5_sky_13 : decode cX5_sky 13 = .ok (.invokestatic 117, 3) := by decide +kernel
theorem dX5_sky_16 : decode cX5_sky 16 = .ok (.ifCond .ne 6, 3) := by decide +kernel
theorem dX5_sky_19 : decode cX5_sky 19 = .ok (.bipush (-5), 2) := by decide +kernel
theorem dX5_sky_21 : decode cX5_sky 21 = .ok (.ireturn, 1) := by decide +kernel
theorem dX5_sky_22 : decode cX5_sky 22 = .ok (.iload_n 2, 1) := by decide +kernel
theorem dX5_sky_23 : decode cX5_sky 23 = .ok (.bipush 99, 2) := by decide +kernel
theorem dX5_sky_25 : decode cX5_sky 25 = .ok (.invokestatic 106, 3) := by decide +kernel
theorem dX5_sky_28 : decode cX5_sky 28 = .ok (.ifCond .ne 6, 3) := by decide +kernel
theorem dX5_sky_31 : decode cX5_sky 31 = .ok (.bipush (-7), 2) := by decide +kernel
theorem dX5_sky_33 : decode cX5_sky 33 = .ok (.ireturn, 1) := by decide +kernel
theorem dX5_sky_34 : decode cX5_sky 34 = .ok (.aload_n 0, 1) := by decide +kernel
theorem dX5_sky_35 : decode cX5_sky 35 = .ok (.getfield 63, 3) := by decide +kernel
theorem dX5_sky_38 : decode cX5_sky 38 = .ok (.getfield 120, 3) := by decide +kernel
theorem dX5_sky_41 : decode cX5_sky 41 = .ok (.iload_n 1, 1) := by decide +kernel
theorem dX5_sky_42 : decode cX5_sky 42 = .ok (.iaload, 1) := by decide +kernel
theorem dX5_sky_43 : decode cX5_sky 43 = .ok (.istore_n 3, 1) := by decide +kernel
theorem dX5_sky_44 : decode cX5_sky 44 = .ok (.aload_n 0, 1) := by decide +kernel
theorem dX5_sky_45 : decode cX5_sky 45 = .ok (.getfield 63, 3) := by decide +kernel
theorem dX5_sky_48 : decode cX5_sky 48 = .ok (.getfield 120, 3) := by decide +kernel
theorem dX5_sky_51 : decode cX5_sky 51 = .ok (.iload_n 1, 1) := by decide +kernel
theorem dX5_sky_52 : decode cX5_sky 52 = .ok (.iload_n 2, 1) := by decide +kernel
theorem dX5_sky_53 : decode cX5_sky 53 = .ok (.iastore, 1) := by decide +kernel
theorem dX5_sky_54 : decode cX5_sky 54 = .ok (.iload_n 3, 1) := by decide +kernel
theorem dX5_sky_55 : decode cX5_sky 55 = .ok (.ireturn, 1) := by decide +kernel
theorem dX5_setHour_0 : decode cX5_setHour 0 = .ok (.iload_n 1, 1) := by decide +kernel
theorem dX5_setHour_1 : decode cX5_setHour 1 = .ok (.sipush 999, 3) := by decide +kernel
theorem dX5_setHour_4 : decode cX5_setHour 4 = .ok (.invokestatic 106, 3) := by decide +kernel
theorem dX5_setHour_7 : decode cX5_setHour 7 = .ok (.ifCond .ne 6, 3) := by decide +kernel
theorem dX5_setHour_10 : decode cX5_setHour 10 = .ok (.bipush (-7), 2) := by decide +kernel
theorem dX5_setHour_12 : decode cX5_setHour 12 = .ok (.ireturn, 1) := by decide +kernel
theorem dX5_setHour_13 : decode cX5_setHour 13 = .ok (.aload_n 0, 1) := by decide +kernel
theorem dX5_setHour_14 : decode cX5_setHour 14 = .ok (.getfield 63, 3) := by decide +kernel
theorem dX5_setHour_17 : decode cX5_setHour 17 = .ok (.getfield 85, 3) := by decide +kernel
theorem dX5_setHour_20 : decode cX5_setHour 20 = .ok (.istore_n 2, 1) := by decide +kernel
theorem dX5_setHour_21 : decode cX5_setHour 21 = .ok (.aload_n 0, 1) := by decide +kernel
theorem dX5_setHour_22 : decode cX5_setHour 22 = .ok (.getfield 63, 3) := by decide +kernel
theorem dX5_setHour_25 : decode cX5_setHour 25 = .ok (.iload_n 1, 1) := by decide +kernel
theorem dX5_setHour_26 : decode cX5_setHour 26 = .ok (.putfield 85, 3) := by decide +kernel
theorem dX5_setHour_29 : decode cX5_setHour 29 = .ok (.iload_n 2, 1) := by decide +kernel
theorem dX5_setHour_30 : decode cX5_setHour 30 = .ok (.ireturn, 1) := by decide +kernel
theorem dX5_feed_0 : decode cX5_feed 0 = .ok (.iload_n 1, 1) := by decide +kernel
theorem dX5_feed_1 : decode cX5_feed 1 = .ok (.iconst 1, 1) := by decide +kernel
theorem dX5_feed_2 : decode cX5_feed 2 = .ok (.if_icmp .lt 22, 3) := by decide +kernel
theorem dX5_feed_5 : decode cX5_feed 5 = .ok (.iload_n 1, 1) := by decide +kernel
theorem dX5_feed_6 : decode cX5_feed 6 = .ok (.iconst 5, 1) := by decide +kernel
theorem dX5_feed_7 : decode cX5_feed 7 = .ok (.if_icmp .gt 17, 3) := by decide +kernel
theorem dX5_feed_10 : decode cX5_feed 10 = .ok (.iload_n 2, 1) := by decide +kernel
theorem dX5_feed_11 : decode cX5_feed 11 = .ok (.iload_n 3, 1) := by decide +kernel
theorem dX5_feed_12 : decode cX5_feed 12 = .ok (.iload 4, 2) := by decide +kernel
theorem dX5_feed_14 : decode cX5_feed 14 = .ok (.iload 5, 2) := by decide +kernel
theorem dX5_feed_16 : decode cX5_feed 16 = .ok (.iload 6, 2) := by decide +kernel
theorem dX5_feed_18 : decode cX5_feed 18 = .ok (.invokestatic 123, 3) := by decide +kernel
theorem dX5_feed_21 : decode cX5_feed 21 = .ok (.ifCond .ne 6, 3) := by decide +kernel
theorem dX5_feed_24 : decode cX5_feed 24 = .ok (.bipush (-2), 2) := by decide +kernel
theorem dX5_feed_26 : decode cX5_feed 26 = .ok (.ireturn, 1) := by decide +kernel
theorem dX5_feed_27 : decode cX5_feed 27 = .ok (.aload_n 0, 1) := by decide +kernel
theorem dX5_feed_28 : decode cX5_feed 28 = .ok (.getfield 10, 3) := by decide +kernel
theorem dX5_feed_31 : decode cX5_feed 31 = .ok (.iload_n 1, 1) := by decide +kernel
theorem dX5_feed_32 : decode cX5_feed 32 = .ok (.invokevirtual 127, 3) := by decide +kernel
theorem dX5_feed_35 : decode cX5_feed 35 = .ok (.ifCond .ne 6, 3) := by decide +kernel
theorem dX5_feed_38 : decode cX5_feed 38 = .ok (.bipush (-4), 2) := by decide +kernel
theorem dX5_feed_40 : decode cX5_feed 40 = .ok (.ireturn, 1) := by decide +kernel
theorem dX5_feed_41 : decode cX5_feed 41 = .ok (.aload_n 0, 1) := by decide +kernel
theorem dX5_feed_42 : decode cX5_feed 42 = .ok (.getfield 10, 3) := by decide +kernel
theorem dX5_feed_45 : decode cX5_feed 45 = .ok (.iload_n 2, 1) := by decide +kernel
theorem dX5_feed_46 : decode cX5_feed 46 = .ok (.invokevirtual 44, 3) := by decide +kernel
theorem dX5_feed_49 : decode cX5_feed 49 = .ok (.iload_n 1, 1) := by decide +kernel
theorem dX5_feed_50 : decode cX5_feed 50 = .ok (.iconst 1, 1) := by decide +kernel
theorem dX5_feed_51 : decode cX5_feed 51 = .ok (.if_icmp .le 11, 3) := by decide +kernel
theorem dX5_feed_54 : decode cX5_feed 54 = .ok (.aload_n 0, 1) := by decide +kernel
theorem dX5_feed_55 : decode cX5_feed 55 = .ok (.getfield 10, 3) := by decide +kernel
theorem dX5_feed_58 : decode cX5_feed 58 = .ok (.iload_n 3, 1) := by decide +kernel
theorem dX5_feed_59 : decode cX5_feed 59 = .ok (.invokevirtual 44, 3) := by decide +kernel
theorem dX5_feed_62 : decode cX5_feed 62 = .ok (.iload_n 1, 1) := by decide +kernel
theorem dX5_feed_63 : decode cX5_feed 63 = .ok (.iconst 2, 1) := by decide +kernel
theorem dX5_feed_64 : decode cX5_feed 64 = .ok (.if_icmp .le 12, 3) := by decide +kernel
theorem dX5_feed_67 : decode cX5_feed 67 = .ok (.aload_n 0, 1) := by decide +kernel
theorem dX5_feed_68 : decode cX5_feed 68 = .ok (.getfield 10, 3) := by decide +kernel
theorem dX5_feed_71 : decode cX5_feed 71 = .ok (.iload 4, 2) := by decide +kernel
theorem dX5_feed_73 : decode cX5_feed 73 = .ok (.invokevirtual 44, 3) := by decide +kernel
theorem dX5_feed_76 : decode cX5_feed 76 = .ok (.iload_n 1, 1) := by decide +kernel
theorem dX5_feed_77 : decode cX5_feed 77 = .ok (.iconst 3, 1) := by decide +kernel
theorem dX5_feed_78 : decode cX5_feed 78 = .ok (.if_icmp .le 12, 3) := by decide +kernel
theorem dX5_feed_81 : decode cX5_feed 81 = .ok (.aload_n 0, 1) := by decide +kernel
theorem dX5_feed_82 : decode cX5_feed 82 = .ok (.getfield 10, 3) := by decide +kernel
theorem dX5_feed_85 : decode cX5_feed 85 = .ok (.iload 5, 2) := by decide +kernel
theorem dX5_feed_87 : decode cX5_feed 87 = .ok (.invokevirtual 44, 3) := by decide +kernel
theorem dX5_feed_90 : decode cX5_feed 90 = .ok (.iload_n 1, 1) := by decide +kernel
theorem dX5_feed_91 : decode cX5_feed 91 = .ok (.iconst 4, 1) := by decide +kernel
theorem dX5_feed_92 : decode cX5_feed 92 = .ok (.if_icmp .le 12, 3) := by decide +kernel
theorem dX5_feed_95 : decode cX5_feed 95 = .ok (.aload_n 0, 1) := by decide +kernel
theorem dX5_feed_96 : decode cX5_feed 96 = .ok (.getfield 10, 3) := by decide +kernel
theorem dX5_feed_99 : decode cX5_feed 99 = .ok (.iload 6, 2) := by decide +kernel
theorem dX5_feed_101 : decode cX5_feed 101 = .ok (.invokevirtual 44, 3) := by decide +kernel
theorem dX5_feed_104 : decode cX5_feed 104 = .ok (.aload_n 0, 1) := by decide +kernel
theorem dX5_feed_105 : decode cX5_feed 105 = .ok (.getfield 10, 3) := by decide +kernel
theorem dX5_feed_108 : decode cX5_feed 108 = .ok (.getfield 95, 3) := by decide +kernel
theorem dX5_feed_111 : decode cX5_feed 111 = .ok (.ireturn, 1) := by decide +kernel
theorem dX5_areBytes_0 : decode cX5_areBytes 0 = .ok (.iload_n 0, 1) := by decide +kernel
theorem dX5_areBytes_1 : decode cX5_areBytes 1 = .ok (.sipush 255, 3) := by decide +kernel
theorem dX5_areBytes_4 : decode cX5_areBytes 4 = .ok (.invokestatic 106, 3) := by decide +kernel
theorem dX5_areBytes_7 : decode cX5_areBytes 7 = .ok (.ifCond .eq 48, 3) := by decide +kernel
theorem dX5_areBytes_10 : decode cX5_areBytes 10 = .ok (.iload_n 1, 1) := by decide +kernel
theorem dX5_areBytes_11 : decode cX5_areBytes 11 = .ok (.sipush 255, 3) := by decide +kernel
theorem dX5_areBytes_14 : decode cX5_areBytes 14 = .ok (.invokestatic 106, 3) := by decide +kernel
theorem dX5_areBytes_17 : decode cX5_areBytes 17 = .ok (.ifCond .eq 38, 3) := by decide +kernel
theorem dX5_areBytes_20 : decode cX5_areBytes 20 = .ok (.iload_n 2, 1) := by decide +kernel
theorem dX5_areBytes_21 : decode cX5_areBytes 21 = .ok (.sipush 255, 3) := by decide +kernel
theorem dX5_areBytes_24 : decode cX5_areBytes 24 = .ok (.invokestatic 106, 3) := by decide +kernel
theorem dX5_areBytes_27 : decode cX5_areBytes 27 = .ok (.ifCond .eq 28, 3) := by decide +kernel
theorem dX5_areBytes_30 : decode cX5_areBytes 30 = .ok (.iload_n 3, 1) := by decide +kernel
theorem dX5_areBytes_31 : decode cX5_areBytes 31 = .ok (.sipush 255, 3) := by decide +kernel
theorem dX5_areBytes_34 : decode cX5_areBytes 34 = .ok (.invokestatic 106, 3) := by decide +kernel
theorem dX5_areBytes_37 : decode cX5_areBytes 37 = .ok (.ifCond .eq 18, 3) := by decide +kernel
theorem dX5_areBytes_40 : decode cX5_areBytes 40 = .ok (.iload 4, 2) := by decide +kernel
theorem dX5_areBytes_42 : decode cX5_areBytes 42 = .ok (.sipush 255, 3) := by decide +kernel
theorem dX5_areBytes_45 : decode cX5_areBytes 45 = .ok (.invokestatic 106, 3) := by decide +kernel
theorem dX5_areBytes_48 : decode cX5_areBytes 48 = .ok (.ifCond .eq 7, 3) := by decide +kernel
theorem dX5_areBytes_51 : decode cX5_areBytes 51 = .ok (.iconst 1, 1) := by decide +kernel
theorem dX5_areBytes_52 : decode cX5_areBytes 52 = .ok (.goto 4, 3) := by decide +kernel
theorem dX5_areBytes_55 : decode cX5_areBytes 55 = .ok (.iconst 0, 1) := by decide +kernel
theorem dX5_areBytes_56 : decode cX5_areBytes 56 = .ok (.ireturn, 1) := by decide +kernel
theorem dX5_text_0 : decode cX5_text 0 = .ok (.aload_n 0, 1) := by decide +kernel
theorem dX5_text_1 : decode cX5_text 1 = .ok (.getfield 54, 3) := by decide +kernel
theorem dX5_text_4 : decode cX5_text 4 = .ok (.bipush 6, 2) := by decide +kernel
theorem dX5_text_6 : decode cX5_text 6 = .ok (.if_icmp .lt 6, 3) := by decide +kernel
theorem dX5_text_9 : decode cX5_text 9 = .ok (.bipush (-4), 2) := by decide +kernel
theorem dX5_text_11 : decode cX5_text 11 = .ok (.ireturn, 1) := by decide +kernel
theorem dX5_text_12 : decode cX5_text 12 = .ok (.aload_n 0, 1) := by decide +kernel
theorem dX5_text_13 : decode cX5_text 13 = .ok (.getfield 10, 3) := by decide +kernel
theorem dX5_text_16 : decode cX5_text 16 = .ok (.aload_n 0, 1) := by decide +kernel
theorem dX5_text_17 : decode cX5_text 17 = .ok (.getfield 18, 3) := by decide +kernel
theorem dX5_text_20 : decode cX5_text 20 = .ok (.aload_n 0, 1) := by decide +kernel
theorem dX5_text_21 : decode cX5_text 21 = .ok (.getfield 54, 3) := by decide +kernel
theorem dX5_text_24 : decode cX5_text 24 = .ok (.aaload, 1) := by decide +kernel
theorem dX5_text_25 : decode cX5_text 25 = .ok (.invokevirtual 47, 3) := by decide +kernel
theorem dX5_text_28 : decode cX5_text 28 = .ok (.istore_n 1, 1) := by decide +kernel
theorem dX5_text_29 : decode cX5_text 29 = .ok (.aload_n 0, 1) := by decide +kernel
theorem dX5_text_30 : decode cX5_text 30 = .ok (.getfield 10, 3) := by decide +kernel
theorem dX5_text_33 : decode cX5_text 33 = .ok (.invokevirtual 51, 3) := by decide +kernel
theorem dX5_text_36 : decode cX5_text 36 = .ok (.iload_n 1, 1) := by decide +kernel
theorem dX5_text_37 : decode cX5_text 37 = .ok (.ifCond .lt 8, 3) := by decide +kernel
theorem dX5_text_40 : decode cX5_text 40 = .ok (.bipush (-100), 2) := by decide +kernel
theorem dX5_text_42 : decode cX5_text 42 = .ok (.iload_n 1, 1) := by decide +kernel
theorem dX5_text_43 : decode cX5_text 43 = .ok (.isub, 1) := by decide +kernel
theorem dX5_text_44 : decode cX5_text 44 = .ok (.ireturn, 1) := by decide +kernel
theorem dX5_text_45 : decode cX5_text 45 = .ok (.aload_n 0, 1) := by decide +kernel
theorem dX5_text_46 : decode cX5_text 46 = .ok (.dup, 1) := by decide +kernel
theorem dX5_text_47 : decode cX5_text 47 = .ok (.getfield 54, 3) := by decide +kernel
theorem dX5_text_50 : decode cX5_text 50 = .ok (.iconst 1, 1) := by decide +kernel
theorem dX5_text_51 : decode cX5_text 51 = .ok (.iadd, 1) := by decide +kernel
theorem dX5_text_52 : decode cX5_text 52 = .ok (.putfield 54, 3) := by decide +kernel
theorem dX5_text_55 : decode cX5_text 55 = .ok (.aload_n 0, 1) := by decide +kernel
theorem dX5_text_56 : decode cX5_text 56 = .ok (.getfield 54, 3) := by decide +kernel
theorem dX5_text_59 : decode cX5_text 59 = .ok (.iconst 1, 1) := by decide +kernel
theorem dX5_text_60 : decode cX5_text 60 = .ok (.isub, 1) := by decide +kernel
theorem dX5_text_61 : decode cX5_text 61 = .ok (.ireturn, 1) := by decide +kernel
theorem dX5_force_0 : decode cX5_force 0 = .ok (.iload_n 1, 1) := by decide +kernel
theorem dX5_force_1 : decode cX5_force 1 = .ok (.aload_n 0, 1) := by decide +kernel
theorem dX5_force_2 : decode cX5_force 2 = .ok (.getfield 54, 3) := by decide +kernel
theorem dX5_force_5 : decode cX5_force 5 = .ok (.iconst 1, 1) := by decide +kernel
theorem dX5_force_6 : decode cX5_force 6 = .ok (.isub, 1) := by decide +kernel
theorem dX5_force_7 : decode cX5_force 7 = .ok (.invokestatic 106, 3) := by decide +kernel
theorem dX5_force_10 : decode cX5_force 10 = .ok (.ifCond .ne 6, 3) := by decide +kernel
theorem dX5_force_13 : decode cX5_force 13 = .ok (.bipush (-2), 2) := by decide +kernel
theorem dX5_force_15 : decode cX5_force 15 = .ok (.ireturn, 1) := by decide +kernel
theorem dX5_force_16 : decode cX5_force 16 = .ok (.aload_n 0, 1) := by decide +kernel
theorem dX5_force_17 : decode cX5_force 17 = .ok (.getfield 63, 3) := by decide +kernel
theorem dX5_force_20 : decode cX5_force 20 = .ok (.getfield 88, 3) := by decide +kernel
theorem dX5_force_23 : decode cX5_force 23 = .ok (.getfield 92, 3) := by decide +kernel
theorem dX5_force_26 : decode cX5_force 26 = .ok (.istore_n 2, 1) := by decide +kernel
theorem dX5_force_27 : decode cX5_force 27 = .ok (.aload_n 0, 1) := by decide +kernel
theorem dX5_force_28 : decode cX5_force 28 = .ok (.getfield 63, 3) := by decide +kernel
theorem dX5_force_31 : decode cX5_force 31 = .ok (.aload_n 0, 1) := by decide +kernel
theorem dX5_force_32 : decode cX5_force 32 = .ok (.getfield 18, 3) := by decide +kernel
theorem dX5_force_35 : decode cX5_force 35 = .ok (.iload_n 1, 1) := by decide +kernel
theorem dX5_force_36 : decode cX5_force 36 = .ok (.aaload, 1) := by decide +kernel
theorem dX5_force_37 : decode cX5_force 37 = .ok (.putfield 88, 3) := by decide +kernel
theorem dX5_force_40 : decode cX5_force 40 = .ok (.iload_n 2, 1) := by decide +kernel
theorem dX5_force_41 : decode cX5_force 41 = .ok (.ireturn, 1) := by decide +kernel
theorem dX5_diver_0 : decode cX5_diver 0 = .ok (.iload_n 1, 1) := by decide +kernel
theorem dX5_diver_1 : decode cX5_diver 1 = .ok (.bipush 59, 2) := by decide +kernel
theorem dX5_diver_3 : decode cX5_diver 3 = .ok (.invokestatic 106, 3) := by decide +kernel
theorem dX5_diver_6 : decode cX5_diver 6 = .ok (.ifCond .eq 12, 3) := by decide +kernel
theorem dX5_diver_9 : decode cX5_diver 9 = .ok (.iload_n 2, 1) := by decide +kernel
theorem dX5_diver_10 : decode cX5_diver 10 = .ok (.bipush 99, 2) := by decide +kernel
theorem dX5_diver_12 : decode cX5_diver 12 = .ok (.invokestatic 106, 3) := by decide +kernel
theorem dX5_diver_15 : decode cX5_diver 15 = .ok (.ifCond .ne 6, 3) := by decide +kernel
theorem dX5_diver_18 : decode cX5_diver 18 = .ok (.bipush (-2), 2) := by decide +kernel
theorem dX5_diver_20 : decode cX5_diver 20 = .ok (.ireturn, 1) := by decide +kernel
theorem dX5_diver_21 : decode cX5_diver 21 = .ok (.aload_n 0, 1) := by decide +kernel
theorem dX5_diver_22 : decode cX5_diver 22 = .ok (.getfield 63, 3) := by decide +kernel
theorem dX5_diver_25 : decode cX5_diver 25 = .ok (.getfield 73, 3) := by decide +kernel
theorem dX5_diver_28 : decode cX5_diver 28 = .ok (.bipush 6, 2) := by decide +kernel
theorem dX5_diver_30 : decode cX5_diver 30 = .ok (.if_icmp .lt 6, 3) := by decide +kernel
theorem dX5_diver_33 : decode cX5_diver 33 = .ok (.bipush (-4), 2) := by decide +kernel
theorem dX5_diver_35 : decode cX5_diver 35 = .ok (.ireturn, 1) := by decide +kernel
theorem dX5_diver_36 : decode cX5_diver 36 = .ok (.aload_n 0, 1) := by decide +kernel
theorem dX5_diver_37 : decode cX5_diver 37 = .ok (.getfield 63, 3) := by decide +kernel
theorem dX5_diver_40 : decode cX5_diver 40 = .ok (.iload_n 1, 1) := by decide +kernel
theorem dX5_diver_41 : decode cX5_diver 41 = .ok (.bipush 10, 2) := by decide +kernel
theorem dX5_diver_43 : decode cX5_diver 43 = .ok (.idiv, 1) := by decide +kernel
theorem dX5_diver_44 : decode cX5_diver 44 = .ok (.iload_n 1, 1) := by decide +kernel
theorem dX5_diver_45 : decode cX5_diver 45 = .ok (.bipush 10, 2) := by decide +kernel
theorem dX5_diver_47 : decode cX5_diver 47 = .ok (.irem, 1) := by decide +kernel
theorem dX5_diver_48 : decode cX5_diver 48 = .ok (.iload_n 2, 1) := by decide +kernel
theorem dX5_diver_49 : decode cX5_diver 49 = .ok (.invokevirtual 144, 3) := by decide +kernel
theorem dX5_diver_52 : decode cX5_diver 52 = .ok (.ireturn, 1) := by decide +kernel
theorem dX5_put_0 : decode cX5_put 0 = .ok (.aload_n 0, 1) := by decide +kernel
theorem dX5_put_1 : decode cX5_put 1 = .ok (.iload_n 1, 1) := by decide +kernel
theorem dX5_put_2 : decode cX5_put 2 = .ok (.invokevirtual 134, 3) := by decide +kernel
theorem dX5_put_5 : decode cX5_put 5 = .ok (.ifCond .ne 6, 3) := by decide +kernel
theorem dX5_put_8 : decode cX5_put 8 = .ok (.bipush (-5), 2) := by decide +kernel
theorem dX5_put_10 : decode cX5_put 10 = .ok (.ireturn, 1) := by decide +kernel
theorem dX5_put_11 : decode cX5_put 11 = .ok (.iload_n 2, 1) := by decide +kernel
theorem dX5_put_12 : decode cX5_put 12 = .ok (.bipush 99, 2) := by decide +kernel
theorem dX5_put_14 : decode cX5_put 14 = .ok (.invokestatic 106, 3) := by decide +kernel
theorem dX5_put_17 : decode cX5_put 17 = .ok (.ifCond .ne 6, 3) := by decide +kernel
theorem dX5_put_20 : decode cX5_put 20 = .ok (.bipush (-7), 2) := by decide +kernel
theorem dX5_put_22 : decode cX5_put 22 = .ok (.ireturn, 1) := by decide +kernel
theorem dX5_put_23 : decode cX5_put 23 = .ok (.aload_n 0, 1) := by decide +kernel
theorem dX5_put_24 : decode cX5_put 24 = .ok (.getfield 63, 3) := by decide +kernel
theorem dX5_put_27 : decode cX5_put 27 = .ok (.getfield 147, 3) := by decide +kernel
theorem dX5_put_30 : decode cX5_put 30 = .ok (.iload_n 1, 1) := by decide +kernel
theorem dX5_put_31 : decode cX5_put 31 = .ok (.iaload, 1) := by decide +kernel
theorem dX5_put_32 : decode cX5_put 32 = .ok (.istore_n 3, 1) := by decide +kernel
theorem dX5_put_33 : decode cX5_put 33 = .ok (.aload_n 0, 1) := by decide +kernel
theorem dX5_put_34 : decode cX5_put 34 = .ok (.getfield 63, 3) := by decide +kernel
theorem dX5_put_37 : decode cX5_put 37 = .ok (.getfield 147, 3) := by decide +kernel
theorem dX5_put_40 : decode cX5_put 40 = .ok (.iload_n 1, 1) := by decide +kernel
theorem dX5_put_41 : decode cX5_put 41 = .ok (.iload_n 2, 1) := by decide +kernel
theorem dX5_put_42 : decode cX5_put 42 = .ok (.iastore, 1) := by decide +kernel
theorem dX5_put_43 : decode cX5_put 43 = .ok (.iload_n 3, 1) := by decide +kernel
theorem dX5_put_44 : decode cX5_put 44 = .ok (.ireturn, 1) := by decide +kernel
theorem dX5_told_0 : decode cX5_told 0 = .ok (.aload_n 0, 1) := by decide +kernel
theorem dX5_told_1 : decode cX5_told 1 = .ok (.iload_n 1, 1) := by decide +kernel
theorem dX5_told_2 : decode cX5_told 2 = .ok (.invokevirtual 134, 3) := by decide +kernel
theorem dX5_told_5 : decode cX5_told 5 = .ok (.ifCond .ne 6, 3) := by decide +kernel
theorem dX5_told_8 : decode cX5_told 8 = .ok (.bipush (-5), 2) := by decide +kernel
theorem dX5_told_10 : decode cX5_told 10 = .ok (.ireturn, 1) := by decide +kernel
theorem dX5_told_11 : decode cX5_told 11 = .ok (.iload_n 2, 1) := by decide +kernel
theorem dX5_told_12 : decode cX5_told 12 = .ok (.tableswitch 111 0 5 #[40, 50, 60, 70, 80, 89], 40) := by decide +kernel
theorem dX5_told_52 : decode cX5_told 52 = .ok (.aload_n 0, 1) := by decide +kernel
theorem dX5_told_53 : decode cX5_told 53 = .ok (.getfield 63, 3) := by decide +kernel
theorem dX5_told_56 : decode cX5_told 56 = .ok (.getfield 147, 3) := by decide +kernel
theorem dX5_told_59 : decode cX5_told 59 = .ok (.iload_n 1, 1) := by decide +kernel
theorem dX5_told_60 : decode cX5_told 60 = .ok (.iaload, 1) := by decide +kernel
theorem dX5_told_61 : decode cX5_told 61 = .ok (.ireturn, 1) := by decide +kernel
theorem dX5_told_62 : decode cX5_told 62 = .ok (.aload_n 0, 1) := by decide +kernel
theorem dX5_told_63 : decode cX5_told 63 = .ok (.getfield 63, 3) := by decide +kernel
theorem dX5_told_66 : decode cX5_told 66 = .ok (.getfield 150, 3) := by decide +kernel
theorem dX5_told_69 : decode cX5_told 69 = .ok (.iload_n 1, 1) := by decide +kernel
theorem dX5_told_70 : decode cX5_told 70 = .ok (.iaload, 1) := by decide +kernel
theorem dX5_told_71 : decode cX5_told 71 = .ok (.ireturn, 1) := by decide +kernel
theorem dX5_told_72 : decode cX5_told 72 = .ok (.aload_n 0, 1) := by decide +kernel
theorem dX5_told_73 : decode cX5_told 73 = .ok (.getfield 63, 3) := by decide +kernel
theorem dX5_told_76 : decode cX5_told 76 = .ok (.getfield 153, 3) := by decide +kernel
theorem dX5_told_79 : decode cX5_told 79 = .ok (.iload_n 1, 1) := by decide +kernel
theorem dX5_told_80 : decode cX5_told 80 = .ok (.iaload, 1) := by decide +kernel
theorem dX5_told_81 : decode cX5_told 81 = .ok (.ireturn, 1) := by decide +kernel
theorem dX5_told_82 : decode cX5_told 82 = .ok (.aload_n 0, 1) := by decide +kernel
theorem dX5_told_83 : decode cX5_told 83 = .ok (.getfield 63, 3) := by decide +kernel
theorem dX5_told_86 : decode cX5_told 86 = .ok (.getfield 156, 3) := by decide +kernel
theorem dX5_told_89 : decode cX5_told 89 = .ok (.iload_n 1, 1) := by decide +kernel
theorem dX5_told_90 : decode cX5_told 90 = .ok (.iaload, 1) := by decide +kernel
theorem dX5_told_91 : decode cX5_told 91 = .ok (.ireturn, 1) := by decide +kernel
theorem dX5_told_92 : decode cX5_told 92 = .ok (.aload_n 0, 1) := by decide +kernel
theorem dX5_told_93 : decode cX5_told 93 = .ok (.getfield 63, 3) := by decide +kernel
theorem dX5_told_96 : decode cX5_told 96 = .ok (.iload_n 1, 1) := by decide +kernel
theorem dX5_told_97 : decode cX5_told 97 = .ok (.invokevirtual 159, 3) := by decide +kernel
theorem dX5_told_100 : decode cX5_told 100 = .ok (.ireturn, 1) := by decide +kernel
theorem dX5_told_101 : decode cX5_told 101 = .ok (.aload_n 0, 1) := by decide +kernel
theorem dX5_told_102 : decode cX5_told 102 = .ok (.getfield 63, 3) := by decide +kernel
theorem dX5_told_105 : decode cX5_told 105 = .ok (.getfield 153, 3) := by decide +kernel
theorem dX5_told_108 : decode cX5_told 108 = .ok (.iload_n 1, 1) := by decide +kernel
theorem dX5_told_109 : decode cX5_told 109 = .ok (.iaload, 1) := by decide +kernel
theorem dX5_told_110 : decode cX5_told 110 = .ok (.aload_n 0, 1) := by decide +kernel
theorem dX5_told_111 : decode cX5_told 111 = .ok (.getfield 63, 3) := by decide +kernel
theorem dX5_told_114 : decode cX5_told 114 = .ok (.getfield 156, 3) := by decide +kernel
theorem dX5_told_117 : decode cX5_told 117 = .ok (.iload_n 1, 1) := by decide +kernel
theorem dX5_told_118 : decode cX5_told 118 = .ok (.iaload, 1) := by decide +kernel
theorem dX5_told_119 : decode cX5_told 119 = .ok (.invokestatic 162, 3) := by decide +kernel
theorem dX5_told_122 : decode cX5_told 122 = .ok (.ireturn, 1) := by decide +kernel
theorem dX5_told_123 : decode cX5_told 123 = .ok (.bipush (-7), 2) := by decide +kernel
theorem dX5_told_125 : decode cX5_told 125 = .ok (.ireturn, 1) := by decide +kernel
theorem dX5_dives_0 : decode cX5_dives 0 = .ok (.aload_n 0, 1) := by decide +kernel
theorem dX5_dives_1 : decode cX5_dives 1 = .ok (.iload_n 1, 1) := by decide +kernel
theorem dX5_dives_2 : decode cX5_dives 2 = .ok (.invokevirtual 134, 3) := by decide +kernel
theorem dX5_dives_5 : decode cX5_dives 5 = .ok (.ifCond .eq 10, 3) := by decide +kernel
theorem dX5_dives_8 : decode cX5_dives 8 = .ok (.iload_n 2, 1) := by decide +kernel
theorem dX5_dives_9 : decode cX5_dives 9 = .ok (.invokestatic 98, 3) := by decide +kernel
theorem dX5_dives_12 : decode cX5_dives 12 = .ok (.ifCond .ne 6, 3) := by decide +kernel
theorem dX5_dives_15 : decode cX5_dives 15 = .ok (.bipush (-5), 2) := by decide +kernel
theorem dX5_dives_17 : decode cX5_dives 17 = .ok (.ireturn, 1) := by decide +kernel
theorem dX5_dives_18 : decode cX5_dives 18 = .ok (.iload_n 3, 1) := by decide +kernel
theorem dX5_dives_19 : decode cX5_dives 19 = .ok (.tableswitch 63 0 2 #[25, 35, 45], 25) := by decide +kernel
theorem dX5_dives_44 : decode cX5_dives 44 = .ok (.aload_n 0, 1) := by decide +kernel
theorem dX5_dives_45 : decode cX5_dives 45 = .ok (.getfield 63, 3) := by decide +kernel
theorem dX5_dives_48 : decode cX5_dives 48 = .ok (.iload_n 1, 1) := by decide +kernel
theorem dX5_dives_49 : decode cX5_dives 49 = .ok (.iload_n 2, 1) := by decide +kernel
theorem dX5_dives_50 : decode cX5_dives 50 = .ok (.invokevirtual 167, 3) := by decide +kernel
theorem dX5_dives_53 : decode cX5_dives 53 = .ok (.ireturn, 1) := by decide +kernel
theorem dX5_dives_54 : decode cX5_dives 54 = .ok (.aload_n 0, 1) := by decide +kernel
theorem dX5_dives_55 : decode cX5_dives 55 = .ok (.getfield 63, 3) := by decide +kernel
theorem dX5_dives_58 : decode cX5_dives 58 = .ok (.iload_n 1, 1) := by decide +kernel
theorem dX5_dives_59 : decode cX5_dives 59 = .ok (.iload_n 2, 1) := by decide +kernel
theorem dX5_dives_60 : decode cX5_dives 60 = .ok (.invokevirtual 170, 3) := by decide +kernel
theorem dX5_dives_63 : decode cX5_dives 63 = .ok (.ireturn, 1) := by decide +kernel
theorem dX5_dives_64 : decode cX5_dives 64 = .ok (.aload_n 0, 1) := by decide +kernel
theorem dX5_dives_65 : decode cX5_dives 65 = .ok (.getfield 63, 3) := by decide +kernel
theorem dX5_dives_68 : decode cX5_dives 68 = .ok (.iload_n 1, 1) := by decide +kernel
theorem dX5_dives_69 : decode cX5_dives 69 = .ok (.iload_n 2, 1) := by decide +kernel
theorem dX5_dives_70 : decode cX5_dives 70 = .ok (.invokevirtual 173, 3) := by decide +kernel
theorem dX5_dives_73 : decode cX5_dives 73 = .ok (.ifCond .eq 7, 3) := by decide +kernel
theorem dX5_dives_76 : decode cX5_dives 76 = .ok (.iconst 1, 1) := by decide +kernel
theorem dX5_dives_77 : decode cX5_dives 77 = .ok (.goto 4, 3) := by decide +kernel
theorem dX5_dives_80 : decode cX5_dives 80 = .ok (.iconst 0, 1) := by decide +kernel
theorem dX5_dives_81 : decode cX5_dives 81 = .ok (.ireturn, 1) := by decide +kernel
theorem dX5_dives_82 : decode cX5_dives 82 = .ok (.bipush (-7), 2) := by decide +kernel
theorem dX5_dives_84 : decode cX5_dives 84 = .ok (.ireturn, 1) := by decide +kernel
theorem dX5_dive_0 : decode cX5_dive 0 = .ok (.aload_n 0, 1) := by decide +kernel
theorem dX5_dive_1 : decode cX5_dive 1 = .ok (.iload_n 1, 1) := by decide +kernel
theorem dX5_dive_2 : decode cX5_dive 2 = .ok (.invokevirtual 134, 3) := by decide +kernel
theorem dX5_dive_5 : decode cX5_dive 5 = .ok (.ifCond .ne 6, 3) := by decide +kernel
theorem dX5_dive_8 : decode cX5_dive 8 = .ok (.bipush (-5), 2) := by decide +kernel
theorem dX5_dive_10 : decode cX5_dive 10 = .ok (.ireturn, 1) := by decide +kernel
theorem dX5_dive_11 : decode cX5_dive 11 = .ok (.iload_n 2, 1) := by decide +kernel
theorem dX5_dive_12 : decode cX5_dive 12 = .ok (.invokestatic 98, 3) := by decide +kernel
theorem dX5_dive_15 : decode cX5_dive 15 = .ok (.ifCond .ne 6, 3) := by decide +kernel
theorem dX5_dive_18 : decode cX5_dive 18 = .ok (.bipush (-6), 2) := by decide +kernel
theorem dX5_dive_20 : decode cX5_dive 20 = .ok (.ireturn, 1) := by decide +kernel
theorem dX5_dive_21 : decode cX5_dive 21 = .ok (.aload_n 0, 1) := by decide +kernel
theorem dX5_dive_22 : decode cX5_dive 22 = .ok (.getfield 63, 3) := by decide +kernel
theorem dX5_dive_25 : decode cX5_dive 25 = .ok (.iload_n 1, 1) := by decide +kernel
theorem dX5_dive_26 : decode cX5_dive 26 = .ok (.iload_n 2, 1) := by decide +kernel
theorem dX5_dive_27 : decode cX5_dive 27 = .ok (.invokevirtual 173, 3) := by decide +kernel
theorem dX5_dive_30 : decode cX5_dive 30 = .ok (.ifCond .ne 6, 3) := by decide +kernel
theorem dX5_dive_33 : decode cX5_dive 33 = .ok (.bipush (-3), 2) := by decide +kernel
theorem dX5_dive_35 : decode cX5_dive 35 = .ok (.ireturn, 1) := by decide +kernel
theorem dX5_dive_36 : decode cX5_dive 36 = .ok (.aload_n 0, 1) := by decide +kernel
theorem dX5_dive_37 : decode cX5_dive 37 = .ok (.getfield 63, 3) := by decide +kernel
theorem dX5_dive_40 : decode cX5_dive 40 = .ok (.iload_n 1, 1) := by decide +kernel
theorem dX5_dive_41 : decode cX5_dive 41 = .ok (.iload_n 2, 1) := by decide +kernel
theorem dX5_dive_42 : decode cX5_dive 42 = .ok (.invokevirtual 176, 3) := by decide +kernel
theorem dX5_dive_45 : decode cX5_dive 45 = .ok (.aload_n 0, 1) := by decide +kernel
theorem dX5_dive_46 : decode cX5_dive 46 = .ok (.getfield 63, 3) := by decide +kernel
theorem dX5_dive_49 : decode cX5_dive 49 = .ok (.getfield 147, 3) := by decide +kernel
theorem dX5_dive_52 : decode cX5_dive 52 = .ok (.iload_n 1, 1) := by decide +kernel
theorem dX5_dive_53 : decode cX5_dive 53 = .ok (.iaload, 1) := by decide +kernel
theorem dX5_dive_54 : decode cX5_dive 54 = .ok (.ireturn, 1) := by decide +kernel
theorem dX5_open_0 : decode cX5_open 0 = .ok (.iload_n 1, 1) := by decide +kernel
theorem dX5_open_1 : decode cX5_open 1 = .ok (.invokestatic 98, 3) := by decide +kernel
theorem dX5_open_4 : decode cX5_open 4 = .ok (.ifCond .ne 6, 3) := by decide +kernel
theorem dX5_open_7 : decode cX5_open 7 = .ok (.bipush (-6), 2) := by decide +kernel
theorem dX5_open_9 : decode cX5_open 9 = .ok (.ireturn, 1) := by decide +kernel
theorem dX5_open_10 : decode cX5_open 10 = .ok (.aload_n 0, 1) := by decide +kernel
theorem dX5_open_11 : decode cX5_open 11 = .ok (.getfield 63, 3) := by decide +kernel
theorem dX5_open_14 : decode cX5_open 14 = .ok (.getfield 180, 3) := by decide +kernel
theorem dX5_open_17 : decode cX5_open 17 = .ok (.iload_n 1, 1) := by decide +kernel
theorem dX5_open_18 : decode cX5_open 18 = .ok (.iaload, 1) := by decide +kernel
theorem dX5_open_19 : decode cX5_open 19 = .ok (.iconst 1, 1) := by decide +kernel
theorem dX5_open_20 : decode cX5_open 20 = .ok (.if_icmp .eq 6, 3) := by decide +kernel
theorem dX5_open_23 : decode cX5_open 23 = .ok (.bipush (-3), 2) := by decide +kernel
theorem dX5_open_25 : decode cX5_open 25 = .ok (.ireturn, 1) := by decide +kernel
theorem dX5_open_26 : decode cX5_open 26 = .ok (.aload_n 0, 1) := by decide +kernel
theorem dX5_open_27 : decode cX5_open 27 = .ok (.getfield 63, 3) := by decide +kernel
theorem dX5_open_30 : decode cX5_open 30 = .ok (.iload_n 1, 1) := by decide +kernel
theorem dX5_open_31 : decode cX5_open 31 = .ok (.invokevirtual 183, 3) := by decide +kernel
theorem dX5_open_34 : decode cX5_open 34 = .ok (.aload_n 0, 1) := by decide +kernel
theorem dX5_open_35 : decode cX5_open 35 = .ok (.getfield 63, 3) := by decide +kernel
theorem dX5_open_38 : decode cX5_open 38 = .ok (.getfield 120, 3) := by decide +kernel
theorem dX5_open_41 : decode cX5_open 41 = .ok (.aload_n 0, 1) := by decide +kernel
theorem dX5_open_42 : decode cX5_open 42 = .ok (.getfield 63, 3) := by decide +kernel
theorem dX5_open_45 : decode cX5_open 45 = .ok (.getfield 186, 3) := by decide +kernel
theorem dX5_open_48 : decode cX5_open 48 = .ok (.iload_n 1, 1) := by decide +kernel
theorem dX5_open_49 : decode cX5_open 49 = .ok (.iaload, 1) := by decide +kernel
theorem dX5_open_50 : decode cX5_open 50 = .ok (.iaload, 1) := by decide +kernel
theorem dX5_open_51 : decode cX5_open 51 = .ok (.ireturn, 1) := by decide +kernel
theorem dX5_hour_0 : decode cX5_hour 0 = .ok (.aload_n 0, 1) := by decide +kernel
theorem dX5_hour_1 : decode cX5_hour 1 = .ok (.getfield 63, 3) := by decide +kernel
theorem dX5_hour_4 : decode cX5_hour 4 = .ok (.getfield 85, 3) := by decide +kernel
theorem dX5_hour_7 : decode cX5_hour 7 = .ok (.sipush 999, 3) := by decide +kernel
theorem dX5_hour_10 : decode cX5_hour 10 = .ok (.if_icmp .lt 6, 3) := by decide +kernel
theorem dX5_hour_13 : decode cX5_hour 13 = .ok (.bipush (-3), 2) := by decide +kernel
theorem dX5_hour_15 : decode cX5_hour 15 = .ok (.ireturn, 1) := by decide +kernel
theorem dX5_hour_16 : decode cX5_hour 16 = .ok (.aload_n 0, 1) := by decide +kernel
theorem dX5_hour_17 : decode cX5_hour 17 = .ok (.getfield 63, 3) := by decide +kernel
theorem dX5_hour_20 : decode cX5_hour 20 = .ok (.iconst 1, 1) := by decide +kernel
theorem dX5_hour_21 : decode cX5_hour 21 = .ok (.invokevirtual 189, 3) := by decide +kernel
theorem dX5_hour_24 : decode cX5_hour 24 = .ok (.aload_n 0, 1) := by decide +kernel
theorem dX5_hour_25 : decode cX5_hour 25 = .ok (.getfield 63, 3) := by decide +kernel
theorem dX5_hour_28 : decode cX5_hour 28 = .ok (.invokevirtual 192, 3) := by decide +kernel
theorem dX5_hour_31 : decode cX5_hour 31 = .ok (.ireturn, 1) := by decide +kernel
theorem dX5_bay_0 : decode cX5_bay 0 = .ok (.iload_n 1, 1) := by decide +kernel
theorem dX5_bay_1 : decode cX5_bay 1 = .ok (.bipush 7, 2) := by decide +kernel
theorem dX5_bay_3 : decode cX5_bay 3 = .ok (.invokestatic 106, 3) := by decide +kernel
theorem dX5_bay_6 : decode cX5_bay 6 = .ok (.ifCond .eq 14, 3) := by decide +kernel
theorem dX5_bay_9 : decode cX5_bay 9 = .ok (.aload_n 0, 1) := by decide +kernel
theorem dX5_bay_10 : decode cX5_bay 10 = .ok (.getfield 63, 3) := by decide +kernel
theorem dX5_bay_13 : decode cX5_bay 13 = .ok (.iload_n 1, 1) := by decide +kernel
theorem dX5_bay_14 : decode cX5_bay 14 = .ok (.invokevirtual 195, 3) := by decide +kernel
theorem dX5_bay_17 : decode cX5_bay 17 = .ok (.goto 6, 3) := by decide +kernel
theorem dX5_bay_20 : decode cX5_bay 20 = .ok (.sipush (-1000), 3) := by decide +kernel
theorem dX5_bay_23 : decode cX5_bay 23 = .ok (.ireturn, 1) := by decide +kernel
theorem dX5_run_0 : decode cX5_run 0 = .ok (.iload_n 2, 1) := by decide +kernel
theorem dX5_run_1 : decode cX5_run 1 = .ok (.bipush 7, 2) := by decide +kernel
theorem dX5_run_3 : decode cX5_run 3 = .ok (.invokestatic 106, 3) := by decide +kernel
theorem dX5_run_6 : decode cX5_run 6 = .ok (.istore_n 3, 1) := by decide +kernel
theorem dX5_run_7 : decode cX5_run 7 = .ok (.iload_n 2, 1) := by decide +kernel
theorem dX5_run_8 : decode cX5_run 8 = .ok (.bipush 10, 2) := by decide +kernel
theorem dX5_run_10 : decode cX5_run 10 = .ok (.if_icmp .lt 18, 3) := by decide +kernel
theorem dX5_run_13 : decode cX5_run 13 = .ok (.aload_n 0, 1) := by decide +kernel
theorem dX5_run_14 : decode cX5_run 14 = .ok (.iload_n 2, 1) := by decide +kernel
theorem dX5_run_15 : decode cX5_run 15 = .ok (.bipush 10, 2) := by decide +kernel
theorem dX5_run_17 : decode cX5_run 17 = .ok (.isub, 1) := by decide +kernel
theorem dX5_run_18 : decode cX5_run 18 = .ok (.invokevirtual 134, 3) := by decide +kernel
theorem dX5_run_21 : decode cX5_run 21 = .ok (.ifCond .eq 7, 3) := by decide +kernel
theorem dX5_run_24 : decode cX5_run 24 = .ok (.iconst 1, 1) := by decide +kernel
theorem dX5_run_25 : decode cX5_run 25 = .ok (.goto 4, 3) := by decide +kernel
theorem dX5_run_28 : decode cX5_run 28 = .ok (.iconst 0, 1) := by decide +kernel
theorem dX5_run_29 : decode cX5_run 29 = .ok (.istore 4, 2) := by decide +kernel
theorem dX5_run_31 : decode cX5_run 31 = .ok (.iload_n 1, 1) := by decide +kernel
theorem dX5_run_32 : decode cX5_run 32 = .ok (.bipush 40, 2) := by decide +kernel
theorem dX5_run_34 : decode cX5_run 34 = .ok (.invokestatic 106, 3) := by decide +kernel
theorem dX5_run_37 : decode cX5_run 37 = .ok (.ifCond .eq 12, 3) := by decide +kernel
theorem dX5_run_40 : decode cX5_run 40 = .ok (.iload_n 3, 1) := by decide +kernel
theorem dX5_run_41 : decode cX5_run 41 = .ok (.ifCond .ne 12, 3) := by decide +kernel
theorem dX5_run_44 : decode cX5_run 44 = .ok (.iload 4, 2) := by decide +kernel
theorem dX5_run_46 : decode cX5_run 46 = .ok (.ifCond .ne 7, 3) := by decide +kernel
theorem dX5_run_49 : decode cX5_run 49 = .ok (.sipush (-1000), 3) := by decide +kernel
theorem dX5_run_52 : decode cX5_run 52 = .ok (.ireturn, 1) := by decide +kernel
theorem dX5_run_53 : decode cX5_run 53 = .ok (.aload_n 0, 1) := by decide +kernel
theorem dX5_run_54 : decode cX5_run 54 = .ok (.getfield 67, 3) := by decide +kernel
theorem dX5_run_57 : decode cX5_run 57 = .ok (.aload_n 0, 1) := by decide +kernel
theorem dX5_run_58 : decode cX5_run 58 = .ok (.getfield 63, 3) := by decide +kernel
theorem dX5_run_61 : decode cX5_run 61 = .ok (.invokevirtual 198, 3) := by decide +kernel
theorem dX5_run_64 : decode cX5_run 64 = .ok (.aload_n 0, 1) := by decide +kernel
theorem dX5_run_65 : decode cX5_run 65 = .ok (.getfield 67, 3) := by decide +kernel
theorem dX5_run_68 : decode cX5_run 68 = .ok (.iload_n 1, 1) := by decide +kernel
theorem dX5_run_69 : decode cX5_run 69 = .ok (.invokevirtual 189, 3) := by decide +kernel
theorem dX5_run_72 : decode cX5_run 72 = .ok (.iload_n 3, 1) := by decide +kernel
theorem dX5_run_73 : decode cX5_run 73 = .ok (.ifCond .eq 14, 3) := by decide +kernel
theorem dX5_run_76 : decode cX5_run 76 = .ok (.aload_n 0, 1) := by decide +kernel
theorem dX5_run_77 : decode cX5_run 77 = .ok (.getfield 67, 3) := by decide +kernel
theorem dX5_run_80 : decode cX5_run 80 = .ok (.iload_n 2, 1) := by decide +kernel
theorem dX5_run_81 : decode cX5_run 81 = .ok (.invokevirtual 195, 3) := by decide +kernel
theorem dX5_run_84 : decode cX5_run 84 = .ok (.goto 15, 3) := by decide +kernel
theorem dX5_run_87 : decode cX5_run 87 = .ok (.aload_n 0, 1) := by decide +kernel
theorem dX5_run_88 : decode cX5_run 88 = .ok (.getfield 67, 3) := by decide +kernel
theorem dX5_run_91 : decode cX5_run 91 = .ok (.getfield 147, 3) := by decide +kernel
theorem dX5_run_94 : decode cX5_run 94 = .ok (.iload_n 2, 1) := by decide +kernel
theorem dX5_run_95 : decode cX5_run 95 = .ok (.bipush 10, 2) := by decide +kernel
theorem dX5_run_97 : decode cX5_run 97 = .ok (.isub, 1) := by decide +kernel
theorem dX5_run_98 : decode cX5_run 98 = .ok (.iaload, 1) := by decide +kernel
theorem dX5_run_99 : decode cX5_run 99 = .ok (.ireturn, 1) := by decide +kernel
theorem dX5_which_0 : decode cX5_which 0 = .ok (.iload_n 1, 1) := by decide +kernel
theorem dX5_which_1 : decode cX5_which 1 = .ok (.bipush 40, 2) := by decide +kernel
theorem dX5_which_3 : decode cX5_which 3 = .ok (.invokestatic 106, 3) := by decide +kernel
theorem dX5_which_6 : decode cX5_which 6 = .ok (.ifCond .eq 11, 3) := by decide +kernel
theorem dX5_which_9 : decode cX5_which 9 = .ok (.iload_n 2, 1) := by decide +kernel
theorem dX5_which_10 : decode cX5_which 10 = .ok (.iconst 1, 1) := by decide +kernel
theorem dX5_which_11 : decode cX5_which 11 = .ok (.invokestatic 106, 3) := by decide +kernel
theorem dX5_which_14 : decode cX5_which 14 = .ok (.ifCond .ne 7, 3) := by decide +kernel
theorem dX5_which_17 : decode cX5_which 17 = .ok (.sipush (-1000), 3) := by decide +kernel
theorem dX5_which_20 : decode cX5_which 20 = .ok (.ireturn, 1) := by decide +kernel
theorem dX5_which_21 : decode cX5_which 21 = .ok (.iconst (-1), 1) := by decide +kernel
theorem dX5_which_22 : decode cX5_which 22 = .ok (.istore_n 3, 1) := by decide +kernel
theorem dX5_which_23 : decode cX5_which 23 = .ok (.aload_n 0, 1) := by decide +kernel
theorem dX5_which_24 : decode cX5_which 24 = .ok (.iload_n 1, 1) := by decide +kernel
theorem dX5_which_25 : decode cX5_which 25 = .ok (.iconst (-1), 1) := by decide +kernel
theorem dX5_which_26 : decode cX5_which 26 = .ok (.invokevirtual 216, 3) := by decide +kernel
theorem dX5_which_29 : decode cX5_which 29 = .ok (.istore 4, 2) := by decide +kernel
theorem dX5_which_31 : decode cX5_which 31 = .ok (.iconst 0, 1) := by decide +kernel
theorem dX5_which_32 : decode cX5_which 32 = .ok (.istore 5, 2) := by decide +kernel
theorem dX5_which_34 : decode cX5_which 34 = .ok (.iload 5, 2) := by decide +kernel
theorem dX5_which_36 : decode cX5_which 36 = .ok (.bipush 12, 2) := by decide +kernel
theorem dX5_which_38 : decode cX5_which 38 = .ok (.if_icmp .ge 46, 3) := by decide +kernel
theorem dX5_which_41 : decode cX5_which 41 = .ok (.aload_n 0, 1) := by decide +kernel
theorem dX5_which_42 : decode cX5_which 42 = .ok (.getfield 63, 3) := by decide +kernel
theorem dX5_which_45 : decode cX5_which 45 = .ok (.getfield 180, 3) := by decide +kernel
theorem dX5_which_48 : decode cX5_which 48 = .ok (.iload 5, 2) := by decide +kernel
theorem dX5_which_50 : decode cX5_which 50 = .ok (.iaload, 1) := by decide +kernel
theorem dX5_which_51 : decode cX5_which 51 = .ok (.iconst 1, 1) := by decide +kernel
theorem dX5_which_52 : decode cX5_which 52 = .ok (.if_icmp .ne 26, 3) := by decide +kernel
theorem dX5_which_55 : decode cX5_which 55 = .ok (.aload_n 0, 1) := by decide +kernel
theorem dX5_which_56 : decode cX5_which 56 = .ok (.iload_n 1, 1) := by decide +kernel
theorem dX5_which_57 : decode cX5_which 57 = .ok (.iload 5, 2) := by decide +kernel
theorem dX5_which_59 : decode cX5_which 59 = .ok (.invokevirtual 216, 3) := by decide +kernel
theorem dX5_which_62 : decode cX5_which 62 = .ok (.istore 6, 2) := by decide +kernel
theorem dX5_which_64 : decode cX5_which 64 = .ok (.iload 6, 2) := by decide +kernel
theorem dX5_which_66 : decode cX5_which 66 = .ok (.iload 4, 2) := by decide +kernel
theorem dX5_which_68 : decode cX5_which 68 = .ok (.if_icmp .le 10, 3) := by decide +kernel
theorem dX5_which_71 : decode cX5_which 71 = .ok (.iload 6, 2) := by decide +kernel
theorem dX5_which_73 : decode cX5_which 73 = .ok (.istore 4, 2) := by decide +kernel
theorem dX5_which_75 : decode cX5_which 75 = .ok (.iload 5, 2) := by decide +kernel
theorem dX5_which_77 : decode cX5_which 77 = .ok (.istore_n 3, 1) := by decide +kernel
theorem dX5_which_78 : decode cX5_which 78 = .ok (.iinc 5 1, 3) := by decide +kernel
theorem dX5_which_81 : decode cX5_which 81 = .ok (.goto (-47), 3) := by decide +kernel
theorem dX5_which_84 : decode cX5_which 84 = .ok (.iload_n 2, 1) := by decide +kernel
theorem dX5_which_85 : decode cX5_which 85 = .ok (.ifCond .ne 7, 3) := by decide +kernel
theorem dX5_which_88 : decode cX5_which 88 = .ok (.iload_n 3, 1) := by decide +kernel
theorem dX5_which_89 : decode cX5_which 89 = .ok (.goto 5, 3) := by decide +kernel
theorem dX5_which_92 : decode cX5_which 92 = .ok (.iload 4, 2) := by decide +kernel
theorem dX5_which_94 : decode cX5_which 94 = .ok (.ireturn, 1) := by decide +kernel
theorem dX5_fairBehind_0 : decode cX5_fairBehind 0 = .ok (.aload_n 0, 1) := by decide +kernel
theorem dX5_fairBehind_1 : decode cX5_fairBehind 1 = .ok (.getfield 67, 3) := by decide +kernel
theorem dX5_fairBehind_4 : decode cX5_fairBehind 4 = .ok (.aload_n 0, 1) := by decide +kernel
theorem dX5_fairBehind_5 : decode cX5_fairBehind 5 = .ok (.getfield 63, 3) := by decide +kernel
theorem dX5_fairBehind_8 : decode cX5_fairBehind 8 = .ok (.invokevirtual 198, 3) := by decide +kernel
theorem dX5_fairBehind_11 : decode cX5_fairBehind 11 = .ok (.iload_n 2, 1) := by decide +kernel
theorem dX5_fairBehind_12 : decode cX5_fairBehind 12 = .ok (.invokestatic 98, 3) := by decide +kernel
theorem dX5_fairBehind_15 : decode cX5_fairBehind 15 = .ok (.ifCond .eq 11, 3) := by decide +kernel
theorem dX5_fairBehind_18 : decode cX5_fairBehind 18 = .ok (.aload_n 0, 1) := by decide +kernel
theorem dX5_fairBehind_19 : decode cX5_fairBehind 19 = .ok (.getfield 67, 3) := by decide +kernel
theorem dX5_fairBehind_22 : decode cX5_fairBehind 22 = .ok (.iload_n 2, 1) := by decide +kernel
theorem dX5_fairBehind_23 : decode cX5_fairBehind 23 = .ok (.invokevirtual 183, 3) := by decide +kernel
theorem dX5_fairBehind_26 : decode cX5_fairBehind 26 = .ok (.aload_n 0, 1) := by decide +kernel
theorem dX5_fairBehind_27 : decode cX5_fairBehind 27 = .ok (.getfield 67, 3) := by decide +kernel
theorem dX5_fairBehind_30 : decode cX5_fairBehind 30 = .ok (.iload_n 1, 1) := by decide +kernel
theorem dX5_fairBehind_31 : decode cX5_fairBehind 31 = .ok (.invokevirtual 189, 3) := by decide +kernel
theorem dX5_fairBehind_34 : decode cX5_fairBehind 34 = .ok (.aload_n 0, 1) := by decide +kernel
theorem dX5_fairBehind_35 : decode cX5_fairBehind 35 = .ok (.getfield 67, 3) := by decide +kernel
theorem dX5_fairBehind_38 : decode cX5_fairBehind 38 = .ok (.invokevirtual 219, 3) := by decide +kernel
theorem dX5_fairBehind_41 : decode cX5_fairBehind 41 = .ok (.ireturn, 1) := by decide +kernel
theorem dX5_cargo_0 : decode cX5_cargo 0 = .ok (.iload_n 1, 1) := by decide +kernel
theorem dX5_cargo_1 : decode cX5_cargo 1 = .ok (.sipush 999, 3) := by decide +kernel
theorem dX5_cargo_4 : decode cX5_cargo 4 = .ok (.invokestatic 106, 3) := by decide +kernel
theorem dX5_cargo_7 : decode cX5_cargo 7 = .ok (.ifCond .eq 11, 3) := by decide +kernel
theorem dX5_cargo_10 : decode cX5_cargo 10 = .ok (.iload_n 2, 1) := by decide +kernel
theorem dX5_cargo_11 : decode cX5_cargo 11 = .ok (.iconst 1, 1) := by decide +kernel
theorem dX5_cargo_12 : decode cX5_cargo 12 = .ok (.invokestatic 106, 3) := by decide +kernel
theorem dX5_cargo_15 : decode cX5_cargo 15 = .ok (.ifCond .ne 6, 3) := by decide +kernel
theorem dX5_cargo_18 : decode cX5_cargo 18 = .ok (.bipush (-2), 2) := by decide +kernel
theorem dX5_cargo_20 : decode cX5_cargo 20 = .ok (.ireturn, 1) := by decide +kernel
theorem dX5_cargo_21 : decode cX5_cargo 21 = .ok (.aload_n 0, 1) := by decide +kernel
theorem dX5_cargo_22 : decode cX5_cargo 22 = .ok (.getfield 63, 3) := by decide +kernel
theorem dX5_cargo_25 : decode cX5_cargo 25 = .ok (.iconst 1, 1) := by decide +kernel
theorem dX5_cargo_26 : decode cX5_cargo 26 = .ok (.invokevirtual 76, 3) := by decide +kernel
theorem dX5_cargo_29 : decode cX5_cargo 29 = .ok (.iconst (-1), 1) := by decide +kernel
theorem dX5_cargo_30 : decode cX5_cargo 30 = .ok (.ixor, 1) := by decide +kernel
theorem dX5_cargo_31 : decode cX5_cargo 31 = .ok (.istore_n 3, 1) := by decide +kernel
theorem dX5_cargo_32 : decode cX5_cargo 32 = .ok (.iconst 0, 1) := by decide +kernel
theorem dX5_cargo_33 : decode cX5_cargo 33 = .ok (.istore 4, 2) := by decide +kernel
theorem dX5_cargo_35 : decode cX5_cargo 35 = .ok (.iconst 0, 1) := by decide +kernel
theorem dX5_cargo_36 : decode cX5_cargo 36 = .ok (.istore 5, 2) := by decide +kernel
theorem dX5_cargo_38 : decode cX5_cargo 38 = .ok (.iconst 1, 1) := by decide +kernel
theorem dX5_cargo_39 : decode cX5_cargo 39 = .ok (.istore 6, 2) := by decide +kernel
theorem dX5_cargo_41 : decode cX5_cargo 41 = .ok (.iload 6, 2) := by decide +kernel
theorem dX5_cargo_43 : decode cX5_cargo 43 = .ok (.sipush 4096, 3) := by decide +kernel
theorem dX5_cargo_46 : decode cX5_cargo 46 = .ok (.if_icmp .ge 61, 3) := by decide +kernel
theorem dX5_cargo_49 : decode cX5_cargo 49 = .ok (.iload 6, 2) := by decide +kernel
theorem dX5_cargo_51 : decode cX5_cargo 51 = .ok (.iload_n 3, 1) := by decide +kernel
theorem dX5_cargo_52 : decode cX5_cargo 52 = .ok (.iand, 1) := by decide +kernel
theorem dX5_cargo_53 : decode cX5_cargo 53 = .ok (.ifCond .ne 48, 3) := by decide +kernel
theorem dX5_cargo_56 : decode cX5_cargo 56 = .ok (.aload_n 0, 1) := by decide +kernel
theorem dX5_cargo_57 : decode cX5_cargo 57 = .ok (.getfield 63, 3) := by decide +kernel
theorem dX5_cargo_60 : decode cX5_cargo 60 = .ok (.getfield 222, 3) := by decide +kernel
theorem dX5_cargo_63 : decode cX5_cargo 63 = .ok (.iload 6, 2) := by decide +kernel
theorem dX5_cargo_65 : decode cX5_cargo 65 = .ok (.invokestatic 225, 3) := by decide +kernel
theorem dX5_cargo_68 : decode cX5_cargo 68 = .ok (.iload_n 1, 1) := by decide +kernel
theorem dX5_cargo_69 : decode cX5_cargo 69 = .ok (.if_icmp .gt 32, 3) := by decide +kernel
theorem dX5_cargo_72 : decode cX5_cargo 72 = .ok (.aload_n 0, 1) := by decide +kernel
theorem dX5_cargo_73 : decode cX5_cargo 73 = .ok (.getfield 63, 3) := by decide +kernel
theorem dX5_cargo_76 : decode cX5_cargo 76 = .ok (.getfield 229, 3) := by decide +kernel
theorem dX5_cargo_79 : decode cX5_cargo 79 = .ok (.iload 6, 2) := by decide +kernel
theorem dX5_cargo_81 : decode cX5_cargo 81 = .ok (.invokestatic 225, 3) := by decide +kernel
theorem dX5_cargo_84 : decode cX5_cargo 84 = .ok (.istore 7, 2) := by decide +kernel
theorem dX5_cargo_86 : decode cX5_cargo 86 = .ok (.iload 7, 2) := by decide +kernel
theorem dX5_cargo_88 : decode cX5_cargo 88 = .ok (.iload 5, 2) := by decide +kernel
theorem dX5_cargo_90 : decode cX5_cargo 90 = .ok (.if_icmp .le 11, 3) := by decide +kernel
theorem dX5_cargo_93 : decode cX5_cargo 93 = .ok (.iload 7, 2) := by decide +kernel
theorem dX5_cargo_95 : decode cX5_cargo 95 = .ok (.istore 5, 2) := by decide +kernel
theorem dX5_cargo_97 : decode cX5_cargo 97 = .ok (.iload 6, 2) := by decide +kernel
theorem dX5_cargo_99 : decode cX5_cargo 99 = .ok (.istore 4, 2) := by decide +kernel
theorem dX5_cargo_101 : decode cX5_cargo 101 = .ok (.iinc 6 1, 3) := by decide +kernel
theorem dX5_cargo_104 : decode cX5_cargo 104 = .ok (.goto (-63), 3) := by decide +kernel
theorem dX5_cargo_107 : decode cX5_cargo 107 = .ok (.iload_n 2, 1) := by decide +kernel
theorem dX5_cargo_108 : decode cX5_cargo 108 = .ok (.ifCond .ne 8, 3) := by decide +kernel
theorem dX5_cargo_111 : decode cX5_cargo 111 = .ok (.iload 4, 2) := by decide +kernel
theorem dX5_cargo_113 : decode cX5_cargo 113 = .ok (.goto 5, 3) := by decide +kernel
theorem dX5_cargo_116 : decode cX5_cargo 116 = .ok (.iload 5, 2) := by decide +kernel
theorem dX5_cargo_118 : decode cX5_cargo 118 = .ok (.ireturn, 1) := by decide +kernel
theorem dX5_last_0 : decode cX5_last 0 = .ok (.aload_n 0, 1) := by decide +kernel
theorem dX5_last_1 : decode cX5_last 1 = .ok (.iload_n 1, 1) := by decide +kernel
theorem dX5_last_2 : decode cX5_last 2 = .ok (.invokevirtual 134, 3) := by decide +kernel
theorem dX5_last_5 : decode cX5_last 5 = .ok (.ifCond .ne 6, 3) := by decide +kernel
theorem dX5_last_8 : decode cX5_last 8 = .ok (.bipush (-5), 2) := by decide +kernel
theorem dX5_last_10 : decode cX5_last 10 = .ok (.ireturn, 1) := by decide +kernel
theorem dX5_last_11 : decode cX5_last 11 = .ok (.iload_n 2, 1) := by decide +kernel
theorem dX5_last_12 : decode cX5_last 12 = .ok (.invokestatic 98, 3) := by decide +kernel
theorem dX5_last_15 : decode cX5_last 15 = .ok (.ifCond .ne 6, 3) := by decide +kernel
theorem dX5_last_18 : decode cX5_last 18 = .ok (.bipush (-6), 2) := by decide +kernel
theorem dX5_last_20 : decode cX5_last 20 = .ok (.ireturn, 1) := by decide +kernel
theorem dX5_last_21 : decode cX5_last 21 = .ok (.iload_n 3, 1) := by decide +kernel
theorem dX5_last_22 : decode cX5_last 22 = .ok (.iconst 3, 1) := by decide +kernel
theorem dX5_last_23 : decode cX5_last 23 = .ok (.invokestatic 106, 3) := by decide +kernel
theorem dX5_last_26 : decode cX5_last 26 = .ok (.ifCond .ne 6, 3) := by decide +kernel
theorem dX5_last_29 : decode cX5_last 29 = .ok (.bipush (-7), 2) := by decide +kernel
theorem dX5_last_31 : decode cX5_last 31 = .ok (.ireturn, 1) := by decide +kernel
theorem dX5_last_32 : decode cX5_last 32 = .ok (.aload_n 0, 1) := by decide +kernel
theorem dX5_last_33 : decode cX5_last 33 = .ok (.getfield 67, 3) := by decide +kernel
theorem dX5_last_36 : decode cX5_last 36 = .ok (.aload_n 0, 1) := by decide +kernel
theorem dX5_last_37 : decode cX5_last 37 = .ok (.getfield 63, 3) := by decide +kernel
theorem dX5_last_40 : decode cX5_last 40 = .ok (.invokevirtual 198, 3) := by decide +kernel
theorem dX5_last_43 : decode cX5_last 43 = .ok (.aload_n 0, 1) := by decide +kernel
theorem dX5_last_44 : decode cX5_last 44 = .ok (.getfield 67, 3) := by decide +kernel
theorem dX5_last_47 : decode cX5_last 47 = .ok (.iload_n 1, 1) := by decide +kernel
theorem dX5_last_48 : decode cX5_last 48 = .ok (.iload_n 2, 1) := by decide +kernel
theorem dX5_last_49 : decode cX5_last 49 = .ok (.iload_n 3, 1) := by decide +kernel
theorem dX5_last_50 : decode cX5_last 50 = .ok (.invokestatic 232, 3) := by decide +kernel
theorem dX5_last_53 : decode cX5_last 53 = .ok (.ireturn, 1) := by decide +kernel
theorem dX5_mostLeft_0 : decode cX5_mostLeft 0 = .ok (.iload_n 3, 1) := by decide +kernel
theorem dX5_mostLeft_1 : decode cX5_mostLeft 1 = .ok (.ifCond .gt 30, 3) := by decide +kernel
theorem dX5_mostLeft_4 : decode cX5_mostLeft 4 = .ok (.aload_n 0, 1) := by decide +kernel
theorem dX5_mostLeft_5 : decode cX5_mostLeft 5 = .ok (.iload_n 1, 1) := by decide +kernel
theorem dX5_mostLeft_6 : decode cX5_mostLeft 6 = .ok (.iload_n 2, 1) := by decide +kernel
theorem dX5_mostLeft_7 : decode cX5_mostLeft 7 = .ok (.invokevirtual 173, 3) := by decide +kernel
theorem dX5_mostLeft_10 : decode cX5_mostLeft 10 = .ok (.ifCond .eq 19, 3) := by decide +kernel
theorem dX5_mostLeft_13 : decode cX5_mostLeft 13 = .ok (.aload_n 0, 1) := by decide +kernel
theorem dX5_mostLeft_14 : decode cX5_mostLeft 14 = .ok (.getfield 147, 3) := by decide +kernel
theorem dX5_mostLeft_17 : decode cX5_mostLeft 17 = .ok (.iload_n 1, 1) := by decide +kernel
theorem dX5_mostLeft_18 : decode cX5_mostLeft 18 = .ok (.iaload, 1) := by decide +kernel
theorem dX5_mostLeft_19 : decode cX5_mostLeft 19 = .ok (.aload_n 0, 1) := by decide +kernel
theorem dX5_mostLeft_20 : decode cX5_mostLeft 20 = .ok (.iload_n 1, 1) := by decide +kernel
theorem dX5_mostLeft_21 : decode cX5_mostLeft 21 = .ok (.iload_n 2, 1) := by decide +kernel
theorem dX5_mostLeft_22 : decode cX5_mostLeft 22 = .ok (.invokevirtual 170, 3) := by decide +kernel
theorem dX5_mostLeft_25 : decode cX5_mostLeft 25 = .ok (.isub, 1) := by decide +kernel
theorem dX5_mostLeft_26 : decode cX5_mostLeft 26 = .ok (.goto 4, 3) := by decide +kernel
theorem dX5_mostLeft_29 : decode cX5_mostLeft 29 = .ok (.iconst (-1), 1) := by decide +kernel
theorem dX5_mostLeft_30 : decode cX5_mostLeft 30 = .ok (.ireturn, 1) := by decide +kernel
theorem dX5_mostLeft_31 : decode cX5_mostLeft 31 = .ok (.iconst (-1), 1) := by decide +kernel
theorem dX5_mostLeft_32 : decode cX5_mostLeft 32 = .ok (.istore 4, 2) := by decide +kernel
theorem dX5_mostLeft_34 : decode cX5_mostLeft 34 = .ok (.iconst 0, 1) := by decide +kernel
theorem dX5_mostLeft_35 : decode cX5_mostLeft 35 = .ok (.istore 5, 2) := by decide +kernel
theorem dX5_mostLeft_37 : decode cX5_mostLeft 37 = .ok (.iload 5, 2) := by decide +kernel
theorem dX5_mostLeft_39 : decode cX5_mostLeft 39 = .ok (.bipush 12, 2) := by decide +kernel
theorem dX5_mostLeft_41 : decode cX5_mostLeft 41 = .ok (.if_icmp .ge 72, 3) := by decide +kernel
theorem dX5_mostLeft_44 : decode cX5_mostLeft 44 = .ok (.iload 5, 2) := by decide +kernel
theorem dX5_mostLeft_46 : decode cX5_mostLeft 46 = .ok (.iload_n 2, 1) := by decide +kernel
theorem dX5_mostLeft_47 : decode cX5_mostLeft 47 = .ok (.if_icmp .eq 60, 3) := by decide +kernel
theorem dX5_mostLeft_50 : decode cX5_mostLeft 50 = .ok (.aload_n 0, 1) := by decide +kernel
theorem dX5_mostLeft_51 : decode cX5_mostLeft 51 = .ok (.iload_n 1, 1) := by decide +kernel
theorem dX5_mostLeft_52 : decode cX5_mostLeft 52 = .ok (.iload 5, 2) := by decide +kernel
theorem dX5_mostLeft_54 : decode cX5_mostLeft 54 = .ok (.invokevirtual 173, 3) := by decide +kernel
theorem dX5_mostLeft_57 : decode cX5_mostLeft 57 = .ok (.ifCond .eq 50, 3) := by decide +kernel
theorem dX5_mostLeft_60 : decode cX5_mostLeft 60 = .ok (.aload_n 0, 1) := by decide +kernel
theorem dX5_mostLeft_61 : decode cX5_mostLeft 61 = .ok (.getfield 147, 3) := by decide +kernel
theorem dX5_mostLeft_64 : decode cX5_mostLeft 64 = .ok (.iload_n 1, 1) := by decide +kernel
theorem dX5_mostLeft_65 : decode cX5_mostLeft 65 = .ok (.iaload, 1) := by decide +kernel
theorem dX5_mostLeft_66 : decode cX5_mostLeft 66 = .ok (.istore 6, 2) := by decide +kernel
theorem dX5_mostLeft_68 : decode cX5_mostLeft 68 = .ok (.aload_n 0, 1) := by decide +kernel
theorem dX5_mostLeft_69 : decode cX5_mostLeft 69 = .ok (.iload_n 1, 1) := by decide +kernel
theorem dX5_mostLeft_70 : decode cX5_mostLeft 70 = .ok (.iload 5, 2) := by decide +kernel
theorem dX5_mostLeft_72 : decode cX5_mostLeft 72 = .ok (.invokevirtual 176, 3) := by decide +kernel
theorem dX5_mostLeft_75 : decode cX5_mostLeft 75 = .ok (.iload 4, 2) := by decide +kernel
theorem dX5_mostLeft_77 : decode cX5_mostLeft 77 = .ok (.aload_n 0, 1) := by decide +kernel
theorem dX5_mostLeft_78 : decode cX5_mostLeft 78 = .ok (.iload_n 1, 1) := by decide +kernel
theorem dX5_mostLeft_79 : decode cX5_mostLeft 79 = .ok (.iload_n 2, 1) := by decide +kernel
theorem dX5_mostLeft_80 : decode cX5_mostLeft 80 = .ok (.iload_n 3, 1) := by decide +kernel
theorem dX5_mostLeft_81 : decode cX5_mostLeft 81 = .ok (.iconst 1, 1) := by decide +kernel
theorem dX5_mostLeft_82 : decode cX5_mostLeft 82 = .ok (.isub, 1) := by decide +kernel
theorem dX5_mostLeft_83 : decode cX5_mostLeft 83 = .ok (.invokestatic 232, 3) := by decide +kernel
theorem dX5_mostLeft_86 : decode cX5_mostLeft 86 = .ok (.invokestatic 236, 3) := by decide +kernel
theorem dX5_mostLeft_89 : decode cX5_mostLeft 89 = .ok (.istore 4, 2) := by decide +kernel
theorem dX5_mostLeft_91 : decode cX5_mostLeft 91 = .ok (.aload_n 0, 1) := by decide +kernel
theorem dX5_mostLeft_92 : decode cX5_mostLeft 92 = .ok (.getfield 147, 3) := by decide +kernel
theorem dX5_mostLeft_95 : decode cX5_mostLeft 95 = .ok (.iload_n 1, 1) := by decide +kernel
theorem dX5_mostLeft_96 : decode cX5_mostLeft 96 = .ok (.iload 6, 2) := by decide +kernel
theorem dX5_mostLeft_98 : decode cX5_mostLeft 98 = .ok (.iastore, 1) := by decide +kernel
theorem dX5_mostLeft_99 : decode cX5_mostLeft 99 = .ok (.aload_n 0, 1) := by decide +kernel
theorem dX5_mostLeft_100 : decode cX5_mostLeft 100 = .ok (.getfield 180, 3) := by decide +kernel
theorem dX5_mostLeft_103 : decode cX5_mostLeft 103 = .ok (.iload 5, 2) := by decide +kernel
theorem dX5_mostLeft_105 : decode cX5_mostLeft 105 = .ok (.iconst 0, 1) := by decide +kernel
theorem dX5_mostLeft_106 : decode cX5_mostLeft 106 = .ok (.iastore, 1) := by decide +kernel
theorem dX5_mostLeft_107 : decode cX5_mostLeft 107 = .ok (.iinc 5 1, 3) := by decide +kernel
theorem dX5_mostLeft_110 : decode cX5_mostLeft 110 = .ok (.goto (-73), 3) := by decide +kernel
theorem dX5_mostLeft_113 : decode cX5_mostLeft 113 = .ok (.iload 4, 2) := by decide +kernel
theorem dX5_mostLeft_115 : decode cX5_mostLeft 115 = .ok (.ireturn, 1) := by decide +kernel
theorem dX5_best_0 : decode cX5_best 0 = .ok (.iload_n 1, 1) := by decide +kernel
theorem dX5_best_1 : decode cX5_best 1 = .ok (.iconst 1, 1) := by decide +kernel
theorem dX5_best_2 : decode cX5_best 2 = .ok (.invokestatic 106, 3) := by decide +kernel
theorem dX5_best_5 : decode cX5_best 5 = .ok (.ifCond .ne 6, 3) := by decide +kernel
theorem dX5_best_8 : decode cX5_best 8 = .ok (.bipush (-2), 2) := by decide +kernel
theorem dX5_best_10 : decode cX5_best 10 = .ok (.ireturn, 1) := by decide +kernel
theorem dX5_best_11 : decode cX5_best 11 = .ok (.iconst (-1), 1) := by decide +kernel
theorem dX5_best_12 : decode cX5_best 12 = .ok (.istore_n 2, 1) := by decide +kernel
theorem dX5_best_13 : decode cX5_best 13 = .ok (.iconst 0, 1) := by decide +kernel
theorem dX5_best_14 : decode cX5_best 14 = .ok (.istore_n 3, 1) := by decide +kernel
theorem dX5_best_15 : decode cX5_best 15 = .ok (.iconst 0, 1) := by decide +kernel
theorem dX5_best_16 : decode cX5_best 16 = .ok (.istore 4, 2) := by decide +kernel
theorem dX5_best_18 : decode cX5_best 18 = .ok (.iload 4, 2) := by decide +kernel
theorem dX5_best_20 : decode cX5_best 20 = .ok (.aload_n 0, 1) := by decide +kernel
theorem dX5_best_21 : decode cX5_best 21 = .ok (.getfield 63, 3) := by decide +kernel
theorem dX5_best_24 : decode cX5_best 24 = .ok (.getfield 73, 3) := by decide +kernel
theorem dX5_best_27 : decode cX5_best 27 = .ok (.if_icmp .ge 35, 3) := by decide +kernel
theorem dX5_best_30 : decode cX5_best 30 = .ok (.aload_n 0, 1) := by decide +kernel
theorem dX5_best_31 : decode cX5_best 31 = .ok (.getfield 63, 3) := by decide +kernel
theorem dX5_best_34 : decode cX5_best 34 = .ok (.iload 4, 2) := by decide +kernel
theorem dX5_best_36 : decode cX5_best 36 = .ok (.invokevirtual 159, 3) := by decide +kernel
theorem dX5_best_39 : decode cX5_best 39 = .ok (.invokestatic 80, 3) := by decide +kernel
theorem dX5_best_42 : decode cX5_best 42 = .ok (.istore 5, 2) := by decide +kernel
theorem dX5_best_44 : decode cX5_best 44 = .ok (.iload 5, 2) := by decide +kernel
theorem dX5_best_46 : decode cX5_best 46 = .ok (.iload_n 3, 1) := by decide +kernel
theorem dX5_best_47 : decode cX5_best 47 = .ok (.if_icmp .le 9, 3) := by decide +kernel
theorem dX5_best_50 : decode cX5_best 50 = .ok (.iload 5, 2) := by decide +kernel
theorem dX5_best_52 : decode cX5_best 52 = .ok (.istore_n 3, 1) := by decide +kernel
theorem dX5_best_53 : decode cX5_best 53 = .ok (.iload 4, 2) := by decide +kernel
theorem dX5_best_55 : decode cX5_best 55 = .ok (.istore_n 2, 1) := by decide +kernel
theorem dX5_best_56 : decode cX5_best 56 = .ok (.iinc 4 1, 3) := by decide +kernel
theorem dX5_best_59 : decode cX5_best 59 = .ok (.goto (-41), 3) := by decide +kernel
theorem dX5_best_62 : decode cX5_best 62 = .ok (.iload_n 1, 1) := by decide +kernel
theorem dX5_best_63 : decode cX5_best 63 = .ok (.ifCond .ne 7, 3) := by decide +kernel
theorem dX5_best_66 : decode cX5_best 66 = .ok (.iload_n 2, 1) := by decide +kernel
theorem dX5_best_67 : decode cX5_best 67 = .ok (.goto 4, 3) := by decide +kernel
theorem dX5_best_70 : decode cX5_best 70 = .ok (.iload_n 3, 1) := by decide +kernel
theorem dX5_best_71 : decode cX5_best 71 = .ok (.ireturn, 1) := by decide +kernel
theorem dX5_isWithin_0 : decode cX5_isWithin 0 = .ok (.iload_n 0, 1) := by decide +kernel
theorem dX5_isWithin_1 : decode cX5_isWithin 1 = .ok (.ifCond .lt 12, 3) := by decide +kernel
theorem dX5_isWithin_4 : decode cX5_isWithin 4 = .ok (.iload_n 0, 1) := by decide +kernel
theorem dX5_isWithin_5 : decode cX5_isWithin 5 = .ok (.iload_n 1, 1) := by decide +kernel
theorem dX5_isWithin_6 : decode cX5_isWithin 6 = .ok (.if_icmp .gt 7, 3) := by decide +kernel
theorem dX5_isWithin_9 : decode cX5_isWithin 9 = .ok (.iconst 1, 1) := by decide +kernel
theorem dX5_isWithin_10 : decode cX5_isWithin 10 = .ok (.goto 4, 3) := by decide +kernel
theorem dX5_isWithin_13 : decode cX5_isWithin 13 = .ok (.iconst 0, 1) := by decide +kernel
theorem dX5_isWithin_14 : decode cX5_isWithin 14 = .ok (.ireturn, 1) := by decide +kernel
theorem dX5_isSort_0 : decode cX5_isSort 0 = .ok (.iload_n 0, 1) := by decide +kernel
theorem dX5_isSort_1 : decode cX5_isSort 1 = .ok (.iconst 5, 1) := by decide +kernel
theorem dX5_isSort_2 : decode cX5_isSort 2 = .ok (.invokestatic 106, 3) := by decide +kernel
theorem dX5_isSort_5 : decode cX5_isSort 5 = .ok (.ireturn, 1) := by decide +kernel
theorem dX5_isCask_0 : decode cX5_isCask 0 = .ok (.iload_n 0, 1) := by decide +kernel
theorem dX5_isCask_1 : decode cX5_isCask 1 = .ok (.bipush 11, 2) := by decide +kernel
theorem dX5_isCask_3 : decode cX5_isCask 3 = .ok (.invokestatic 106, 3) := by decide +kernel
theorem dX5_isCask_6 : decode cX5_isCask 6 = .ok (.ireturn, 1) := by decide +kernel
theorem dX5_isDiver_0 : decode cX5_isDiver 0 = .ok (.iload_n 1, 1) := by decide +kernel
theorem dX5_isDiver_1 : decode cX5_isDiver 1 = .ok (.aload_n 0, 1) := by decide +kernel
theorem dX5_isDiver_2 : decode cX5_isDiver 2 = .ok (.getfield 63, 3) := by decide +kernel
theorem dX5_isDiver_5 : decode cX5_isDiver 5 = .ok (.getfield 73, 3) := by decide +kernel
theorem dX5_isDiver_8 : decode cX5_isDiver 8 = .ok (.iconst 1, 1) := by decide +kernel
theorem dX5_isDiver_9 : decode cX5_isDiver 9 = .ok (.isub, 1) := by decide +kernel
theorem dX5_isDiver_10 : decode cX5_isDiver 10 = .ok (.invokestatic 106, 3) := by decide +kernel
theorem dX5_isDiver_13 : decode cX5_isDiver 13 = .ok (.ireturn, 1) := by decide +kernel
