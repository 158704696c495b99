theorem dX7_init_0 : decode cX7_init 0 = .ok (.aload_n 0, 1) := by decide +kernel
theorem dX7_init_1 : decode cX7_init 1 = .ok (.invokespecial 1, 3) := by decide +kernel
theorem dX7_init_4 : decode cX7_init 4 = .ok (.aload_n 0, 1) := by decide +kernel
theorem dX7_init_5 : decode cX7_init 5 = .ok (.sipush 441, 3) := by decide +kernel
theorem dX7_init_8 : decode cX7_init 8 = .ok (.newarray .int, 2) := by decide +kernel
theorem dX7_init_10 : decode cX7_init 10 = .ok (.putfield 7, 3) := by decide +kernel
theorem dX7_init_13 : decode cX7_init 13 = .ok (.aload_n 0, 1) := by decide +kernel
theorem dX7_init_14 : decode cX7_init 14 = .ok (.sipush 441, 3) := by decide +kernel
theorem dX7_init_17 : decode cX7_init 17 = .ok (.newarray .int, 2) := by decide +kernel
theorem dX7_init_19 : decode cX7_init 19 = .ok (.putfield 13, 3) := by decide +kernel
theorem dX7_init_22 : decode cX7_init 22 = .ok (.aload_n 0, 1) := by decide +kernel
theorem dX7_init_23 : decode cX7_init 23 = .ok (.sipush 2646, 3) := by decide +kernel
theorem dX7_init_26 : decode cX7_init 26 = .ok (.newarray .int, 2) := by decide +kernel
theorem dX7_init_28 : decode cX7_init 28 = .ok (.putfield 16, 3) := by decide +kernel
theorem dX7_init_31 : decode cX7_init 31 = .ok (.aload_n 0, 1) := by decide +kernel
theorem dX7_init_32 : decode cX7_init 32 = .ok (.sipush 441, 3) := by decide +kernel
theorem dX7_init_35 : decode cX7_init 35 = .ok (.newarray .int, 2) := by decide +kernel
theorem dX7_init_37 : decode cX7_init 37 = .ok (.putfield 19, 3) := by decide +kernel
theorem dX7_init_40 : decode cX7_init 40 = .ok (.aload_n 0, 1) := by decide +kernel
theorem dX7_init_41 : decode cX7_init 41 = .ok (.bipush 60, 2) := by decide +kernel
theorem dX7_init_43 : decode cX7_init 43 = .ok (.newarray .int, 2) := by decide +kernel
theorem dX7_init_45 : decode cX7_init 45 = .ok (.putfield 22, 3) := by decide +kernel
theorem dX7_init_48 : decode cX7_init 48 = .ok (.aload_n 0, 1) := by decide +kernel
theorem dX7_init_49 : decode cX7_init 49 = .ok (.bipush 64, 2) := by decide +kernel
theorem dX7_init_51 : decode cX7_init 51 = .ok (.newarray .int, 2) := by decide +kernel
theorem dX7_init_53 : decode cX7_init 53 = .ok (.putfield 25, 3) := by decide +kernel
theorem dX7_init_56 : decode cX7_init 56 = .ok (.aload_n 0, 1) := by decide +kernel
theorem dX7_init_57 : decode cX7_init 57 = .ok (.bipush 64, 2) := by decide +kernel
theorem dX7_init_59 : decode cX7_init 59 = .ok (.newarray .int, 2) := by decide +kernel
theorem dX7_init_61 : decode cX7_init 61 = .ok (.putfield 28, 3) := by decide +kernel
theorem dX7_init_64 : decode cX7_init 64 = .ok (.aload_n 0, 1) := by decide +kernel
theorem dX7_init_65 : decode cX7_init 65 = .ok (.bipush 64, 2) := by decide +kernel
theorem dX7_init_67 : decode cX7_init 67 = .ok (.newarray .boolean, 2) := by decide +kernel
theorem dX7_init_69 : decode cX7_init 69 = .ok (.putfield 31, 3) := by decide +kernel
theorem dX7_init_72 : decode cX7_init 72 = .ok (.iconst 0, 1) := by decide +kernel
theorem dX7_init_73 : decode cX7_init 73 = .ok (.istore_n 1, 1) := by decide +kernel
theorem dX7_init_74 : decode cX7_init 74 = .ok (.iload_n 1, 1) := by decide +kernel
theorem dX7_init_75 : decode cX7_init 75 = .ok (.bipush 64, 2) := by decide +kernel
theorem dX7_init_77 : decode cX7_init 77 = .ok (.if_icmp .ge 28, 3) := by decide +kernel
theorem dX7_init_80 : decode cX7_init 80 = .ok (.aload_n 0, 1) := by decide +kernel
theorem dX7_init_81 : decode cX7_init 81 = .ok (.getfield 7, 3) := by decide +kernel
theorem dX7_init_84 : decode cX7_init 84 = .ok (.iconst 0, 1) := by decide +kernel
theorem dX7_init_85 : decode cX7_init 85 = .ok (.iload_n 1, 1) := by decide +kernel
theorem dX7_init_86 : decode cX7_init 86 = .ok (.iadd, 1) := by decide +kernel
theorem dX7_init_87 : decode cX7_init 87 = .ok (.iconst 1, 1) := by decide +kernel
theorem dX7_init_88 : decode cX7_init 88 = .ok (.iastore, 1) := by decide +kernel
theorem dX7_init_89 : decode cX7_init 89 = .ok (.aload_n 0, 1) := by decide +kernel
theorem dX7_init_90 : decode cX7_init 90 = .ok (.getfield 7, 3) := by decide +kernel
theorem dX7_init_93 : decode cX7_init 93 = .ok (.bipush 64, 2) := by decide +kernel
theorem dX7_init_95 : decode cX7_init 95 = .ok (.iload_n 1, 1) := by decide +kernel
theorem dX7_init_96 : decode cX7_init 96 = .ok (.iadd, 1) := by decide +kernel
theorem dX7_init_97 : decode cX7_init 97 = .ok (.iconst (-1), 1) := by decide +kernel
theorem dX7_init_98 : decode cX7_init 98 = .ok (.iastore, 1) := by decide +kernel
theorem dX7_init_99 : decode cX7_init 99 = .ok (.iinc 1 1, 3) := by decide +kernel
theorem dX7_init_102 : decode cX7_init 102 = .ok (.goto (-28), 3) := by decide +kernel
theorem dX7_init_105 : decode cX7_init 105 = .ok (.iconst 0, 1) := by decide +kernel
theorem dX7_init_106 : decode cX7_init 106 = .ok (.istore_n 1, 1) := by decide +kernel
theorem dX7_init_107 : decode cX7_init 107 = .ok (.iload_n 1, 1) := by decide +kernel
theorem dX7_init_108 : decode cX7_init 108 = .ok (.iconst 3, 1) := by decide +kernel
theorem dX7_init_109 : decode cX7_init 109 = .ok (.if_icmp .ge 63, 3) := by decide +kernel
theorem dX7_init_112 : decode cX7_init 112 = .ok (.aload_n 0, 1) := by decide +kernel
theorem dX7_init_113 : decode cX7_init 113 = .ok (.getfield 7, 3) := by decide +kernel
theorem dX7_init_116 : decode cX7_init 116 = .ok (.iload_n 1, 1) := by decide +kernel
theorem dX7_init_117 : decode cX7_init 117 = .ok (.iconst 0, 1) := by decide +kernel
theorem dX7_init_118 : decode cX7_init 118 = .ok (.invokestatic 35, 3) := by decide +kernel
theorem dX7_init_121 : decode cX7_init 121 = .ok (.iload_n 1, 1) := by decide +kernel
theorem dX7_init_122 : decode cX7_init 122 = .ok (.iconst 1, 1) := by decide +kernel
theorem dX7_init_123 : decode cX7_init 123 = .ok (.if_icmp .ne 8, 3) := by decide +kernel
theorem dX7_init_126 : decode cX7_init 126 = .ok (.bipush 8, 2) := by decide +kernel
theorem dX7_init_128 : decode cX7_init 128 = .ok (.goto 4, 3) := by decide +kernel
theorem dX7_init_131 : decode cX7_init 131 = .ok (.iconst 0, 1) := by decide +kernel
theorem dX7_init_132 : decode cX7_init 132 = .ok (.iastore, 1) := by decide +kernel
theorem dX7_init_133 : decode cX7_init 133 = .ok (.aload_n 0, 1) := by decide +kernel
theorem dX7_init_134 : decode cX7_init 134 = .ok (.getfield 7, 3) := by decide +kernel
theorem dX7_init_137 : decode cX7_init 137 = .ok (.iload_n 1, 1) := by decide +kernel
theorem dX7_init_138 : decode cX7_init 138 = .ok (.iconst 1, 1) := by decide +kernel
theorem dX7_init_139 : decode cX7_init 139 = .ok (.invokestatic 35, 3) := by decide +kernel
theorem dX7_init_142 : decode cX7_init 142 = .ok (.iload_n 1, 1) := by decide +kernel
theorem dX7_init_143 : decode cX7_init 143 = .ok (.iconst 2, 1) := by decide +kernel
theorem dX7_init_144 : decode cX7_init 144 = .ok (.if_icmp .ne 8, 3) := by decide +kernel
theorem dX7_init_147 : decode cX7_init 147 = .ok (.bipush 8, 2) := by decide +kernel
theorem dX7_init_149 : decode cX7_init 149 = .ok (.goto 4, 3) := by decide +kernel
theorem dX7_init_152 : decode cX7_init 152 = .ok (.iconst 0, 1) := by decide +kernel
theorem dX7_init_153 : decode cX7_init 153 = .ok (.iastore, 1) := by decide +kernel
theorem dX7_init_154 : decode cX7_init 154 = .ok (.aload_n 0, 1) := by decide +kernel
theorem dX7_init_155 : decode cX7_init 155 = .ok (.getfield 7, 3) := by decide +kernel
theorem dX7_init_158 : decode cX7_init 158 = .ok (.iload_n 1, 1) := by decide +kernel
theorem dX7_init_159 : decode cX7_init 159 = .ok (.iconst 2, 1) := by decide +kernel
theorem dX7_init_160 : decode cX7_init 160 = .ok (.invokestatic 35, 3) := by decide +kernel
theorem dX7_init_163 : decode cX7_init 163 = .ok (.bipush 20, 2) := by decide +kernel
theorem dX7_init_165 : decode cX7_init 165 = .ok (.iastore, 1) := by decide +kernel
theorem dX7_init_166 : decode cX7_init 166 = .ok (.iinc 1 1, 3) := by decide +kernel
theorem dX7_init_169 : decode cX7_init 169 = .ok (.goto (-62), 3) := by decide +kernel
theorem dX7_init_172 : decode cX7_init 172 = .ok (.aload_n 0, 1) := by decide +kernel
theorem dX7_init_173 : decode cX7_init 173 = .ok (.getfield 7, 3) := by decide +kernel
theorem dX7_init_176 : decode cX7_init 176 = .ok (.sipush 434, 3) := by decide +kernel
theorem dX7_init_179 : decode cX7_init 179 = .ok (.iconst 2, 1) := by decide +kernel
theorem dX7_init_180 : decode cX7_init 180 = .ok (.iastore, 1) := by decide +kernel
theorem dX7_init_181 : decode cX7_init 181 = .ok (.aload_n 0, 1) := by decide +kernel
theorem dX7_init_182 : decode cX7_init 182 = .ok (.getfield 7, 3) := by decide +kernel
theorem dX7_init_185 : decode cX7_init 185 = .ok (.sipush 435, 3) := by decide +kernel
theorem dX7_init_188 : decode cX7_init 188 = .ok (.iconst 3, 1) := by decide +kernel
theorem dX7_init_189 : decode cX7_init 189 = .ok (.iastore, 1) := by decide +kernel
theorem dX7_init_190 : decode cX7_init 190 = .ok (.aload_n 0, 1) := by decide +kernel
theorem dX7_init_191 : decode cX7_init 191 = .ok (.getfield 7, 3) := by decide +kernel
theorem dX7_init_194 : decode cX7_init 194 = .ok (.sipush 436, 3) := by decide +kernel
theorem dX7_init_197 : decode cX7_init 197 = .ok (.iconst 2, 1) := by decide +kernel
theorem dX7_init_198 : decode cX7_init 198 = .ok (.iastore, 1) := by decide +kernel
theorem dX7_init_199 : decode cX7_init 199 = .ok (.aload_n 0, 1) := by decide +kernel
theorem dX7_init_200 : decode cX7_init 200 = .ok (.getfield 7, 3) := by decide +kernel
theorem dX7_init_203 : decode cX7_init 203 = .ok (.sipush 440, 3) := by decide +kernel
theorem dX7_init_206 : decode cX7_init 206 = .ok (.bipush 60, 2) := by decide +kernel
theorem dX7_init_208 : decode cX7_init 208 = .ok (.iastore, 1) := by decide +kernel
theorem dX7_init_209 : decode cX7_init 209 = .ok (.return_, 1) := by decide +kernel
theorem dX7_thrown_0 : decode cX7_thrown 0 = .ok (.aload_n 0, 1) := by decide +kernel
theorem dX7_thrown_1 : decode cX7_thrown 1 = .ok (.getfield 39, 3) := by decide +kernel
theorem dX7_thrown_4 : decode cX7_thrown 4 = .ok (.ireturn, 1) := by decide +kernel
theorem dX7_refused_0 : decode cX7_refused 0 = .ok (.aload_n 0, 1) := by decide +kernel
theorem dX7_refused_1 : decode cX7_refused 1 = .ok (.iload_n 1, 1) := by decide +kernel
theorem dX7_refused_2 : decode cX7_refused 2 = .ok (.putfield 39, 3) := by decide +kernel
theorem dX7_refused_5 : decode cX7_refused 5 = .ok (.iload_n 1, 1) := by decide +kernel
theorem dX7_refused_6 : decode cX7_refused 6 = .ok (.ifCond .le 7, 3) := by decide +kernel
theorem dX7_refused_9 : decode cX7_refused 9 = .ok (.iconst 1, 1) := by decide +kernel
theorem dX7_refused_10 : decode cX7_refused 10 = .ok (.goto 4, 3) := by decide +kernel
theorem dX7_refused_13 : decode cX7_refused 13 = .ok (.iconst 0, 1) := by decide +kernel
theorem dX7_refused_14 : decode cX7_refused 14 = .ok (.ireturn, 1) := by decide +kernel
theorem dX7_in_0 : decode cX7_in 0 = .ok (.iload_n 0, 1) := by decide +kernel
theorem dX7_in_1 : decode cX7_in 1 = .ok (.iload_n 1, 1) := by decide +kernel
theorem dX7_in_2 : decode cX7_in 2 = .ok (.if_icmp .lt 12, 3) := by decide +kernel
theorem dX7_in_5 : decode cX7_in 5 = .ok (.iload_n 0, 1) := by decide +kernel
theorem dX7_in_6 : decode cX7_in 6 = .ok (.iload_n 2, 1) := by decide +kernel
theorem dX7_in_7 : decode cX7_in 7 = .ok (.if_icmp .gt 7, 3) := by decide +kernel
theorem dX7_in_10 : decode cX7_in 10 = .ok (.iconst 1, 1) := by decide +kernel
theorem dX7_in_11 : decode cX7_in 11 = .ok (.goto 4, 3) := by decide +kernel
theorem dX7_in_14 : decode cX7_in 14 = .ok (.iconst 0, 1) := by decide +kernel
theorem dX7_in_15 : decode cX7_in 15 = .ok (.ireturn, 1) := by decide +kernel
theorem dX7_of_0 : decode cX7_of 0 = .ok (.sipush 416, 3) := by decide +kernel
theorem dX7_of_3 : decode cX7_of 3 = .ok (.bipush 6, 2) := by decide +kernel
theorem dX7_of_5 : decode cX7_of 5 = .ok (.iload_n 0, 1) := by decide +kernel
theorem dX7_of_6 : decode cX7_of 6 = .ok (.imul, 1) := by decide +kernel
theorem dX7_of_7 : decode cX7_of 7 = .ok (.iadd, 1) := by decide +kernel
theorem dX7_of_8 : decode cX7_of 8 = .ok (.iload_n 1, 1) := by decide +kernel
theorem dX7_of_9 : decode cX7_of 9 = .ok (.iadd, 1) := by decide +kernel
theorem dX7_of_10 : decode cX7_of 10 = .ok (.ireturn, 1) := by decide +kernel
theorem dX7_isSkater_0 : decode cX7_isSkater 0 = .ok (.iload_n 0, 1) := by decide +kernel
theorem dX7_isSkater_1 : decode cX7_isSkater 1 = .ok (.iconst 0, 1) := by decide +kernel
theorem dX7_isSkater_2 : decode cX7_isSkater 2 = .ok (.iconst 2, 1) := by decide +kernel
theorem dX7_isSkater_3 : decode cX7_isSkater 3 = .ok (.invokestatic 43, 3) := by decide +kernel
theorem dX7_isSkater_6 : decode cX7_isSkater 6 = .ok (.ireturn, 1) := by decide +kernel
theorem dX7_isCell_0 : decode cX7_isCell 0 = .ok (.iload_n 0, 1) := by decide +kernel
theorem dX7_isCell_1 : decode cX7_isCell 1 = .ok (.iconst 0, 1) := by decide +kernel
theorem dX7_isCell_2 : decode cX7_isCell 2 = .ok (.bipush 7, 2) := by decide +kernel
theorem dX7_isCell_4 : decode cX7_isCell 4 = .ok (.invokestatic 43, 3) := by decide +kernel
theorem dX7_isCell_7 : decode cX7_isCell 7 = .ok (.ifCond .eq 17, 3) := by decide +kernel
theorem dX7_isCell_10 : decode cX7_isCell 10 = .ok (.iload_n 1, 1) := by decide +kernel
theorem dX7_isCell_11 : decode cX7_isCell 11 = .ok (.iconst 0, 1) := by decide +kernel
theorem dX7_isCell_12 : decode cX7_isCell 12 = .ok (.bipush 7, 2) := by decide +kernel
theorem dX7_isCell_14 : decode cX7_isCell 14 = .ok (.invokestatic 43, 3) := by decide +kernel
theorem dX7_isCell_17 : decode cX7_isCell 17 = .ok (.ifCond .eq 7, 3) := by decide +kernel
theorem dX7_isCell_20 : decode cX7_isCell 20 = .ok (.iconst 1, 1) := by decide +kernel
theorem dX7_isCell_21 : decode cX7_isCell 21 = .ok (.goto 4, 3) := by decide +kernel
theorem dX7_isCell_24 : decode cX7_isCell 24 = .ok (.iconst 0, 1) := by decide +kernel
theorem dX7_isCell_25 : decode cX7_isCell 25 = .ok (.ireturn, 1) := by decide +kernel
theorem dX7_saves_0 : decode cX7_saves 0 = .ok (.aload_n 0, 1) := by decide +kernel
theorem dX7_saves_1 : decode cX7_saves 1 = .ok (.getfield 47, 3) := by decide +kernel
theorem dX7_saves_4 : decode cX7_saves 4 = .ok (.bipush 6, 2) := by decide +kernel
theorem dX7_saves_6 : decode cX7_saves 6 = .ok (.if_icmp .ne 44, 3) := by decide +kernel
theorem dX7_saves_9 : decode cX7_saves 9 = .ok (.iconst 0, 1) := by decide +kernel
theorem dX7_saves_10 : decode cX7_saves 10 = .ok (.istore_n 1, 1) := by decide +kernel
theorem dX7_saves_11 : decode cX7_saves 11 = .ok (.iload_n 1, 1) := by decide +kernel
theorem dX7_saves_12 : decode cX7_saves 12 = .ok (.sipush 2205, 3) := by decide +kernel
theorem dX7_saves_15 : decode cX7_saves 15 = .ok (.if_icmp .ge 25, 3) := by decide +kernel
theorem dX7_saves_18 : decode cX7_saves 18 = .ok (.aload_n 0, 1) := by decide +kernel
theorem dX7_saves_19 : decode cX7_saves 19 = .ok (.getfield 16, 3) := by decide +kernel
theorem dX7_saves_22 : decode cX7_saves 22 = .ok (.iload_n 1, 1) := by decide +kernel
theorem dX7_saves_23 : decode cX7_saves 23 = .ok (.aload_n 0, 1) := by decide +kernel
theorem dX7_saves_24 : decode cX7_saves 24 = .ok (.getfield 16, 3) := by decide +kernel
theorem dX7_saves_27 : decode cX7_saves 27 = .ok (.sipush 441, 3) := by decide +kernel
theorem dX7_saves_30 : decode cX7_saves 30 = .ok (.iload_n 1, 1) := by decide +kernel
theorem dX7_saves_31 : decode cX7_saves 31 = .ok (.iadd, 1) := by decide +kernel
theorem dX7_saves_32 : decode cX7_saves 32 = .ok (.iaload, 1) := by decide +kernel
theorem dX7_saves_33 : decode cX7_saves 33 = .ok (.iastore, 1) := by decide +kernel
theorem dX7_saves_34 : decode cX7_saves 34 = .ok (.iinc 1 1, 3) := by decide +kernel
theorem dX7_saves_37 : decode cX7_saves 37 = .ok (.goto (-26), 3) := by decide +kernel
theorem dX7_saves_40 : decode cX7_saves 40 = .ok (.aload_n 0, 1) := by decide +kernel
theorem dX7_saves_41 : decode cX7_saves 41 = .ok (.dup, 1) := by decide +kernel
theorem dX7_saves_42 : decode cX7_saves 42 = .ok (.getfield 47, 3) := by decide +kernel
theorem dX7_saves_45 : decode cX7_saves 45 = .ok (.iconst 1, 1) := by decide +kernel
theorem dX7_saves_46 : decode cX7_saves 46 = .ok (.isub, 1) := by decide +kernel
theorem dX7_saves_47 : decode cX7_saves 47 = .ok (.putfield 47, 3) := by decide +kernel
theorem dX7_saves_50 : decode cX7_saves 50 = .ok (.iconst 0, 1) := by decide +kernel
theorem dX7_saves_51 : decode cX7_saves 51 = .ok (.istore_n 1, 1) := by decide +kernel
theorem dX7_saves_52 : decode cX7_saves 52 = .ok (.iload_n 1, 1) := by decide +kernel
theorem dX7_saves_53 : decode cX7_saves 53 = .ok (.sipush 441, 3) := by decide +kernel
theorem dX7_saves_56 : decode cX7_saves 56 = .ok (.if_icmp .ge 30, 3) := by decide +kernel
theorem dX7_saves_59 : decode cX7_saves 59 = .ok (.aload_n 0, 1) := by decide +kernel
theorem dX7_saves_60 : decode cX7_saves 60 = .ok (.getfield 16, 3) := by decide +kernel
theorem dX7_saves_63 : decode cX7_saves 63 = .ok (.sipush 441, 3) := by decide +kernel
theorem dX7_saves_66 : decode cX7_saves 66 = .ok (.aload_n 0, 1) := by decide +kernel
theorem dX7_saves_67 : decode cX7_saves 67 = .ok (.getfield 47, 3) := by decide +kernel
theorem dX7_saves_70 : decode cX7_saves 70 = .ok (.imul, 1) := by decide +kernel
theorem dX7_saves_71 : decode cX7_saves 71 = .ok (.iload_n 1, 1) := by decide +kernel
theorem dX7_saves_72 : decode cX7_saves 72 = .ok (.iadd, 1) := by decide +kernel
theorem dX7_saves_73 : decode cX7_saves 73 = .ok (.aload_n 0, 1) := by decide +kernel
theorem dX7_saves_74 : decode cX7_saves 74 = .ok (.getfield 7, 3) := by decide +kernel
theorem dX7_saves_77 : decode cX7_saves 77 = .ok (.iload_n 1, 1) := by decide +kernel
theorem dX7_saves_78 : decode cX7_saves 78 = .ok (.iaload, 1) := by decide +kernel
theorem dX7_saves_79 : decode cX7_saves 79 = .ok (.iastore, 1) := by decide +kernel
theorem dX7_saves_80 : decode cX7_saves 80 = .ok (.iinc 1 1, 3) := by decide +kernel
theorem dX7_saves_83 : decode cX7_saves 83 = .ok (.goto (-31), 3) := by decide +kernel
theorem dX7_saves_86 : decode cX7_saves 86 = .ok (.aload_n 0, 1) := by decide +kernel
theorem dX7_saves_87 : decode cX7_saves 87 = .ok (.dup, 1) := by decide +kernel
theorem dX7_saves_88 : decode cX7_saves 88 = .ok (.getfield 47, 3) := by decide +kernel
theorem dX7_saves_91 : decode cX7_saves 91 = .ok (.iconst 1, 1) := by decide +kernel
theorem dX7_saves_92 : decode cX7_saves 92 = .ok (.iadd, 1) := by decide +kernel
theorem dX7_saves_93 : decode cX7_saves 93 = .ok (.putfield 47, 3) := by decide +kernel
theorem dX7_saves_96 : decode cX7_saves 96 = .ok (.return_, 1) := by decide +kernel
theorem dX7_putAside_0 : decode cX7_putAside 0 = .ok (.iconst 0, 1) := by decide +kernel
theorem dX7_putAside_1 : decode cX7_putAside 1 = .ok (.istore_n 1, 1) := by decide +kernel
theorem dX7_putAside_2 : decode cX7_putAside 2 = .ok (.iload_n 1, 1) := by decide +kernel
theorem dX7_putAside_3 : decode cX7_putAside 3 = .ok (.sipush 441, 3) := by decide +kernel
theorem dX7_putAside_6 : decode cX7_putAside 6 = .ok (.if_icmp .ge 21, 3) := by decide +kernel
theorem dX7_putAside_9 : decode cX7_putAside 9 = .ok (.aload_n 0, 1) := by decide +kernel
theorem dX7_putAside_10 : decode cX7_putAside 10 = .ok (.getfield 13, 3) := by decide +kernel
theorem dX7_putAside_13 : decode cX7_putAside 13 = .ok (.iload_n 1, 1) := by decide +kernel
theorem dX7_putAside_14 : decode cX7_putAside 14 = .ok (.aload_n 0, 1) := by decide +kernel
theorem dX7_putAside_15 : decode cX7_putAside 15 = .ok (.getfield 7, 3) := by decide +kernel
theorem dX7_putAside_18 : decode cX7_putAside 18 = .ok (.iload_n 1, 1) := by decide +kernel
theorem dX7_putAside_19 : decode cX7_putAside 19 = .ok (.iaload, 1) := by decide +kernel
theorem dX7_putAside_20 : decode cX7_putAside 20 = .ok (.iastore, 1) := by decide +kernel
theorem dX7_putAside_21 : decode cX7_putAside 21 = .ok (.iinc 1 1, 3) := by decide +kernel
theorem dX7_putAside_24 : decode cX7_putAside 24 = .ok (.goto (-22), 3) := by decide +kernel
theorem dX7_putAside_27 : decode cX7_putAside 27 = .ok (.return_, 1) := by decide +kernel
theorem dX7_putBack_0 : decode cX7_putBack 0 = .ok (.iconst 0, 1) := by decide +kernel
theorem dX7_putBack_1 : decode cX7_putBack 1 = .ok (.istore_n 1, 1) := by decide +kernel
theorem dX7_putBack_2 : decode cX7_putBack 2 = .ok (.iload_n 1, 1) := by decide +kernel
theorem dX7_putBack_3 : decode cX7_putBack 3 = .ok (.sipush 441, 3) := by decide +kernel
theorem dX7_putBack_6 : decode cX7_putBack 6 = .ok (.if_icmp .ge 21, 3) := by decide +kernel
theorem dX7_putBack_9 : decode cX7_putBack 9 = .ok (.aload_n 0, 1) := by decide +kernel
theorem dX7_putBack_10 : decode cX7_putBack 10 = .ok (.getfield 7, 3) := by decide +kernel
theorem dX7_putBack_13 : decode cX7_putBack 13 = .ok (.iload_n 1, 1) := by decide +kernel
theorem dX7_putBack_14 : decode cX7_putBack 14 = .ok (.aload_n 0, 1) := by decide +kernel
theorem dX7_putBack_15 : decode cX7_putBack 15 = .ok (.getfield 13, 3) := by decide +kernel
theorem dX7_putBack_18 : decode cX7_putBack 18 = .ok (.iload_n 1, 1) := by decide +kernel
theorem dX7_putBack_19 : decode cX7_putBack 19 = .ok (.iaload, 1) := by decide +kernel
theorem dX7_putBack_20 : decode cX7_putBack 20 = .ok (.iastore, 1) := by decide +kernel
theorem dX7_putBack_21 : decode cX7_putBack 21 = .ok (.iinc 1 1, 3) := by decide +kernel
theorem dX7_putBack_24 : decode cX7_putBack 24 = .ok (.goto (-22), 3) := by decide +kernel
theorem dX7_putBack_27 : decode cX7_putBack 27 = .ok (.return_, 1) := by decide +kernel
theorem dX7_cellAt_0 : decode cX7_cellAt 0 = .ok (.iload_n 0, 1) := by decide +kernel
theorem dX7_cellAt_1 : decode cX7_cellAt 1 = .ok (.iload_n 1, 1) := by decide +kernel
theorem dX7_cellAt_2 : decode cX7_cellAt 2 = .ok (.invokestatic 50, 3) := by decide +kernel
theorem dX7_cellAt_5 : decode cX7_cellAt 5 = .ok (.ifCond .eq 12, 3) := by decide +kernel
theorem dX7_cellAt_8 : decode cX7_cellAt 8 = .ok (.bipush 8, 2) := by decide +kernel
theorem dX7_cellAt_10 : decode cX7_cellAt 10 = .ok (.iload_n 1, 1) := by decide +kernel
theorem dX7_cellAt_11 : decode cX7_cellAt 11 = .ok (.imul, 1) := by decide +kernel
theorem dX7_cellAt_12 : decode cX7_cellAt 12 = .ok (.iload_n 0, 1) := by decide +kernel
theorem dX7_cellAt_13 : decode cX7_cellAt 13 = .ok (.iadd, 1) := by decide +kernel
theorem dX7_cellAt_14 : decode cX7_cellAt 14 = .ok (.goto 4, 3) := by decide +kernel
theorem dX7_cellAt_17 : decode cX7_cellAt 17 = .ok (.iconst (-1), 1) := by decide +kernel
theorem dX7_cellAt_18 : decode cX7_cellAt 18 = .ok (.ireturn, 1) := by decide +kernel
theorem dX7_beside_0 : decode cX7_beside 0 = .ok (.iload_n 0, 1) := by decide +kernel
theorem dX7_beside_1 : decode cX7_beside 1 = .ok (.bipush 72, 2) := by decide +kernel
theorem dX7_beside_3 : decode cX7_beside 3 = .ok (.if_icmp .ge 25, 3) := by decide +kernel
theorem dX7_beside_6 : decode cX7_beside 6 = .ok (.iload_n 0, 1) := by decide +kernel
theorem dX7_beside_7 : decode cX7_beside 7 = .ok (.bipush 8, 2) := by decide +kernel
theorem dX7_beside_9 : decode cX7_beside 9 = .ok (.irem, 1) := by decide +kernel
theorem dX7_beside_10 : decode cX7_beside 10 = .ok (.iload_n 0, 1) := by decide +kernel
theorem dX7_beside_11 : decode cX7_beside 11 = .ok (.bipush 8, 2) := by decide +kernel
theorem dX7_beside_13 : decode cX7_beside 13 = .ok (.idiv, 1) := by decide +kernel
theorem dX7_beside_14 : decode cX7_beside 14 = .ok (.iload_n 1, 1) := by decide +kernel
theorem dX7_beside_15 : decode cX7_beside 15 = .ok (.ifCond .eq 7, 3) := by decide +kernel
theorem dX7_beside_18 : decode cX7_beside 18 = .ok (.iconst 1, 1) := by decide +kernel
theorem dX7_beside_19 : decode cX7_beside 19 = .ok (.goto 4, 3) := by decide +kernel
theorem dX7_beside_22 : decode cX7_beside 22 = .ok (.iconst 0, 1) := by decide +kernel
theorem dX7_beside_23 : decode cX7_beside 23 = .ok (.isub, 1) := by decide +kernel
theorem dX7_beside_24 : decode cX7_beside 24 = .ok (.invokestatic 54, 3) := by decide +kernel
theorem dX7_beside_27 : decode cX7_beside 27 = .ok (.ireturn, 1) := by decide +kernel
theorem dX7_beside_28 : decode cX7_beside 28 = .ok (.iload_n 0, 1) := by decide +kernel
theorem dX7_beside_29 : decode cX7_beside 29 = .ok (.bipush 72, 2) := by decide +kernel
theorem dX7_beside_31 : decode cX7_beside 31 = .ok (.isub, 1) := by decide +kernel
theorem dX7_beside_32 : decode cX7_beside 32 = .ok (.bipush 9, 2) := by decide +kernel
theorem dX7_beside_34 : decode cX7_beside 34 = .ok (.irem, 1) := by decide +kernel
theorem dX7_beside_35 : decode cX7_beside 35 = .ok (.iload_n 1, 1) := by decide +kernel
theorem dX7_beside_36 : decode cX7_beside 36 = .ok (.ifCond .eq 7, 3) := by decide +kernel
theorem dX7_beside_39 : decode cX7_beside 39 = .ok (.iconst 1, 1) := by decide +kernel
theorem dX7_beside_40 : decode cX7_beside 40 = .ok (.goto 4, 3) := by decide +kernel
theorem dX7_beside_43 : decode cX7_beside 43 = .ok (.iconst 0, 1) := by decide +kernel
theorem dX7_beside_44 : decode cX7_beside 44 = .ok (.isub, 1) := by decide +kernel
theorem dX7_beside_45 : decode cX7_beside 45 = .ok (.iload_n 0, 1) := by decide +kernel
theorem dX7_beside_46 : decode cX7_beside 46 = .ok (.bipush 72, 2) := by decide +kernel
theorem dX7_beside_48 : decode cX7_beside 48 = .ok (.isub, 1) := by decide +kernel
theorem dX7_beside_49 : decode cX7_beside 49 = .ok (.bipush 9, 2) := by decide +kernel
theorem dX7_beside_51 : decode cX7_beside 51 = .ok (.idiv, 1) := by decide +kernel
theorem dX7_beside_52 : decode cX7_beside 52 = .ok (.invokestatic 54, 3) := by decide +kernel
theorem dX7_beside_55 : decode cX7_beside 55 = .ok (.ireturn, 1) := by decide +kernel
theorem dX7_isIce_0 : decode cX7_isIce 0 = .ok (.iload_n 1, 1) := by decide +kernel
theorem dX7_isIce_1 : decode cX7_isIce 1 = .ok (.ifCond .lt 19, 3) := by decide +kernel
theorem dX7_isIce_4 : decode cX7_isIce 4 = .ok (.aload_n 0, 1) := by decide +kernel
theorem dX7_isIce_5 : decode cX7_isIce 5 = .ok (.getfield 7, 3) := by decide +kernel
theorem dX7_isIce_8 : decode cX7_isIce 8 = .ok (.iconst 0, 1) := by decide +kernel
theorem dX7_isIce_9 : decode cX7_isIce 9 = .ok (.iload_n 1, 1) := by decide +kernel
theorem dX7_isIce_10 : decode cX7_isIce 10 = .ok (.iadd, 1) := by decide +kernel
theorem dX7_isIce_11 : decode cX7_isIce 11 = .ok (.iaload, 1) := by decide +kernel
theorem dX7_isIce_12 : decode cX7_isIce 12 = .ok (.iconst 1, 1) := by decide +kernel
theorem dX7_isIce_13 : decode cX7_isIce 13 = .ok (.if_icmp .ne 7, 3) := by decide +kernel
theorem dX7_isIce_16 : decode cX7_isIce 16 = .ok (.iconst 1, 1) := by decide +kernel
theorem dX7_isIce_17 : decode cX7_isIce 17 = .ok (.goto 4, 3) := by decide +kernel
theorem dX7_isIce_20 : decode cX7_isIce 20 = .ok (.iconst 0, 1) := by decide +kernel
theorem dX7_isIce_21 : decode cX7_isIce 21 = .ok (.ireturn, 1) := by decide +kernel
theorem dX7_iceBeside_0 : decode cX7_iceBeside 0 = .ok (.aload_n 0, 1) := by decide +kernel
theorem dX7_iceBeside_1 : decode cX7_iceBeside 1 = .ok (.iload_n 1, 1) := by decide +kernel
theorem dX7_iceBeside_2 : decode cX7_iceBeside 2 = .ok (.iconst 1, 1) := by decide +kernel
theorem dX7_iceBeside_3 : decode cX7_iceBeside 3 = .ok (.invokestatic 57, 3) := by decide +kernel
theorem dX7_iceBeside_6 : decode cX7_iceBeside 6 = .ok (.invokevirtual 61, 3) := by decide +kernel
theorem dX7_iceBeside_9 : decode cX7_iceBeside 9 = .ok (.ifCond .eq 7, 3) := by decide +kernel
theorem dX7_iceBeside_12 : decode cX7_iceBeside 12 = .ok (.iconst 1, 1) := by decide +kernel
theorem dX7_iceBeside_13 : decode cX7_iceBeside 13 = .ok (.goto 4, 3) := by decide +kernel
theorem dX7_iceBeside_16 : decode cX7_iceBeside 16 = .ok (.iconst 0, 1) := by decide +kernel
theorem dX7_iceBeside_17 : decode cX7_iceBeside 17 = .ok (.aload_n 0, 1) := by decide +kernel
theorem dX7_iceBeside_18 : decode cX7_iceBeside 18 = .ok (.iload_n 1, 1) := by decide +kernel
theorem dX7_iceBeside_19 : decode cX7_iceBeside 19 = .ok (.iconst 0, 1) := by decide +kernel
theorem dX7_iceBeside_20 : decode cX7_iceBeside 20 = .ok (.invokestatic 57, 3) := by decide +kernel
theorem dX7_iceBeside_23 : decode cX7_iceBeside 23 = .ok (.invokevirtual 61, 3) := by decide +kernel
theorem dX7_iceBeside_26 : decode cX7_iceBeside 26 = .ok (.ifCond .eq 7, 3) := by decide +kernel
theorem dX7_iceBeside_29 : decode cX7_iceBeside 29 = .ok (.iconst 1, 1) := by decide +kernel
theorem dX7_iceBeside_30 : decode cX7_iceBeside 30 = .ok (.goto 4, 3) := by decide +kernel
theorem dX7_iceBeside_33 : decode cX7_iceBeside 33 = .ok (.iconst 0, 1) := by decide +kernel
theorem dX7_iceBeside_34 : decode cX7_iceBeside 34 = .ok (.iadd, 1) := by decide +kernel
theorem dX7_iceBeside_35 : decode cX7_iceBeside 35 = .ok (.ireturn, 1) := by decide +kernel
theorem dX7_lineFrom_0 : decode cX7_lineFrom 0 = .ok (.iload_n 2, 1) := by decide +kernel
theorem dX7_lineFrom_1 : decode cX7_lineFrom 1 = .ok (.tableswitch 84 0 2 #[27, 47, 64], 27) := by decide +kernel
theorem dX7_lineFrom_28 : decode cX7_lineFrom 28 = .ok (.iload_n 1, 1) := by decide +kernel
theorem dX7_lineFrom_29 : decode cX7_lineFrom 29 = .ok (.ifCond .le 17, 3) := by decide +kernel
theorem dX7_lineFrom_32 : decode cX7_lineFrom 32 = .ok (.bipush 72, 2) := by decide +kernel
theorem dX7_lineFrom_34 : decode cX7_lineFrom 34 = .ok (.bipush 9, 2) := by decide +kernel
theorem dX7_lineFrom_36 : decode cX7_lineFrom 36 = .ok (.iload_n 1, 1) := by decide +kernel
theorem dX7_lineFrom_37 : decode cX7_lineFrom 37 = .ok (.iconst 1, 1) := by decide +kernel
theorem dX7_lineFrom_38 : decode cX7_lineFrom 38 = .ok (.isub, 1) := by decide +kernel
theorem dX7_lineFrom_39 : decode cX7_lineFrom 39 = .ok (.imul, 1) := by decide +kernel
theorem dX7_lineFrom_40 : decode cX7_lineFrom 40 = .ok (.iadd, 1) := by decide +kernel
theorem dX7_lineFrom_41 : decode cX7_lineFrom 41 = .ok (.iload_n 0, 1) := by decide +kernel
theorem dX7_lineFrom_42 : decode cX7_lineFrom 42 = .ok (.iadd, 1) := by decide +kernel
theorem dX7_lineFrom_43 : decode cX7_lineFrom 43 = .ok (.goto 4, 3) := by decide +kernel
theorem dX7_lineFrom_46 : decode cX7_lineFrom 46 = .ok (.iconst (-1), 1) := by decide +kernel
theorem dX7_lineFrom_47 : decode cX7_lineFrom 47 = .ok (.ireturn, 1) := by decide +kernel
theorem dX7_lineFrom_48 : decode cX7_lineFrom 48 = .ok (.iload_n 0, 1) := by decide +kernel
theorem dX7_lineFrom_49 : decode cX7_lineFrom 49 = .ok (.bipush 8, 2) := by decide +kernel
theorem dX7_lineFrom_51 : decode cX7_lineFrom 51 = .ok (.if_icmp .ge 12, 3) := by decide +kernel
theorem dX7_lineFrom_54 : decode cX7_lineFrom 54 = .ok (.bipush 8, 2) := by decide +kernel
theorem dX7_lineFrom_56 : decode cX7_lineFrom 56 = .ok (.iload_n 1, 1) := by decide +kernel
theorem dX7_lineFrom_57 : decode cX7_lineFrom 57 = .ok (.imul, 1) := by decide +kernel
theorem dX7_lineFrom_58 : decode cX7_lineFrom 58 = .ok (.iload_n 0, 1) := by decide +kernel
theorem dX7_lineFrom_59 : decode cX7_lineFrom 59 = .ok (.iadd, 1) := by decide +kernel
theorem dX7_lineFrom_60 : decode cX7_lineFrom 60 = .ok (.goto 4, 3) := by decide +kernel
theorem dX7_lineFrom_63 : decode cX7_lineFrom 63 = .ok (.iconst (-1), 1) := by decide +kernel
theorem dX7_lineFrom_64 : decode cX7_lineFrom 64 = .ok (.ireturn, 1) := by decide +kernel
theorem dX7_lineFrom_65 : decode cX7_lineFrom 65 = .ok (.iload_n 1, 1) := by decide +kernel
theorem dX7_lineFrom_66 : decode cX7_lineFrom 66 = .ok (.bipush 8, 2) := by decide +kernel
theorem dX7_lineFrom_68 : decode cX7_lineFrom 68 = .ok (.if_icmp .ge 15, 3) := by decide +kernel
theorem dX7_lineFrom_71 : decode cX7_lineFrom 71 = .ok (.bipush 72, 2) := by decide +kernel
theorem dX7_lineFrom_73 : decode cX7_lineFrom 73 = .ok (.bipush 9, 2) := by decide +kernel
theorem dX7_lineFrom_75 : decode cX7_lineFrom 75 = .ok (.iload_n 1, 1) := by decide +kernel
theorem dX7_lineFrom_76 : decode cX7_lineFrom 76 = .ok (.imul, 1) := by decide +kernel
theorem dX7_lineFrom_77 : decode cX7_lineFrom 77 = .ok (.iadd, 1) := by decide +kernel
theorem dX7_lineFrom_78 : decode cX7_lineFrom 78 = .ok (.iload_n 0, 1) := by decide +kernel
theorem dX7_lineFrom_79 : decode cX7_lineFrom 79 = .ok (.iadd, 1) := by decide +kernel
theorem dX7_lineFrom_80 : decode cX7_lineFrom 80 = .ok (.goto 4, 3) := by decide +kernel
theorem dX7_lineFrom_83 : decode cX7_lineFrom 83 = .ok (.iconst (-1), 1) := by decide +kernel
theorem dX7_lineFrom_84 : decode cX7_lineFrom 84 = .ok (.ireturn, 1) := by decide +kernel
theorem dX7_lineFrom_85 : decode cX7_lineFrom 85 = .ok (.iload_n 0, 1) := by decide +kernel
theorem dX7_lineFrom_86 : decode cX7_lineFrom 86 = .ok (.ifCond .le 14, 3) := by decide +kernel
theorem dX7_lineFrom_89 : decode cX7_lineFrom 89 = .ok (.bipush 8, 2) := by decide +kernel
theorem dX7_lineFrom_91 : decode cX7_lineFrom 91 = .ok (.iload_n 1, 1) := by decide +kernel
theorem dX7_lineFrom_92 : decode cX7_lineFrom 92 = .ok (.imul, 1) := by decide +kernel
theorem dX7_lineFrom_93 : decode cX7_lineFrom 93 = .ok (.iload_n 0, 1) := by decide +kernel
theorem dX7_lineFrom_94 : decode cX7_lineFrom 94 = .ok (.iadd, 1) := by decide +kernel
theorem dX7_lineFrom_95 : decode cX7_lineFrom 95 = .ok (.iconst 1, 1) := by decide +kernel
theorem dX7_lineFrom_96 : decode cX7_lineFrom 96 = .ok (.isub, 1) := by decide +kernel
theorem dX7_lineFrom_97 : decode cX7_lineFrom 97 = .ok (.goto 4, 3) := by decide +kernel
theorem dX7_lineFrom_100 : decode cX7_lineFrom 100 = .ok (.iconst (-1), 1) := by decide +kernel
theorem dX7_lineFrom_101 : decode cX7_lineFrom 101 = .ok (.ireturn, 1) := by decide +kernel
theorem dX7_isOpen_0 : decode cX7_isOpen 0 = .ok (.aload_n 0, 1) := by decide +kernel
theorem dX7_isOpen_1 : decode cX7_isOpen 1 = .ok (.iload_n 1, 1) := by decide +kernel
theorem dX7_isOpen_2 : decode cX7_isOpen 2 = .ok (.invokevirtual 65, 3) := by decide +kernel
theorem dX7_isOpen_5 : decode cX7_isOpen 5 = .ok (.iconst 2, 1) := by decide +kernel
theorem dX7_isOpen_6 : decode cX7_isOpen 6 = .ok (.if_icmp .ne 20, 3) := by decide +kernel
theorem dX7_isOpen_9 : decode cX7_isOpen 9 = .ok (.aload_n 0, 1) := by decide +kernel
theorem dX7_isOpen_10 : decode cX7_isOpen 10 = .ok (.getfield 7, 3) := by decide +kernel
theorem dX7_isOpen_13 : decode cX7_isOpen 13 = .ok (.sipush 128, 3) := by decide +kernel
theorem dX7_isOpen_16 : decode cX7_isOpen 16 = .ok (.iload_n 1, 1) := by decide +kernel
theorem dX7_isOpen_17 : decode cX7_isOpen 17 = .ok (.iadd, 1) := by decide +kernel
theorem dX7_isOpen_18 : decode cX7_isOpen 18 = .ok (.iaload, 1) := by decide +kernel
theorem dX7_isOpen_19 : decode cX7_isOpen 19 = .ok (.ifCond .ne 7, 3) := by decide +kernel
theorem dX7_isOpen_22 : decode cX7_isOpen 22 = .ok (.iconst 1, 1) := by decide +kernel
theorem dX7_isOpen_23 : decode cX7_isOpen 23 = .ok (.goto 4, 3) := by decide +kernel
theorem dX7_isOpen_26 : decode cX7_isOpen 26 = .ok (.iconst 0, 1) := by decide +kernel
theorem dX7_isOpen_27 : decode cX7_isOpen 27 = .ok (.ireturn, 1) := by decide +kernel
theorem dX7_labels_0 : decode cX7_labels 0 = .ok (.iconst 0, 1) := by decide +kernel
theorem dX7_labels_1 : decode cX7_labels 1 = .ok (.istore_n 1, 1) := by decide +kernel
theorem dX7_labels_2 : decode cX7_labels 2 = .ok (.iload_n 1, 1) := by decide +kernel
theorem dX7_labels_3 : decode cX7_labels 3 = .ok (.bipush 64, 2) := by decide +kernel
theorem dX7_labels_5 : decode cX7_labels 5 = .ok (.if_icmp .ge 29, 3) := by decide +kernel
theorem dX7_labels_8 : decode cX7_labels 8 = .ok (.aload_n 0, 1) := by decide +kernel
theorem dX7_labels_9 : decode cX7_labels 9 = .ok (.getfield 25, 3) := by decide +kernel
theorem dX7_labels_12 : decode cX7_labels 12 = .ok (.iload_n 1, 1) := by decide +kernel
theorem dX7_labels_13 : decode cX7_labels 13 = .ok (.aload_n 0, 1) := by decide +kernel
theorem dX7_labels_14 : decode cX7_labels 14 = .ok (.iload_n 1, 1) := by decide +kernel
theorem dX7_labels_15 : decode cX7_labels 15 = .ok (.invokevirtual 61, 3) := by decide +kernel
theorem dX7_labels_18 : decode cX7_labels 18 = .ok (.ifCond .eq 7, 3) := by decide +kernel
theorem dX7_labels_21 : decode cX7_labels 21 = .ok (.iload_n 1, 1) := by decide +kernel
theorem dX7_labels_22 : decode cX7_labels 22 = .ok (.goto 5, 3) := by decide +kernel
theorem dX7_labels_25 : decode cX7_labels 25 = .ok (.bipush 64, 2) := by decide +kernel
theorem dX7_labels_27 : decode cX7_labels 27 = .ok (.iastore, 1) := by decide +kernel
theorem dX7_labels_28 : decode cX7_labels 28 = .ok (.iinc 1 1, 3) := by decide +kernel
theorem dX7_labels_31 : decode cX7_labels 31 = .ok (.goto (-29), 3) := by decide +kernel
theorem dX7_labels_34 : decode cX7_labels 34 = .ok (.iconst 1, 1) := by decide +kernel
theorem dX7_labels_35 : decode cX7_labels 35 = .ok (.istore_n 1, 1) := by decide +kernel
theorem dX7_labels_36 : decode cX7_labels 36 = .ok (.iload_n 1, 1) := by decide +kernel
theorem dX7_labels_37 : decode cX7_labels 37 = .ok (.ifCond .eq 114, 3) := by decide +kernel
theorem dX7_labels_40 : decode cX7_labels 40 = .ok (.iconst 0, 1) := by decide +kernel
theorem dX7_labels_41 : decode cX7_labels 41 = .ok (.istore_n 1, 1) := by decide +kernel
theorem dX7_labels_42 : decode cX7_labels 42 = .ok (.iconst 0, 1) := by decide +kernel
theorem dX7_labels_43 : decode cX7_labels 43 = .ok (.istore_n 2, 1) := by decide +kernel
theorem dX7_labels_44 : decode cX7_labels 44 = .ok (.iload_n 2, 1) := by decide +kernel
theorem dX7_labels_45 : decode cX7_labels 45 = .ok (.sipush 144, 3) := by decide +kernel
theorem dX7_labels_48 : decode cX7_labels 48 = .ok (.if_icmp .ge 100, 3) := by decide +kernel
theorem dX7_labels_51 : decode cX7_labels 51 = .ok (.aload_n 0, 1) := by decide +kernel
theorem dX7_labels_52 : decode cX7_labels 52 = .ok (.iload_n 2, 1) := by decide +kernel
theorem dX7_labels_53 : decode cX7_labels 53 = .ok (.invokevirtual 69, 3) := by decide +kernel
theorem dX7_labels_56 : decode cX7_labels 56 = .ok (.ifCond .eq 86, 3) := by decide +kernel
theorem dX7_labels_59 : decode cX7_labels 59 = .ok (.aload_n 0, 1) := by decide +kernel
theorem dX7_labels_60 : decode cX7_labels 60 = .ok (.getfield 25, 3) := by decide +kernel
theorem dX7_labels_63 : decode cX7_labels 63 = .ok (.iload_n 2, 1) := by decide +kernel
theorem dX7_labels_64 : decode cX7_labels 64 = .ok (.iconst 1, 1) := by decide +kernel
theorem dX7_labels_65 : decode cX7_labels 65 = .ok (.invokestatic 57, 3) := by decide +kernel
theorem dX7_labels_68 : decode cX7_labels 68 = .ok (.iaload, 1) := by decide +kernel
theorem dX7_labels_69 : decode cX7_labels 69 = .ok (.istore_n 3, 1) := by decide +kernel
theorem dX7_labels_70 : decode cX7_labels 70 = .ok (.aload_n 0, 1) := by decide +kernel
theorem dX7_labels_71 : decode cX7_labels 71 = .ok (.getfield 25, 3) := by decide +kernel
theorem dX7_labels_74 : decode cX7_labels 74 = .ok (.iload_n 2, 1) := by decide +kernel
theorem dX7_labels_75 : decode cX7_labels 75 = .ok (.iconst 0, 1) := by decide +kernel
theorem dX7_labels_76 : decode cX7_labels 76 = .ok (.invokestatic 57, 3) := by decide +kernel
theorem dX7_labels_79 : decode cX7_labels 79 = .ok (.iaload, 1) := by decide +kernel
theorem dX7_labels_80 : decode cX7_labels 80 = .ok (.istore 4, 2) := by decide +kernel
theorem dX7_labels_82 : decode cX7_labels 82 = .ok (.iload_n 1, 1) := by decide +kernel
theorem dX7_labels_83 : decode cX7_labels 83 = .ok (.ifCond .ne 9, 3) := by decide +kernel
theorem dX7_labels_86 : decode cX7_labels 86 = .ok (.iload_n 3, 1) := by decide +kernel
theorem dX7_labels_87 : decode cX7_labels 87 = .ok (.iload 4, 2) := by decide +kernel
theorem dX7_labels_89 : decode cX7_labels 89 = .ok (.if_icmp .eq 7, 3) := by decide +kernel
theorem dX7_labels_92 : decode cX7_labels 92 = .ok (.iconst 1, 1) := by decide +kernel
theorem dX7_labels_93 : decode cX7_labels 93 = .ok (.goto 4, 3) := by decide +kernel
theorem dX7_labels_96 : decode cX7_labels 96 = .ok (.iconst 0, 1) := by decide +kernel
theorem dX7_labels_97 : decode cX7_labels 97 = .ok (.istore_n 1, 1) := by decide +kernel
theorem dX7_labels_98 : decode cX7_labels 98 = .ok (.aload_n 0, 1) := by decide +kernel
theorem dX7_labels_99 : decode cX7_labels 99 = .ok (.getfield 25, 3) := by decide +kernel
theorem dX7_labels_102 : decode cX7_labels 102 = .ok (.iload_n 2, 1) := by decide +kernel
theorem dX7_labels_103 : decode cX7_labels 103 = .ok (.iconst 1, 1) := by decide +kernel
theorem dX7_labels_104 : decode cX7_labels 104 = .ok (.invokestatic 57, 3) := by decide +kernel
theorem dX7_labels_107 : decode cX7_labels 107 = .ok (.iload_n 3, 1) := by decide +kernel
theorem dX7_labels_108 : decode cX7_labels 108 = .ok (.iload 4, 2) := by decide +kernel
theorem dX7_labels_110 : decode cX7_labels 110 = .ok (.if_icmp .ge 7, 3) := by decide +kernel
theorem dX7_labels_113 : decode cX7_labels 113 = .ok (.iload_n 3, 1) := by decide +kernel
theorem dX7_labels_114 : decode cX7_labels 114 = .ok (.goto 5, 3) := by decide +kernel
theorem dX7_labels_117 : decode cX7_labels 117 = .ok (.iload 4, 2) := by decide +kernel
theorem dX7_labels_119 : decode cX7_labels 119 = .ok (.iastore, 1) := by decide +kernel
theorem dX7_labels_120 : decode cX7_labels 120 = .ok (.aload_n 0, 1) := by decide +kernel
theorem dX7_labels_121 : decode cX7_labels 121 = .ok (.getfield 25, 3) := by decide +kernel
theorem dX7_labels_124 : decode cX7_labels 124 = .ok (.iload_n 2, 1) := by decide +kernel
theorem dX7_labels_125 : decode cX7_labels 125 = .ok (.iconst 0, 1) := by decide +kernel
theorem dX7_labels_126 : decode cX7_labels 126 = .ok (.invokestatic 57, 3) := by decide +kernel
theorem dX7_labels_129 : decode cX7_labels 129 = .ok (.iload_n 3, 1) := by decide +kernel
theorem dX7_labels_130 : decode cX7_labels 130 = .ok (.iload 4, 2) := by decide +kernel
theorem dX7_labels_132 : decode cX7_labels 132 = .ok (.if_icmp .ge 7, 3) := by decide +kernel
theorem dX7_labels_135 : decode cX7_labels 135 = .ok (.iload_n 3, 1) := by decide +kernel
theorem dX7_labels_136 : decode cX7_labels 136 = .ok (.goto 5, 3) := by decide +kernel
theorem dX7_labels_139 : decode cX7_labels 139 = .ok (.iload 4, 2) := by decide +kernel
theorem dX7_labels_141 : decode cX7_labels 141 = .ok (.iastore, 1) := by decide +kernel
theorem dX7_labels_142 : decode cX7_labels 142 = .ok (.iinc 2 1, 3) := by decide +kernel
theorem dX7_labels_145 : decode cX7_labels 145 = .ok (.goto (-101), 3) := by decide +kernel
theorem dX7_labels_148 : decode cX7_labels 148 = .ok (.goto (-112), 3) := by decide +kernel
theorem dX7_labels_151 : decode cX7_labels 151 = .ok (.return_, 1) := by decide +kernel
theorem dX7_sizeOf_0 : decode cX7_sizeOf 0 = .ok (.iconst 0, 1) := by decide +kernel
theorem dX7_sizeOf_1 : decode cX7_sizeOf 1 = .ok (.istore_n 2, 1) := by decide +kernel
theorem dX7_sizeOf_2 : decode cX7_sizeOf 2 = .ok (.iconst 0, 1) := by decide +kernel
theorem dX7_sizeOf_3 : decode cX7_sizeOf 3 = .ok (.istore_n 3, 1) := by decide +kernel
theorem dX7_sizeOf_4 : decode cX7_sizeOf 4 = .ok (.iload_n 3, 1) := by decide +kernel
theorem dX7_sizeOf_5 : decode cX7_sizeOf 5 = .ok (.bipush 64, 2) := by decide +kernel
theorem dX7_sizeOf_7 : decode cX7_sizeOf 7 = .ok (.if_icmp .ge 27, 3) := by decide +kernel
theorem dX7_sizeOf_10 : decode cX7_sizeOf 10 = .ok (.iload_n 2, 1) := by decide +kernel
theorem dX7_sizeOf_11 : decode cX7_sizeOf 11 = .ok (.aload_n 0, 1) := by decide +kernel
theorem dX7_sizeOf_12 : decode cX7_sizeOf 12 = .ok (.getfield 25, 3) := by decide +kernel
theorem dX7_sizeOf_15 : decode cX7_sizeOf 15 = .ok (.iload_n 3, 1) := by decide +kernel
theorem dX7_sizeOf_16 : decode cX7_sizeOf 16 = .ok (.iaload, 1) := by decide +kernel
theorem dX7_sizeOf_17 : decode cX7_sizeOf 17 = .ok (.iload_n 1, 1) := by decide +kernel
theorem dX7_sizeOf_18 : decode cX7_sizeOf 18 = .ok (.if_icmp .ne 7, 3) := by decide +kernel
theorem dX7_sizeOf_21 : decode cX7_sizeOf 21 = .ok (.iconst 1, 1) := by decide +kernel
theorem dX7_sizeOf_22 : decode cX7_sizeOf 22 = .ok (.goto 4, 3) := by decide +kernel
theorem dX7_sizeOf_25 : decode cX7_sizeOf 25 = .ok (.iconst 0, 1) := by decide +kernel
theorem dX7_sizeOf_26 : decode cX7_sizeOf 26 = .ok (.iadd, 1) := by decide +kernel
theorem dX7_sizeOf_27 : decode cX7_sizeOf 27 = .ok (.istore_n 2, 1) := by decide +kernel
theorem dX7_sizeOf_28 : decode cX7_sizeOf 28 = .ok (.iinc 3 1, 3) := by decide +kernel
theorem dX7_sizeOf_31 : decode cX7_sizeOf 31 = .ok (.goto (-27), 3) := by decide +kernel
theorem dX7_sizeOf_34 : decode cX7_sizeOf 34 = .ok (.iload_n 2, 1) := by decide +kernel
theorem dX7_sizeOf_35 : decode cX7_sizeOf 35 = .ok (.ireturn, 1) := by decide +kernel
theorem dX7_rinks_0 : decode cX7_rinks 0 = .ok (.iconst 0, 1) := by decide +kernel
theorem dX7_rinks_1 : decode cX7_rinks 1 = .ok (.istore_n 1, 1) := by decide +kernel
theorem dX7_rinks_2 : decode cX7_rinks 2 = .ok (.iconst 0, 1) := by decide +kernel
theorem dX7_rinks_3 : decode cX7_rinks 3 = .ok (.istore_n 2, 1) := by decide +kernel
theorem dX7_rinks_4 : decode cX7_rinks 4 = .ok (.iload_n 2, 1) := by decide +kernel
theorem dX7_rinks_5 : decode cX7_rinks 5 = .ok (.bipush 64, 2) := by decide +kernel
theorem dX7_rinks_7 : decode cX7_rinks 7 = .ok (.if_icmp .ge 27, 3) := by decide +kernel
theorem dX7_rinks_10 : decode cX7_rinks 10 = .ok (.iload_n 1, 1) := by decide +kernel
theorem dX7_rinks_11 : decode cX7_rinks 11 = .ok (.aload_n 0, 1) := by decide +kernel
theorem dX7_rinks_12 : decode cX7_rinks 12 = .ok (.getfield 25, 3) := by decide +kernel
theorem dX7_rinks_15 : decode cX7_rinks 15 = .ok (.iload_n 2, 1) := by decide +kernel
theorem dX7_rinks_16 : decode cX7_rinks 16 = .ok (.iaload, 1) := by decide +kernel
theorem dX7_rinks_17 : decode cX7_rinks 17 = .ok (.iload_n 2, 1) := by decide +kernel
theorem dX7_rinks_18 : decode cX7_rinks 18 = .ok (.if_icmp .ne 7, 3) := by decide +kernel
theorem dX7_rinks_21 : decode cX7_rinks 21 = .ok (.iconst 1, 1) := by decide +kernel
theorem dX7_rinks_22 : decode cX7_rinks 22 = .ok (.goto 4, 3) := by decide +kernel
theorem dX7_rinks_25 : decode cX7_rinks 25 = .ok (.iconst 0, 1) := by decide +kernel
theorem dX7_rinks_26 : decode cX7_rinks 26 = .ok (.iadd, 1) := by decide +kernel
theorem dX7_rinks_27 : decode cX7_rinks 27 = .ok (.istore_n 1, 1) := by decide +kernel
theorem dX7_rinks_28 : decode cX7_rinks 28 = .ok (.iinc 2 1, 3) := by decide +kernel
theorem dX7_rinks_31 : decode cX7_rinks 31 = .ok (.goto (-27), 3) := by decide +kernel
theorem dX7_rinks_34 : decode cX7_rinks 34 = .ok (.iload_n 1, 1) := by decide +kernel
theorem dX7_rinks_35 : decode cX7_rinks 35 = .ok (.ireturn, 1) := by decide +kernel
theorem dX7_byJoining_0 : decode cX7_byJoining 0 = .ok (.iconst 0, 1) := by decide +kernel
theorem dX7_byJoining_1 : decode cX7_byJoining 1 = .ok (.istore_n 1, 1) := by decide +kernel
theorem dX7_byJoining_2 : decode cX7_byJoining 2 = .ok (.iconst 0, 1) := by decide +kernel
theorem dX7_byJoining_3 : decode cX7_byJoining 3 = .ok (.istore_n 2, 1) := by decide +kernel
theorem dX7_byJoining_4 : decode cX7_byJoining 4 = .ok (.iload_n 2, 1) := by decide +kernel
theorem dX7_byJoining_5 : decode cX7_byJoining 5 = .ok (.bipush 64, 2) := by decide +kernel
theorem dX7_byJoining_7 : decode cX7_byJoining 7 = .ok (.if_icmp .ge 27, 3) := by decide +kernel
theorem dX7_byJoining_10 : decode cX7_byJoining 10 = .ok (.aload_n 0, 1) := by decide +kernel
theorem dX7_byJoining_11 : decode cX7_byJoining 11 = .ok (.getfield 28, 3) := by decide +kernel
theorem dX7_byJoining_14 : decode cX7_byJoining 14 = .ok (.iload_n 2, 1) := by decide +kernel
theorem dX7_byJoining_15 : decode cX7_byJoining 15 = .ok (.iload_n 2, 1) := by decide +kernel
theorem dX7_byJoining_16 : decode cX7_byJoining 16 = .ok (.iastore, 1) := by decide +kernel
theorem dX7_byJoining_17 : decode cX7_byJoining 17 = .ok (.iload_n 1, 1) := by decide +kernel
theorem dX7_byJoining_18 : decode cX7_byJoining 18 = .ok (.aload_n 0, 1) := by decide +kernel
theorem dX7_byJoining_19 : decode cX7_byJoining 19 = .ok (.getfield 7, 3) := by decide +kernel
theorem dX7_byJoining_22 : decode cX7_byJoining 22 = .ok (.iconst 0, 1) := by decide +kernel
theorem dX7_byJoining_23 : decode cX7_byJoining 23 = .ok (.iload_n 2, 1) := by decide +kernel
theorem dX7_byJoining_24 : decode cX7_byJoining 24 = .ok (.iadd, 1) := by decide +kernel
theorem dX7_byJoining_25 : decode cX7_byJoining 25 = .ok (.iaload, 1) := by decide +kernel
theorem dX7_byJoining_26 : decode cX7_byJoining 26 = .ok (.iadd, 1) := by decide +kernel
theorem dX7_byJoining_27 : decode cX7_byJoining 27 = .ok (.istore_n 1, 1) := by decide +kernel
theorem dX7_byJoining_28 : decode cX7_byJoining 28 = .ok (.iinc 2 1, 3) := by decide +kernel
theorem dX7_byJoining_31 : decode cX7_byJoining 31 = .ok (.goto (-27), 3) := by decide +kernel
theorem dX7_byJoining_34 : decode cX7_byJoining 34 = .ok (.iconst 0, 1) := by decide +kernel
theorem dX7_byJoining_35 : decode cX7_byJoining 35 = .ok (.istore_n 2, 1) := by decide +kernel
theorem dX7_byJoining_36 : decode cX7_byJoining 36 = .ok (.iload_n 2, 1) := by decide +kernel
theorem dX7_byJoining_37 : decode cX7_byJoining 37 = .ok (.sipush 144, 3) := by decide +kernel
theorem dX7_byJoining_40 : decode cX7_byJoining 40 = .ok (.if_icmp .ge 100, 3) := by decide +kernel
theorem dX7_byJoining_43 : decode cX7_byJoining 43 = .ok (.aload_n 0, 1) := by decide +kernel
theorem dX7_byJoining_44 : decode cX7_byJoining 44 = .ok (.iload_n 2, 1) := by decide +kernel
theorem dX7_byJoining_45 : decode cX7_byJoining 45 = .ok (.invokevirtual 69, 3) := by decide +kernel
theorem dX7_byJoining_48 : decode cX7_byJoining 48 = .ok (.ifCond .eq 86, 3) := by decide +kernel
theorem dX7_byJoining_51 : decode cX7_byJoining 51 = .ok (.aload_n 0, 1) := by decide +kernel
theorem dX7_byJoining_52 : decode cX7_byJoining 52 = .ok (.getfield 28, 3) := by decide +kernel
theorem dX7_byJoining_55 : decode cX7_byJoining 55 = .ok (.iload_n 2, 1) := by decide +kernel
theorem dX7_byJoining_56 : decode cX7_byJoining 56 = .ok (.iconst 1, 1) := by decide +kernel
theorem dX7_byJoining_57 : decode cX7_byJoining 57 = .ok (.invokestatic 57, 3) := by decide +kernel
theorem dX7_byJoining_60 : decode cX7_byJoining 60 = .ok (.iaload, 1) := by decide +kernel
theorem dX7_byJoining_61 : decode cX7_byJoining 61 = .ok (.istore_n 3, 1) := by decide +kernel
theorem dX7_byJoining_62 : decode cX7_byJoining 62 = .ok (.aload_n 0, 1) := by decide +kernel
theorem dX7_byJoining_63 : decode cX7_byJoining 63 = .ok (.getfield 28, 3) := by decide +kernel
theorem dX7_byJoining_66 : decode cX7_byJoining 66 = .ok (.iload_n 2, 1) := by decide +kernel
theorem dX7_byJoining_67 : decode cX7_byJoining 67 = .ok (.iconst 0, 1) := by decide +kernel
theorem dX7_byJoining_68 : decode cX7_byJoining 68 = .ok (.invokestatic 57, 3) := by decide +kernel
theorem dX7_byJoining_71 : decode cX7_byJoining 71 = .ok (.iaload, 1) := by decide +kernel
theorem dX7_byJoining_72 : decode cX7_byJoining 72 = .ok (.istore 4, 2) := by decide +kernel
theorem dX7_byJoining_74 : decode cX7_byJoining 74 = .ok (.iload_n 1, 1) := by decide +kernel
theorem dX7_byJoining_75 : decode cX7_byJoining 75 = .ok (.iload_n 3, 1) := by decide +kernel
theorem dX7_byJoining_76 : decode cX7_byJoining 76 = .ok (.iload 4, 2) := by decide +kernel
theorem dX7_byJoining_78 : decode cX7_byJoining 78 = .ok (.if_icmp .eq 7, 3) := by decide +kernel
theorem dX7_byJoining_81 : decode cX7_byJoining 81 = .ok (.iconst 1, 1) := by decide +kernel
theorem dX7_byJoining_82 : decode cX7_byJoining 82 = .ok (.goto 4, 3) := by decide +kernel
theorem dX7_byJoining_85 : decode cX7_byJoining 85 = .ok (.iconst 0, 1) := by decide +kernel
theorem dX7_byJoining_86 : decode cX7_byJoining 86 = .ok (.isub, 1) := by decide +kernel
theorem dX7_byJoining_87 : decode cX7_byJoining 87 = .ok (.istore_n 1, 1) := by decide +kernel
theorem dX7_byJoining_88 : decode cX7_byJoining 88 = .ok (.iconst 0, 1) := by decide +kernel
theorem dX7_byJoining_89 : decode cX7_byJoining 89 = .ok (.istore 5, 2) := by decide +kernel
theorem dX7_byJoining_91 : decode cX7_byJoining 91 = .ok (.iload 5, 2) := by decide +kernel
theorem dX7_byJoining_93 : decode cX7_byJoining 93 = .ok (.bipush 64, 2) := by decide +kernel
theorem dX7_byJoining_95 : decode cX7_byJoining 95 = .ok (.if_icmp .ge 39, 3) := by decide +kernel
theorem dX7_byJoining_98 : decode cX7_byJoining 98 = .ok (.aload_n 0, 1) := by decide +kernel
theorem dX7_byJoining_99 : decode cX7_byJoining 99 = .ok (.getfield 28, 3) := by decide +kernel
theorem dX7_byJoining_102 : decode cX7_byJoining 102 = .ok (.iload 5, 2) := by decide +kernel
theorem dX7_byJoining_104 : decode cX7_byJoining 104 = .ok (.aload_n 0, 1) := by decide +kernel
theorem dX7_byJoining_105 : decode cX7_byJoining 105 = .ok (.getfield 28, 3) := by decide +kernel
theorem dX7_byJoining_108 : decode cX7_byJoining 108 = .ok (.iload 5, 2) := by decide +kernel
theorem dX7_byJoining_110 : decode cX7_byJoining 110 = .ok (.iaload, 1) := by decide +kernel
theorem dX7_byJoining_111 : decode cX7_byJoining 111 = .ok (.iload_n 3, 1) := by decide +kernel
theorem dX7_byJoining_112 : decode cX7_byJoining 112 = .ok (.if_icmp .ne 8, 3) := by decide +kernel
theorem dX7_byJoining_115 : decode cX7_byJoining 115 = .ok (.iload 4, 2) := by decide +kernel
theorem dX7_byJoining_117 : decode cX7_byJoining 117 = .ok (.goto 10, 3) := by decide +kernel
theorem dX7_byJoining_120 : decode cX7_byJoining 120 = .ok (.aload_n 0, 1) := by decide +kernel
theorem dX7_byJoining_121 : decode cX7_byJoining 121 = .ok (.getfield 28, 3) := by decide +kernel
theorem dX7_byJoining_124 : decode cX7_byJoining 124 = .ok (.iload 5, 2) := by decide +kernel
theorem dX7_byJoining_126 : decode cX7_byJoining 126 = .ok (.iaload, 1) := by decide +kernel
theorem dX7_byJoining_127 : decode cX7_byJoining 127 = .ok (.iastore, 1) := by decide +kernel
theorem dX7_byJoining_128 : decode cX7_byJoining 128 = .ok (.iinc 5 1, 3) := by decide +kernel
theorem dX7_byJoining_131 : decode cX7_byJoining 131 = .ok (.goto (-40), 3) := by decide +kernel
theorem dX7_byJoining_134 : decode cX7_byJoining 134 = .ok (.iinc 2 1, 3) := by decide +kernel
theorem dX7_byJoining_137 : decode cX7_byJoining 137 = .ok (.goto (-101), 3) := by decide +kernel
theorem dX7_byJoining_140 : decode cX7_byJoining 140 = .ok (.iload_n 1, 1) := by decide +kernel
theorem dX7_byJoining_141 : decode cX7_byJoining 141 = .ok (.ireturn, 1) := by decide +kernel
theorem dX7_melts_0 : decode cX7_melts 0 = .ok (.aload_n 0, 1) := by decide +kernel
theorem dX7_melts_1 : decode cX7_melts 1 = .ok (.iload_n 1, 1) := by decide +kernel
theorem dX7_melts_2 : decode cX7_melts 2 = .ok (.invokevirtual 61, 3) := by decide +kernel
theorem dX7_melts_5 : decode cX7_melts 5 = .ok (.ifCond .eq 34, 3) := by decide +kernel
theorem dX7_melts_8 : decode cX7_melts 8 = .ok (.aload_n 0, 1) := by decide +kernel
theorem dX7_melts_9 : decode cX7_melts 9 = .ok (.getfield 7, 3) := by decide +kernel
theorem dX7_melts_12 : decode cX7_melts 12 = .ok (.iconst 0, 1) := by decide +kernel
theorem dX7_melts_13 : decode cX7_melts 13 = .ok (.iload_n 1, 1) := by decide +kernel
theorem dX7_melts_14 : decode cX7_melts 14 = .ok (.iadd, 1) := by decide +kernel
theorem dX7_melts_15 : decode cX7_melts 15 = .ok (.iconst 0, 1) := by decide +kernel
theorem dX7_melts_16 : decode cX7_melts 16 = .ok (.iastore, 1) := by decide +kernel
theorem dX7_melts_17 : decode cX7_melts 17 = .ok (.aload_n 0, 1) := by decide +kernel
theorem dX7_melts_18 : decode cX7_melts 18 = .ok (.getfield 7, 3) := by decide +kernel
theorem dX7_melts_21 : decode cX7_melts 21 = .ok (.bipush 64, 2) := by decide +kernel
theorem dX7_melts_23 : decode cX7_melts 23 = .ok (.iload_n 1, 1) := by decide +kernel
theorem dX7_melts_24 : decode cX7_melts 24 = .ok (.iadd, 1) := by decide +kernel
theorem dX7_melts_25 : decode cX7_melts 25 = .ok (.iconst (-1), 1) := by decide +kernel
theorem dX7_melts_26 : decode cX7_melts 26 = .ok (.iastore, 1) := by decide +kernel
theorem dX7_melts_27 : decode cX7_melts 27 = .ok (.aload_n 0, 1) := by decide +kernel
theorem dX7_melts_28 : decode cX7_melts 28 = .ok (.getfield 7, 3) := by decide +kernel
theorem dX7_melts_31 : decode cX7_melts 31 = .ok (.sipush 439, 3) := by decide +kernel
theorem dX7_melts_34 : decode cX7_melts 34 = .ok (.dup2, 1) := by decide +kernel
theorem dX7_melts_35 : decode cX7_melts 35 = .ok (.iaload, 1) := by decide +kernel
theorem dX7_melts_36 : decode cX7_melts 36 = .ok (.iconst 1, 1) := by decide +kernel
theorem dX7_melts_37 : decode cX7_melts 37 = .ok (.iadd, 1) := by decide +kernel
theorem dX7_melts_38 : decode cX7_melts 38 = .ok (.iastore, 1) := by decide +kernel
theorem dX7_melts_39 : decode cX7_melts 39 = .ok (.return_, 1) := by decide +kernel
theorem dX7_toll_0 : decode cX7_toll 0 = .ok (.aload_n 0, 1) := by decide +kernel
theorem dX7_toll_1 : decode cX7_toll 1 = .ok (.iload_n 2, 1) := by decide +kernel
theorem dX7_toll_2 : decode cX7_toll 2 = .ok (.invokevirtual 65, 3) := by decide +kernel
theorem dX7_toll_5 : decode cX7_toll 5 = .ok (.iconst 2, 1) := by decide +kernel
theorem dX7_toll_6 : decode cX7_toll 6 = .ok (.if_icmp .ge 5, 3) := by decide +kernel
theorem dX7_toll_9 : decode cX7_toll 9 = .ok (.iconst 0, 1) := by decide +kernel
theorem dX7_toll_10 : decode cX7_toll 10 = .ok (.ireturn, 1) := by decide +kernel
theorem dX7_toll_11 : decode cX7_toll 11 = .ok (.aload_n 0, 1) := by decide +kernel
theorem dX7_toll_12 : decode cX7_toll 12 = .ok (.getfield 7, 3) := by decide +kernel
theorem dX7_toll_15 : decode cX7_toll 15 = .ok (.bipush 64, 2) := by decide +kernel
theorem dX7_toll_17 : decode cX7_toll 17 = .ok (.iload_n 2, 1) := by decide +kernel
theorem dX7_toll_18 : decode cX7_toll 18 = .ok (.iconst 1, 1) := by decide +kernel
theorem dX7_toll_19 : decode cX7_toll 19 = .ok (.invokestatic 57, 3) := by decide +kernel
theorem dX7_toll_22 : decode cX7_toll 22 = .ok (.iadd, 1) := by decide +kernel
theorem dX7_toll_23 : decode cX7_toll 23 = .ok (.iaload, 1) := by decide +kernel
theorem dX7_toll_24 : decode cX7_toll 24 = .ok (.istore_n 3, 1) := by decide +kernel
theorem dX7_toll_25 : decode cX7_toll 25 = .ok (.iload_n 3, 1) := by decide +kernel
theorem dX7_toll_26 : decode cX7_toll 26 = .ok (.iconst (-1), 1) := by decide +kernel
theorem dX7_toll_27 : decode cX7_toll 27 = .ok (.if_icmp .eq 36, 3) := by decide +kernel
theorem dX7_toll_30 : decode cX7_toll 30 = .ok (.iload_n 3, 1) := by decide +kernel
theorem dX7_toll_31 : decode cX7_toll 31 = .ok (.iload_n 1, 1) := by decide +kernel
theorem dX7_toll_32 : decode cX7_toll 32 = .ok (.if_icmp .eq 31, 3) := by decide +kernel
theorem dX7_toll_35 : decode cX7_toll 35 = .ok (.iload_n 3, 1) := by decide +kernel
theorem dX7_toll_36 : decode cX7_toll 36 = .ok (.aload_n 0, 1) := by decide +kernel
theorem dX7_toll_37 : decode cX7_toll 37 = .ok (.getfield 7, 3) := by decide +kernel
theorem dX7_toll_40 : decode cX7_toll 40 = .ok (.bipush 64, 2) := by decide +kernel
theorem dX7_toll_42 : decode cX7_toll 42 = .ok (.iload_n 2, 1) := by decide +kernel
theorem dX7_toll_43 : decode cX7_toll 43 = .ok (.iconst 0, 1) := by decide +kernel
theorem dX7_toll_44 : decode cX7_toll 44 = .ok (.invokestatic 57, 3) := by decide +kernel
theorem dX7_toll_47 : decode cX7_toll 47 = .ok (.iadd, 1) := by decide +kernel
theorem dX7_toll_48 : decode cX7_toll 48 = .ok (.iaload, 1) := by decide +kernel
theorem dX7_toll_49 : decode cX7_toll 49 = .ok (.if_icmp .ne 14, 3) := by decide +kernel
theorem dX7_toll_52 : decode cX7_toll 52 = .ok (.aload_n 0, 1) := by decide +kernel
theorem dX7_toll_53 : decode cX7_toll 53 = .ok (.getfield 7, 3) := by decide +kernel
theorem dX7_toll_56 : decode cX7_toll 56 = .ok (.sipush 434, 3) := by decide +kernel
theorem dX7_toll_59 : decode cX7_toll 59 = .ok (.iaload, 1) := by decide +kernel
theorem dX7_toll_60 : decode cX7_toll 60 = .ok (.goto 4, 3) := by decide +kernel
theorem dX7_toll_63 : decode cX7_toll 63 = .ok (.iconst 0, 1) := by decide +kernel
theorem dX7_toll_64 : decode cX7_toll 64 = .ok (.ireturn, 1) := by decide +kernel
theorem dX7_bar_0 : decode cX7_bar 0 = .ok (.aload_n 0, 1) := by decide +kernel
theorem dX7_bar_1 : decode cX7_bar 1 = .ok (.getfield 7, 3) := by decide +kernel
theorem dX7_bar_4 : decode cX7_bar 4 = .ok (.iload_n 1, 1) := by decide +kernel
theorem dX7_bar_5 : decode cX7_bar 5 = .ok (.iconst 0, 1) := by decide +kernel
theorem dX7_bar_6 : decode cX7_bar 6 = .ok (.invokestatic 35, 3) := by decide +kernel
theorem dX7_bar_9 : decode cX7_bar 9 = .ok (.iaload, 1) := by decide +kernel
theorem dX7_bar_10 : decode cX7_bar 10 = .ok (.istore_n 3, 1) := by decide +kernel
theorem dX7_bar_11 : decode cX7_bar 11 = .ok (.aload_n 0, 1) := by decide +kernel
theorem dX7_bar_12 : decode cX7_bar 12 = .ok (.getfield 7, 3) := by decide +kernel
theorem dX7_bar_15 : decode cX7_bar 15 = .ok (.iload_n 1, 1) := by decide +kernel
theorem dX7_bar_16 : decode cX7_bar 16 = .ok (.iconst 1, 1) := by decide +kernel
theorem dX7_bar_17 : decode cX7_bar 17 = .ok (.invokestatic 35, 3) := by decide +kernel
theorem dX7_bar_20 : decode cX7_bar 20 = .ok (.iaload, 1) := by decide +kernel
theorem dX7_bar_21 : decode cX7_bar 21 = .ok (.istore 4, 2) := by decide +kernel
theorem dX7_bar_23 : decode cX7_bar 23 = .ok (.iload_n 3, 1) := by decide +kernel
theorem dX7_bar_24 : decode cX7_bar 24 = .ok (.iload 4, 2) := by decide +kernel
theorem dX7_bar_26 : decode cX7_bar 26 = .ok (.iload_n 2, 1) := by decide +kernel
theorem dX7_bar_27 : decode cX7_bar 27 = .ok (.invokestatic 72, 3) := by decide +kernel
theorem dX7_bar_30 : decode cX7_bar 30 = .ok (.istore 5, 2) := by decide +kernel
theorem dX7_bar_32 : decode cX7_bar 32 = .ok (.iload 5, 2) := by decide +kernel
theorem dX7_bar_34 : decode cX7_bar 34 = .ok (.ifCond .ge 5, 3) := by decide +kernel
theorem dX7_bar_37 : decode cX7_bar 37 = .ok (.iconst 1, 1) := by decide +kernel
theorem dX7_bar_38 : decode cX7_bar 38 = .ok (.ireturn, 1) := by decide +kernel
theorem dX7_bar_39 : decode cX7_bar 39 = .ok (.iload_n 3, 1) := by decide +kernel
theorem dX7_bar_40 : decode cX7_bar 40 = .ok (.iload_n 2, 1) := by decide +kernel
theorem dX7_bar_41 : decode cX7_bar 41 = .ok (.iconst 1, 1) := by decide +kernel
theorem dX7_bar_42 : decode cX7_bar 42 = .ok (.if_icmp .ne 7, 3) := by decide +kernel
theorem dX7_bar_45 : decode cX7_bar 45 = .ok (.iconst 1, 1) := by decide +kernel
theorem dX7_bar_46 : decode cX7_bar 46 = .ok (.goto 13, 3) := by decide +kernel
theorem dX7_bar_49 : decode cX7_bar 49 = .ok (.iload_n 2, 1) := by decide +kernel
theorem dX7_bar_50 : decode cX7_bar 50 = .ok (.iconst 3, 1) := by decide +kernel
theorem dX7_bar_51 : decode cX7_bar 51 = .ok (.if_icmp .ne 7, 3) := by decide +kernel
theorem dX7_bar_54 : decode cX7_bar 54 = .ok (.iconst (-1), 1) := by decide +kernel
theorem dX7_bar_55 : decode cX7_bar 55 = .ok (.goto 4, 3) := by decide +kernel
theorem dX7_bar_58 : decode cX7_bar 58 = .ok (.iconst 0, 1) := by decide +kernel
theorem dX7_bar_59 : decode cX7_bar 59 = .ok (.iadd, 1) := by decide +kernel
theorem dX7_bar_60 : decode cX7_bar 60 = .ok (.istore 6, 2) := by decide +kernel
theorem dX7_bar_62 : decode cX7_bar 62 = .ok (.iload 4, 2) := by decide +kernel
theorem dX7_bar_64 : decode cX7_bar 64 = .ok (.iload_n 2, 1) := by decide +kernel
theorem dX7_bar_65 : decode cX7_bar 65 = .ok (.iconst 2, 1) := by decide +kernel
theorem dX7_bar_66 : decode cX7_bar 66 = .ok (.if_icmp .ne 7, 3) := by decide +kernel
theorem dX7_bar_69 : decode cX7_bar 69 = .ok (.iconst 1, 1) := by decide +kernel
theorem dX7_bar_70 : decode cX7_bar 70 = .ok (.goto 12, 3) := by decide +kernel
theorem dX7_bar_73 : decode cX7_bar 73 = .ok (.iload_n 2, 1) := by decide +kernel
theorem dX7_bar_74 : decode cX7_bar 74 = .ok (.ifCond .ne 7, 3) := by decide +kernel
theorem dX7_bar_77 : decode cX7_bar 77 = .ok (.iconst (-1), 1) := by decide +kernel
theorem dX7_bar_78 : decode cX7_bar 78 = .ok (.goto 4, 3) := by decide +kernel
theorem dX7_bar_81 : decode cX7_bar 81 = .ok (.iconst 0, 1) := by decide +kernel
theorem dX7_bar_82 : decode cX7_bar 82 = .ok (.iadd, 1) := by decide +kernel
theorem dX7_bar_83 : decode cX7_bar 83 = .ok (.istore 7, 2) := by decide +kernel
theorem dX7_bar_85 : decode cX7_bar 85 = .ok (.iconst 0, 1) := by decide +kernel
theorem dX7_bar_86 : decode cX7_bar 86 = .ok (.istore 8, 2) := by decide +kernel
theorem dX7_bar_88 : decode cX7_bar 88 = .ok (.iload 8, 2) := by decide +kernel
theorem dX7_bar_90 : decode cX7_bar 90 = .ok (.iconst 3, 1) := by decide +kernel
theorem dX7_bar_91 : decode cX7_bar 91 = .ok (.if_icmp .ge 49, 3) := by decide +kernel
theorem dX7_bar_94 : decode cX7_bar 94 = .ok (.iload 8, 2) := by decide +kernel
theorem dX7_bar_96 : decode cX7_bar 96 = .ok (.iload_n 1, 1) := by decide +kernel
theorem dX7_bar_97 : decode cX7_bar 97 = .ok (.if_icmp .eq 37, 3) := by decide +kernel
theorem dX7_bar_100 : decode cX7_bar 100 = .ok (.aload_n 0, 1) := by decide +kernel
theorem dX7_bar_101 : decode cX7_bar 101 = .ok (.getfield 7, 3) := by decide +kernel
theorem dX7_bar_104 : decode cX7_bar 104 = .ok (.iload 8, 2) := by decide +kernel
theorem dX7_bar_106 : decode cX7_bar 106 = .ok (.iconst 0, 1) := by decide +kernel
theorem dX7_bar_107 : decode cX7_bar 107 = .ok (.invokestatic 35, 3) := by decide +kernel
theorem dX7_bar_110 : decode cX7_bar 110 = .ok (.iaload, 1) := by decide +kernel
theorem dX7_bar_111 : decode cX7_bar 111 = .ok (.iload 6, 2) := by decide +kernel
theorem dX7_bar_113 : decode cX7_bar 113 = .ok (.if_icmp .ne 21, 3) := by decide +kernel
theorem dX7_bar_116 : decode cX7_bar 116 = .ok (.aload_n 0, 1) := by decide +kernel
theorem dX7_bar_117 : decode cX7_bar 117 = .ok (.getfield 7, 3) := by decide +kernel
theorem dX7_bar_120 : decode cX7_bar 120 = .ok (.iload 8, 2) := by decide +kernel
theorem dX7_bar_122 : decode cX7_bar 122 = .ok (.iconst 1, 1) := by decide +kernel
theorem dX7_bar_123 : decode cX7_bar 123 = .ok (.invokestatic 35, 3) := by decide +kernel
theorem dX7_bar_126 : decode cX7_bar 126 = .ok (.iaload, 1) := by decide +kernel
theorem dX7_bar_127 : decode cX7_bar 127 = .ok (.iload 7, 2) := by decide +kernel
theorem dX7_bar_129 : decode cX7_bar 129 = .ok (.if_icmp .ne 5, 3) := by decide +kernel
theorem dX7_bar_132 : decode cX7_bar 132 = .ok (.iconst 2, 1) := by decide +kernel
theorem dX7_bar_133 : decode cX7_bar 133 = .ok (.ireturn, 1) := by decide +kernel
theorem dX7_bar_134 : decode cX7_bar 134 = .ok (.iinc 8 1, 3) := by decide +kernel
theorem dX7_bar_137 : decode cX7_bar 137 = .ok (.goto (-49), 3) := by decide +kernel
theorem dX7_bar_140 : decode cX7_bar 140 = .ok (.aload_n 0, 1) := by decide +kernel
theorem dX7_bar_141 : decode cX7_bar 141 = .ok (.iload 5, 2) := by decide +kernel
theorem dX7_bar_143 : decode cX7_bar 143 = .ok (.invokevirtual 65, 3) := by decide +kernel
theorem dX7_bar_146 : decode cX7_bar 146 = .ok (.ifCond .ne 7, 3) := by decide +kernel
theorem dX7_bar_149 : decode cX7_bar 149 = .ok (.iconst 3, 1) := by decide +kernel
theorem dX7_bar_150 : decode cX7_bar 150 = .ok (.goto 28, 3) := by decide +kernel
theorem dX7_bar_153 : decode cX7_bar 153 = .ok (.aload_n 0, 1) := by decide +kernel
theorem dX7_bar_154 : decode cX7_bar 154 = .ok (.getfield 7, 3) := by decide +kernel
theorem dX7_bar_157 : decode cX7_bar 157 = .ok (.iload_n 1, 1) := by decide +kernel
theorem dX7_bar_158 : decode cX7_bar 158 = .ok (.iconst 2, 1) := by decide +kernel
theorem dX7_bar_159 : decode cX7_bar 159 = .ok (.invokestatic 35, 3) := by decide +kernel
theorem dX7_bar_162 : decode cX7_bar 162 = .ok (.iaload, 1) := by decide +kernel
theorem dX7_bar_163 : decode cX7_bar 163 = .ok (.aload_n 0, 1) := by decide +kernel
theorem dX7_bar_164 : decode cX7_bar 164 = .ok (.iload_n 1, 1) := by decide +kernel
theorem dX7_bar_165 : decode cX7_bar 165 = .ok (.iload 5, 2) := by decide +kernel
theorem dX7_bar_167 : decode cX7_bar 167 = .ok (.invokevirtual 76, 3) := by decide +kernel
theorem dX7_bar_170 : decode cX7_bar 170 = .ok (.if_icmp .ge 7, 3) := by decide +kernel
theorem dX7_bar_173 : decode cX7_bar 173 = .ok (.iconst 4, 1) := by decide +kernel
theorem dX7_bar_174 : decode cX7_bar 174 = .ok (.goto 4, 3) := by decide +kernel
theorem dX7_bar_177 : decode cX7_bar 177 = .ok (.iconst 0, 1) := by decide +kernel
theorem dX7_bar_178 : decode cX7_bar 178 = .ok (.ireturn, 1) := by decide +kernel
theorem dX7_parts_0 : decode cX7_parts 0 = .ok (.iload_n 2, 1) := by decide +kernel
theorem dX7_parts_1 : decode cX7_parts 1 = .ok (.iconst 1, 1) := by decide +kernel
theorem dX7_parts_2 : decode cX7_parts 2 = .ok (.invokestatic 57, 3) := by decide +kernel
theorem dX7_parts_5 : decode cX7_parts 5 = .ok (.istore_n 3, 1) := by decide +kernel
theorem dX7_parts_6 : decode cX7_parts 6 = .ok (.iload_n 2, 1) := by decide +kernel
theorem dX7_parts_7 : decode cX7_parts 7 = .ok (.iconst 0, 1) := by decide +kernel
theorem dX7_parts_8 : decode cX7_parts 8 = .ok (.invokestatic 57, 3) := by decide +kernel
theorem dX7_parts_11 : decode cX7_parts 11 = .ok (.istore 4, 2) := by decide +kernel
theorem dX7_parts_13 : decode cX7_parts 13 = .ok (.aload_n 0, 1) := by decide +kernel
theorem dX7_parts_14 : decode cX7_parts 14 = .ok (.getfield 7, 3) := by decide +kernel
theorem dX7_parts_17 : decode cX7_parts 17 = .ok (.sipush 128, 3) := by decide +kernel
theorem dX7_parts_20 : decode cX7_parts 20 = .ok (.iload_n 2, 1) := by decide +kernel
theorem dX7_parts_21 : decode cX7_parts 21 = .ok (.iadd, 1) := by decide +kernel
theorem dX7_parts_22 : decode cX7_parts 22 = .ok (.iconst 1, 1) := by decide +kernel
theorem dX7_parts_23 : decode cX7_parts 23 = .ok (.iastore, 1) := by decide +kernel
theorem dX7_parts_24 : decode cX7_parts 24 = .ok (.aload_n 0, 1) := by decide +kernel
theorem dX7_parts_25 : decode cX7_parts 25 = .ok (.invokevirtual 79, 3) := by decide +kernel
theorem dX7_parts_28 : decode cX7_parts 28 = .ok (.aload_n 0, 1) := by decide +kernel
theorem dX7_parts_29 : decode cX7_parts 29 = .ok (.getfield 25, 3) := by decide +kernel
theorem dX7_parts_32 : decode cX7_parts 32 = .ok (.iload_n 3, 1) := by decide +kernel
theorem dX7_parts_33 : decode cX7_parts 33 = .ok (.iaload, 1) := by decide +kernel
theorem dX7_parts_34 : decode cX7_parts 34 = .ok (.aload_n 0, 1) := by decide +kernel
theorem dX7_parts_35 : decode cX7_parts 35 = .ok (.getfield 25, 3) := by decide +kernel
theorem dX7_parts_38 : decode cX7_parts 38 = .ok (.iload 4, 2) := by decide +kernel
theorem dX7_parts_40 : decode cX7_parts 40 = .ok (.iaload, 1) := by decide +kernel
theorem dX7_parts_41 : decode cX7_parts 41 = .ok (.if_icmp .eq 16, 3) := by decide +kernel
theorem dX7_parts_44 : decode cX7_parts 44 = .ok (.aload_n 0, 1) := by decide +kernel
theorem dX7_parts_45 : decode cX7_parts 45 = .ok (.getfield 7, 3) := by decide +kernel
theorem dX7_parts_48 : decode cX7_parts 48 = .ok (.bipush 64, 2) := by decide +kernel
theorem dX7_parts_50 : decode cX7_parts 50 = .ok (.iload_n 3, 1) := by decide +kernel
theorem dX7_parts_51 : decode cX7_parts 51 = .ok (.iadd, 1) := by decide +kernel
theorem dX7_parts_52 : decode cX7_parts 52 = .ok (.iaload, 1) := by decide +kernel
theorem dX7_parts_53 : decode cX7_parts 53 = .ok (.iconst (-1), 1) := by decide +kernel
theorem dX7_parts_54 : decode cX7_parts 54 = .ok (.if_icmp .eq 4, 3) := by decide +kernel
theorem dX7_parts_57 : decode cX7_parts 57 = .ok (.return_, 1) := by decide +kernel
theorem dX7_parts_58 : decode cX7_parts 58 = .ok (.aload_n 0, 1) := by decide +kernel
theorem dX7_parts_59 : decode cX7_parts 59 = .ok (.aload_n 0, 1) := by decide +kernel
theorem dX7_parts_60 : decode cX7_parts 60 = .ok (.getfield 25, 3) := by decide +kernel
theorem dX7_parts_63 : decode cX7_parts 63 = .ok (.iload_n 3, 1) := by decide +kernel
theorem dX7_parts_64 : decode cX7_parts 64 = .ok (.iaload, 1) := by decide +kernel
theorem dX7_parts_65 : decode cX7_parts 65 = .ok (.invokevirtual 82, 3) := by decide +kernel
theorem dX7_parts_68 : decode cX7_parts 68 = .ok (.istore 5, 2) := by decide +kernel
theorem dX7_parts_70 : decode cX7_parts 70 = .ok (.aload_n 0, 1) := by decide +kernel
theorem dX7_parts_71 : decode cX7_parts 71 = .ok (.aload_n 0, 1) := by decide +kernel
theorem dX7_parts_72 : decode cX7_parts 72 = .ok (.getfield 25, 3) := by decide +kernel
theorem dX7_parts_75 : decode cX7_parts 75 = .ok (.iload 4, 2) := by decide +kernel
theorem dX7_parts_77 : decode cX7_parts 77 = .ok (.iaload, 1) := by decide +kernel
theorem dX7_parts_78 : decode cX7_parts 78 = .ok (.invokevirtual 82, 3) := by decide +kernel
theorem dX7_parts_81 : decode cX7_parts 81 = .ok (.istore 6, 2) := by decide +kernel
theorem dX7_parts_83 : decode cX7_parts 83 = .ok (.iload 5, 2) := by decide +kernel
theorem dX7_parts_85 : decode cX7_parts 85 = .ok (.iload 6, 2) := by decide +kernel
theorem dX7_parts_87 : decode cX7_parts 87 = .ok (.if_icmp .lt 26, 3) := by decide +kernel
theorem dX7_parts_90 : decode cX7_parts 90 = .ok (.iload 5, 2) := by decide +kernel
theorem dX7_parts_92 : decode cX7_parts 92 = .ok (.iload 6, 2) := by decide +kernel
theorem dX7_parts_94 : decode cX7_parts 94 = .ok (.if_icmp .ne 28, 3) := by decide +kernel
theorem dX7_parts_97 : decode cX7_parts 97 = .ok (.aload_n 0, 1) := by decide +kernel
theorem dX7_parts_98 : decode cX7_parts 98 = .ok (.getfield 25, 3) := by decide +kernel
theorem dX7_parts_101 : decode cX7_parts 101 = .ok (.iload_n 3, 1) := by decide +kernel
theorem dX7_parts_102 : decode cX7_parts 102 = .ok (.iaload, 1) := by decide +kernel
theorem dX7_parts_103 : decode cX7_parts 103 = .ok (.aload_n 0, 1) := by decide +kernel
theorem dX7_parts_104 : decode cX7_parts 104 = .ok (.getfield 25, 3) := by decide +kernel
theorem dX7_parts_107 : decode cX7_parts 107 = .ok (.iload 4, 2) := by decide +kernel
theorem dX7_parts_109 : decode cX7_parts 109 = .ok (.iaload, 1) := by decide +kernel
theorem dX7_parts_110 : decode cX7_parts 110 = .ok (.if_icmp .ge 12, 3) := by decide +kernel
theorem dX7_parts_113 : decode cX7_parts 113 = .ok (.aload_n 0, 1) := by decide +kernel
theorem dX7_parts_114 : decode cX7_parts 114 = .ok (.getfield 25, 3) := by decide +kernel
theorem dX7_parts_117 : decode cX7_parts 117 = .ok (.iload_n 3, 1) := by decide +kernel
theorem dX7_parts_118 : decode cX7_parts 118 = .ok (.iaload, 1) := by decide +kernel
theorem dX7_parts_119 : decode cX7_parts 119 = .ok (.goto 10, 3) := by decide +kernel
theorem dX7_parts_122 : decode cX7_parts 122 = .ok (.aload_n 0, 1) := by decide +kernel
theorem dX7_parts_123 : decode cX7_parts 123 = .ok (.getfield 25, 3) := by decide +kernel
theorem dX7_parts_126 : decode cX7_parts 126 = .ok (.iload 4, 2) := by decide +kernel
theorem dX7_parts_128 : decode cX7_parts 128 = .ok (.iaload, 1) := by decide +kernel
theorem dX7_parts_129 : decode cX7_parts 129 = .ok (.istore 7, 2) := by decide +kernel
theorem dX7_parts_131 : decode cX7_parts 131 = .ok (.iconst 0, 1) := by decide +kernel
theorem dX7_parts_132 : decode cX7_parts 132 = .ok (.istore 8, 2) := by decide +kernel
theorem dX7_parts_134 : decode cX7_parts 134 = .ok (.iload 8, 2) := by decide +kernel
theorem dX7_parts_136 : decode cX7_parts 136 = .ok (.bipush 64, 2) := by decide +kernel
theorem dX7_parts_138 : decode cX7_parts 138 = .ok (.if_icmp .ge 45, 3) := by decide +kernel
theorem dX7_parts_141 : decode cX7_parts 141 = .ok (.aload_n 0, 1) := by decide +kernel
theorem dX7_parts_142 : decode cX7_parts 142 = .ok (.getfield 7, 3) := by decide +kernel
theorem dX7_parts_145 : decode cX7_parts 145 = .ok (.bipush 64, 2) := by decide +kernel
theorem dX7_parts_147 : decode cX7_parts 147 = .ok (.iload 8, 2) := by decide +kernel
theorem dX7_parts_149 : decode cX7_parts 149 = .ok (.iadd, 1) := by decide +kernel
theorem dX7_parts_150 : decode cX7_parts 150 = .ok (.aload_n 0, 1) := by decide +kernel
theorem dX7_parts_151 : decode cX7_parts 151 = .ok (.getfield 25, 3) := by decide +kernel
theorem dX7_parts_154 : decode cX7_parts 154 = .ok (.iload 8, 2) := by decide +kernel
theorem dX7_parts_156 : decode cX7_parts 156 = .ok (.iaload, 1) := by decide +kernel
theorem dX7_parts_157 : decode cX7_parts 157 = .ok (.iload 7, 2) := by decide +kernel
theorem dX7_parts_159 : decode cX7_parts 159 = .ok (.if_icmp .ne 7, 3) := by decide +kernel
theorem dX7_parts_162 : decode cX7_parts 162 = .ok (.iload_n 1, 1) := by decide +kernel
theorem dX7_parts_163 : decode cX7_parts 163 = .ok (.goto 13, 3) := by decide +kernel
theorem dX7_parts_166 : decode cX7_parts 166 = .ok (.aload_n 0, 1) := by decide +kernel
theorem dX7_parts_167 : decode cX7_parts 167 = .ok (.getfield 7, 3) := by decide +kernel
theorem dX7_parts_170 : decode cX7_parts 170 = .ok (.bipush 64, 2) := by decide +kernel
theorem dX7_parts_172 : decode cX7_parts 172 = .ok (.iload 8, 2) := by decide +kernel
theorem dX7_parts_174 : decode cX7_parts 174 = .ok (.iadd, 1) := by decide +kernel
theorem dX7_parts_175 : decode cX7_parts 175 = .ok (.iaload, 1) := by decide +kernel
theorem dX7_parts_176 : decode cX7_parts 176 = .ok (.iastore, 1) := by decide +kernel
theorem dX7_parts_177 : decode cX7_parts 177 = .ok (.iinc 8 1, 3) := by decide +kernel
theorem dX7_parts_180 : decode cX7_parts 180 = .ok (.goto (-46), 3) := by decide +kernel
theorem dX7_parts_183 : decode cX7_parts 183 = .ok (.return_, 1) := by decide +kernel
theorem dX7_steps_0 : decode cX7_steps 0 = .ok (.aload_n 0, 1) := by decide +kernel
theorem dX7_steps_1 : decode cX7_steps 1 = .ok (.getfield 7, 3) := by decide +kernel
theorem dX7_steps_4 : decode cX7_steps 4 = .ok (.iload_n 1, 1) := by decide +kernel
theorem dX7_steps_5 : decode cX7_steps 5 = .ok (.iconst 0, 1) := by decide +kernel
theorem dX7_steps_6 : decode cX7_steps 6 = .ok (.invokestatic 35, 3) := by decide +kernel
theorem dX7_steps_9 : decode cX7_steps 9 = .ok (.iaload, 1) := by decide +kernel
theorem dX7_steps_10 : decode cX7_steps 10 = .ok (.aload_n 0, 1) := by decide +kernel
theorem dX7_steps_11 : decode cX7_steps 11 = .ok (.getfield 7, 3) := by decide +kernel
theorem dX7_steps_14 : decode cX7_steps 14 = .ok (.iload_n 1, 1) := by decide +kernel
theorem dX7_steps_15 : decode cX7_steps 15 = .ok (.iconst 1, 1) := by decide +kernel
theorem dX7_steps_16 : decode cX7_steps 16 = .ok (.invokestatic 35, 3) := by decide +kernel
theorem dX7_steps_19 : decode cX7_steps 19 = .ok (.iaload, 1) := by decide +kernel
theorem dX7_steps_20 : decode cX7_steps 20 = .ok (.iload_n 2, 1) := by decide +kernel
theorem dX7_steps_21 : decode cX7_steps 21 = .ok (.invokestatic 72, 3) := by decide +kernel
theorem dX7_steps_24 : decode cX7_steps 24 = .ok (.istore_n 3, 1) := by decide +kernel
theorem dX7_steps_25 : decode cX7_steps 25 = .ok (.aload_n 0, 1) := by decide +kernel
theorem dX7_steps_26 : decode cX7_steps 26 = .ok (.iload_n 1, 1) := by decide +kernel
theorem dX7_steps_27 : decode cX7_steps 27 = .ok (.iload_n 3, 1) := by decide +kernel
theorem dX7_steps_28 : decode cX7_steps 28 = .ok (.invokevirtual 76, 3) := by decide +kernel
theorem dX7_steps_31 : decode cX7_steps 31 = .ok (.istore 4, 2) := by decide +kernel
theorem dX7_steps_33 : decode cX7_steps 33 = .ok (.iload 4, 2) := by decide +kernel
theorem dX7_steps_35 : decode cX7_steps 35 = .ok (.ifCond .le 80, 3) := by decide +kernel
theorem dX7_steps_38 : decode cX7_steps 38 = .ok (.aload_n 0, 1) := by decide +kernel
theorem dX7_steps_39 : decode cX7_steps 39 = .ok (.getfield 7, 3) := by decide +kernel
theorem dX7_steps_42 : decode cX7_steps 42 = .ok (.bipush 64, 2) := by decide +kernel
theorem dX7_steps_44 : decode cX7_steps 44 = .ok (.iload_n 3, 1) := by decide +kernel
theorem dX7_steps_45 : decode cX7_steps 45 = .ok (.iconst 1, 1) := by decide +kernel
theorem dX7_steps_46 : decode cX7_steps 46 = .ok (.invokestatic 57, 3) := by decide +kernel
theorem dX7_steps_49 : decode cX7_steps 49 = .ok (.iadd, 1) := by decide +kernel
theorem dX7_steps_50 : decode cX7_steps 50 = .ok (.iaload, 1) := by decide +kernel
theorem dX7_steps_51 : decode cX7_steps 51 = .ok (.istore 5, 2) := by decide +kernel
theorem dX7_steps_53 : decode cX7_steps 53 = .ok (.aload_n 0, 1) := by decide +kernel
theorem dX7_steps_54 : decode cX7_steps 54 = .ok (.getfield 7, 3) := by decide +kernel
theorem dX7_steps_57 : decode cX7_steps 57 = .ok (.iload_n 1, 1) := by decide +kernel
theorem dX7_steps_58 : decode cX7_steps 58 = .ok (.iconst 2, 1) := by decide +kernel
theorem dX7_steps_59 : decode cX7_steps 59 = .ok (.invokestatic 35, 3) := by decide +kernel
theorem dX7_steps_62 : decode cX7_steps 62 = .ok (.dup2, 1) := by decide +kernel
theorem dX7_steps_63 : decode cX7_steps 63 = .ok (.iaload, 1) := by decide +kernel
theorem dX7_steps_64 : decode cX7_steps 64 = .ok (.iload 4, 2) := by decide +kernel
theorem dX7_steps_66 : decode cX7_steps 66 = .ok (.isub, 1) := by decide +kernel
theorem dX7_steps_67 : decode cX7_steps 67 = .ok (.iastore, 1) := by decide +kernel
theorem dX7_steps_68 : decode cX7_steps 68 = .ok (.aload_n 0, 1) := by decide +kernel
theorem dX7_steps_69 : decode cX7_steps 69 = .ok (.getfield 7, 3) := by decide +kernel
theorem dX7_steps_72 : decode cX7_steps 72 = .ok (.iload_n 1, 1) := by decide +kernel
theorem dX7_steps_73 : decode cX7_steps 73 = .ok (.iconst 4, 1) := by decide +kernel
theorem dX7_steps_74 : decode cX7_steps 74 = .ok (.invokestatic 35, 3) := by decide +kernel
theorem dX7_steps_77 : decode cX7_steps 77 = .ok (.dup2, 1) := by decide +kernel
theorem dX7_steps_78 : decode cX7_steps 78 = .ok (.iaload, 1) := by decide +kernel
theorem dX7_steps_79 : decode cX7_steps 79 = .ok (.iload 4, 2) := by decide +kernel
theorem dX7_steps_81 : decode cX7_steps 81 = .ok (.iadd, 1) := by decide +kernel
theorem dX7_steps_82 : decode cX7_steps 82 = .ok (.iastore, 1) := by decide +kernel
theorem dX7_steps_83 : decode cX7_steps 83 = .ok (.aload_n 0, 1) := by decide +kernel
theorem dX7_steps_84 : decode cX7_steps 84 = .ok (.getfield 7, 3) := by decide +kernel
theorem dX7_steps_87 : decode cX7_steps 87 = .ok (.iload 5, 2) := by decide +kernel
theorem dX7_steps_89 : decode cX7_steps 89 = .ok (.iconst 2, 1) := by decide +kernel
theorem dX7_steps_90 : decode cX7_steps 90 = .ok (.invokestatic 35, 3) := by decide +kernel
theorem dX7_steps_93 : decode cX7_steps 93 = .ok (.dup2, 1) := by decide +kernel
theorem dX7_steps_94 : decode cX7_steps 94 = .ok (.iaload, 1) := by decide +kernel
theorem dX7_steps_95 : decode cX7_steps 95 = .ok (.iload 4, 2) := by decide +kernel
theorem dX7_steps_97 : decode cX7_steps 97 = .ok (.iadd, 1) := by decide +kernel
theorem dX7_steps_98 : decode cX7_steps 98 = .ok (.iastore, 1) := by decide +kernel
theorem dX7_steps_99 : decode cX7_steps 99 = .ok (.aload_n 0, 1) := by decide +kernel
theorem dX7_steps_100 : decode cX7_steps 100 = .ok (.getfield 7, 3) := by decide +kernel
theorem dX7_steps_103 : decode cX7_steps 103 = .ok (.iload 5, 2) := by decide +kernel
theorem dX7_steps_105 : decode cX7_steps 105 = .ok (.iconst 5, 1) := by decide +kernel
theorem dX7_steps_106 : decode cX7_steps 106 = .ok (.invokestatic 35, 3) := by decide +kernel
theorem dX7_steps_109 : decode cX7_steps 109 = .ok (.dup2, 1) := by decide +kernel
theorem dX7_steps_110 : decode cX7_steps 110 = .ok (.iaload, 1) := by decide +kernel
theorem dX7_steps_111 : decode cX7_steps 111 = .ok (.iload 4, 2) := by decide +kernel
theorem dX7_steps_113 : decode cX7_steps 113 = .ok (.iadd, 1) := by decide +kernel
theorem dX7_steps_114 : decode cX7_steps 114 = .ok (.iastore, 1) := by decide +kernel
theorem dX7_steps_115 : decode cX7_steps 115 = .ok (.aload_n 0, 1) := by decide +kernel
theorem dX7_steps_116 : decode cX7_steps 116 = .ok (.getfield 7, 3) := by decide +kernel
theorem dX7_steps_119 : decode cX7_steps 119 = .ok (.sipush 272, 3) := by decide +kernel
theorem dX7_steps_122 : decode cX7_steps 122 = .ok (.iload_n 3, 1) := by decide +kernel
theorem dX7_steps_123 : decode cX7_steps 123 = .ok (.iadd, 1) := by decide +kernel
theorem dX7_steps_124 : decode cX7_steps 124 = .ok (.dup2, 1) := by decide +kernel
theorem dX7_steps_125 : decode cX7_steps 125 = .ok (.iaload, 1) := by decide +kernel
theorem dX7_steps_126 : decode cX7_steps 126 = .ok (.iconst 1, 1) := by decide +kernel
theorem dX7_steps_127 : decode cX7_steps 127 = .ok (.iadd, 1) := by decide +kernel
theorem dX7_steps_128 : decode cX7_steps 128 = .ok (.iastore, 1) := by decide +kernel
theorem dX7_steps_129 : decode cX7_steps 129 = .ok (.aload_n 0, 1) := by decide +kernel
theorem dX7_steps_130 : decode cX7_steps 130 = .ok (.getfield 7, 3) := by decide +kernel
theorem dX7_steps_133 : decode cX7_steps 133 = .ok (.sipush 272, 3) := by decide +kernel
theorem dX7_steps_136 : decode cX7_steps 136 = .ok (.iload_n 3, 1) := by decide +kernel
theorem dX7_steps_137 : decode cX7_steps 137 = .ok (.iadd, 1) := by decide +kernel
theorem dX7_steps_138 : decode cX7_steps 138 = .ok (.iaload, 1) := by decide +kernel
theorem dX7_steps_139 : decode cX7_steps 139 = .ok (.aload_n 0, 1) := by decide +kernel
theorem dX7_steps_140 : decode cX7_steps 140 = .ok (.getfield 7, 3) := by decide +kernel
theorem dX7_steps_143 : decode cX7_steps 143 = .ok (.sipush 435, 3) := by decide +kernel
theorem dX7_steps_146 : decode cX7_steps 146 = .ok (.iaload, 1) := by decide +kernel
theorem dX7_steps_147 : decode cX7_steps 147 = .ok (.if_icmp .le 36, 3) := by decide +kernel
theorem dX7_steps_150 : decode cX7_steps 150 = .ok (.aload_n 0, 1) := by decide +kernel
theorem dX7_steps_151 : decode cX7_steps 151 = .ok (.iload_n 3, 1) := by decide +kernel
theorem dX7_steps_152 : decode cX7_steps 152 = .ok (.iconst 1, 1) := by decide +kernel
theorem dX7_steps_153 : decode cX7_steps 153 = .ok (.invokestatic 57, 3) := by decide +kernel
theorem dX7_steps_156 : decode cX7_steps 156 = .ok (.invokevirtual 85, 3) := by decide +kernel
theorem dX7_steps_159 : decode cX7_steps 159 = .ok (.aload_n 0, 1) := by decide +kernel
theorem dX7_steps_160 : decode cX7_steps 160 = .ok (.iload_n 3, 1) := by decide +kernel
theorem dX7_steps_161 : decode cX7_steps 161 = .ok (.iconst 0, 1) := by decide +kernel
theorem dX7_steps_162 : decode cX7_steps 162 = .ok (.invokestatic 57, 3) := by decide +kernel
theorem dX7_steps_165 : decode cX7_steps 165 = .ok (.invokevirtual 85, 3) := by decide +kernel
theorem dX7_steps_168 : decode cX7_steps 168 = .ok (.aload_n 0, 1) := by decide +kernel
theorem dX7_steps_169 : decode cX7_steps 169 = .ok (.getfield 7, 3) := by decide +kernel
theorem dX7_steps_172 : decode cX7_steps 172 = .ok (.sipush 437, 3) := by decide +kernel
theorem dX7_steps_175 : decode cX7_steps 175 = .ok (.dup2, 1) := by decide +kernel
theorem dX7_steps_176 : decode cX7_steps 176 = .ok (.iaload, 1) := by decide +kernel
theorem dX7_steps_177 : decode cX7_steps 177 = .ok (.iconst 1, 1) := by decide +kernel
theorem dX7_steps_178 : decode cX7_steps 178 = .ok (.iadd, 1) := by decide +kernel
theorem dX7_steps_179 : decode cX7_steps 179 = .ok (.iastore, 1) := by decide +kernel
theorem dX7_steps_180 : decode cX7_steps 180 = .ok (.goto 17, 3) := by decide +kernel
theorem dX7_steps_183 : decode cX7_steps 183 = .ok (.aload_n 0, 1) := by decide +kernel
theorem dX7_steps_184 : decode cX7_steps 184 = .ok (.iload_n 3, 1) := by decide +kernel
theorem dX7_steps_185 : decode cX7_steps 185 = .ok (.invokevirtual 69, 3) := by decide +kernel
theorem dX7_steps_188 : decode cX7_steps 188 = .ok (.ifCond .eq 9, 3) := by decide +kernel
theorem dX7_steps_191 : decode cX7_steps 191 = .ok (.aload_n 0, 1) := by decide +kernel
theorem dX7_steps_192 : decode cX7_steps 192 = .ok (.iload_n 1, 1) := by decide +kernel
theorem dX7_steps_193 : decode cX7_steps 193 = .ok (.iload_n 3, 1) := by decide +kernel
theorem dX7_steps_194 : decode cX7_steps 194 = .ok (.invokevirtual 89, 3) := by decide +kernel
theorem dX7_steps_197 : decode cX7_steps 197 = .ok (.aload_n 0, 1) := by decide +kernel
theorem dX7_steps_198 : decode cX7_steps 198 = .ok (.getfield 7, 3) := by decide +kernel
theorem dX7_steps_201 : decode cX7_steps 201 = .ok (.iload_n 1, 1) := by decide +kernel
theorem dX7_steps_202 : decode cX7_steps 202 = .ok (.iconst 0, 1) := by decide +kernel
theorem dX7_steps_203 : decode cX7_steps 203 = .ok (.invokestatic 35, 3) := by decide +kernel
theorem dX7_steps_206 : decode cX7_steps 206 = .ok (.dup2, 1) := by decide +kernel
theorem dX7_steps_207 : decode cX7_steps 207 = .ok (.iaload, 1) := by decide +kernel
theorem dX7_steps_208 : decode cX7_steps 208 = .ok (.iload_n 2, 1) := by decide +kernel
theorem dX7_steps_209 : decode cX7_steps 209 = .ok (.iconst 1, 1) := by decide +kernel
theorem dX7_steps_210 : decode cX7_steps 210 = .ok (.if_icmp .ne 7, 3) := by decide +kernel
theorem dX7_steps_213 : decode cX7_steps 213 = .ok (.iconst 1, 1) := by decide +kernel
theorem dX7_steps_214 : decode cX7_steps 214 = .ok (.goto 13, 3) := by decide +kernel
theorem dX7_steps_217 : decode cX7_steps 217 = .ok (.iload_n 2, 1) := by decide +kernel
theorem dX7_steps_218 : decode cX7_steps 218 = .ok (.iconst 3, 1) := by decide +kernel
theorem dX7_steps_219 : decode cX7_steps 219 = .ok (.if_icmp .ne 7, 3) := by decide +kernel
theorem dX7_steps_222 : decode cX7_steps 222 = .ok (.iconst (-1), 1) := by decide +kernel
theorem dX7_steps_223 : decode cX7_steps 223 = .ok (.goto 4, 3) := by decide +kernel
theorem dX7_steps_226 : decode cX7_steps 226 = .ok (.iconst 0, 1) := by decide +kernel
theorem dX7_steps_227 : decode cX7_steps 227 = .ok (.iadd, 1) := by decide +kernel
theorem dX7_steps_228 : decode cX7_steps 228 = .ok (.iastore, 1) := by decide +kernel
theorem dX7_steps_229 : decode cX7_steps 229 = .ok (.aload_n 0, 1) := by decide +kernel
theorem dX7_steps_230 : decode cX7_steps 230 = .ok (.getfield 7, 3) := by decide +kernel
theorem dX7_steps_233 : decode cX7_steps 233 = .ok (.iload_n 1, 1) := by decide +kernel
theorem dX7_steps_234 : decode cX7_steps 234 = .ok (.iconst 1, 1) := by decide +kernel
theorem dX7_steps_235 : decode cX7_steps 235 = .ok (.invokestatic 35, 3) := by decide +kernel
theorem dX7_steps_238 : decode cX7_steps 238 = .ok (.dup2, 1) := by decide +kernel
theorem dX7_steps_239 : decode cX7_steps 239 = .ok (.iaload, 1) := by decide +kernel
theorem dX7_steps_240 : decode cX7_steps 240 = .ok (.iload_n 2, 1) := by decide +kernel
theorem dX7_steps_241 : decode cX7_steps 241 = .ok (.iconst 2, 1) := by decide +kernel
theorem dX7_steps_242 : decode cX7_steps 242 = .ok (.if_icmp .ne 7, 3) := by decide +kernel
theorem dX7_steps_245 : decode cX7_steps 245 = .ok (.iconst 1, 1) := by decide +kernel
theorem dX7_steps_246 : decode cX7_steps 246 = .ok (.goto 12, 3) := by decide +kernel
theorem dX7_steps_249 : decode cX7_steps 249 = .ok (.iload_n 2, 1) := by decide +kernel
theorem dX7_steps_250 : decode cX7_steps 250 = .ok (.ifCond .ne 7, 3) := by decide +kernel
theorem dX7_steps_253 : decode cX7_steps 253 = .ok (.iconst (-1), 1) := by decide +kernel
theorem dX7_steps_254 : decode cX7_steps 254 = .ok (.goto 4, 3) := by decide +kernel
theorem dX7_steps_257 : decode cX7_steps 257 = .ok (.iconst 0, 1) := by decide +kernel
theorem dX7_steps_258 : decode cX7_steps 258 = .ok (.iadd, 1) := by decide +kernel
theorem dX7_steps_259 : decode cX7_steps 259 = .ok (.iastore, 1) := by decide +kernel
theorem dX7_steps_260 : decode cX7_steps 260 = .ok (.aload_n 0, 1) := by decide +kernel
theorem dX7_steps_261 : decode cX7_steps 261 = .ok (.getfield 7, 3) := by decide +kernel
theorem dX7_steps_264 : decode cX7_steps 264 = .ok (.iload_n 1, 1) := by decide +kernel
theorem dX7_steps_265 : decode cX7_steps 265 = .ok (.iconst 3, 1) := by decide +kernel
theorem dX7_steps_266 : decode cX7_steps 266 = .ok (.invokestatic 35, 3) := by decide +kernel
theorem dX7_steps_269 : decode cX7_steps 269 = .ok (.dup2, 1) := by decide +kernel
theorem dX7_steps_270 : decode cX7_steps 270 = .ok (.iaload, 1) := by decide +kernel
theorem dX7_steps_271 : decode cX7_steps 271 = .ok (.iconst 1, 1) := by decide +kernel
theorem dX7_steps_272 : decode cX7_steps 272 = .ok (.iadd, 1) := by decide +kernel
theorem dX7_steps_273 : decode cX7_steps 273 = .ok (.iastore, 1) := by decide +kernel
theorem dX7_steps_274 : decode cX7_steps 274 = .ok (.return_, 1) := by decide +kernel
theorem dX7_glides_0 : decode cX7_glides 0 = .ok (.iconst 0, 1) := by decide +kernel
theorem dX7_glides_1 : decode cX7_glides 1 = .ok (.istore 4, 2) := by decide +kernel
theorem dX7_glides_3 : decode cX7_glides 3 = .ok (.iload 4, 2) := by decide +kernel
theorem dX7_glides_5 : decode cX7_glides 5 = .ok (.iload_n 3, 1) := by decide +kernel
theorem dX7_glides_6 : decode cX7_glides 6 = .ok (.if_icmp .ge 24, 3) := by decide +kernel
theorem dX7_glides_9 : decode cX7_glides 9 = .ok (.aload_n 0, 1) := by decide +kernel
theorem dX7_glides_10 : decode cX7_glides 10 = .ok (.iload_n 1, 1) := by decide +kernel
theorem dX7_glides_11 : decode cX7_glides 11 = .ok (.iload_n 2, 1) := by decide +kernel
theorem dX7_glides_12 : decode cX7_glides 12 = .ok (.invokevirtual 93, 3) := by decide +kernel
theorem dX7_glides_15 : decode cX7_glides 15 = .ok (.ifCond .ne 15, 3) := by decide +kernel
theorem dX7_glides_18 : decode cX7_glides 18 = .ok (.aload_n 0, 1) := by decide +kernel
theorem dX7_glides_19 : decode cX7_glides 19 = .ok (.iload_n 1, 1) := by decide +kernel
theorem dX7_glides_20 : decode cX7_glides 20 = .ok (.iload_n 2, 1) := by decide +kernel
theorem dX7_glides_21 : decode cX7_glides 21 = .ok (.invokevirtual 96, 3) := by decide +kernel
theorem dX7_glides_24 : decode cX7_glides 24 = .ok (.iinc 4 1, 3) := by decide +kernel
theorem dX7_glides_27 : decode cX7_glides 27 = .ok (.goto (-24), 3) := by decide +kernel
theorem dX7_glides_30 : decode cX7_glides 30 = .ok (.iload 4, 2) := by decide +kernel
theorem dX7_glides_32 : decode cX7_glides 32 = .ok (.ireturn, 1) := by decide +kernel
theorem dX7_glide_0 : decode cX7_glide 0 = .ok (.aload_n 0, 1) := by decide +kernel
theorem dX7_glide_1 : decode cX7_glide 1 = .ok (.iload_n 1, 1) := by decide +kernel
theorem dX7_glide_2 : decode cX7_glide 2 = .ok (.invokestatic 99, 3) := by decide +kernel
theorem dX7_glide_5 : decode cX7_glide 5 = .ok (.ifCond .ne 7, 3) := by decide +kernel
theorem dX7_glide_8 : decode cX7_glide 8 = .ok (.iconst 1, 1) := by decide +kernel
theorem dX7_glide_9 : decode cX7_glide 9 = .ok (.goto 27, 3) := by decide +kernel
theorem dX7_glide_12 : decode cX7_glide 12 = .ok (.iload_n 2, 1) := by decide +kernel
theorem dX7_glide_13 : decode cX7_glide 13 = .ok (.iconst 0, 1) := by decide +kernel
theorem dX7_glide_14 : decode cX7_glide 14 = .ok (.iconst 3, 1) := by decide +kernel
theorem dX7_glide_15 : decode cX7_glide 15 = .ok (.invokestatic 43, 3) := by decide +kernel
theorem dX7_glide_18 : decode cX7_glide 18 = .ok (.ifCond .eq 17, 3) := by decide +kernel
theorem dX7_glide_21 : decode cX7_glide 21 = .ok (.iload_n 3, 1) := by decide +kernel
theorem dX7_glide_22 : decode cX7_glide 22 = .ok (.iconst 1, 1) := by decide +kernel
theorem dX7_glide_23 : decode cX7_glide 23 = .ok (.bipush 8, 2) := by decide +kernel
theorem dX7_glide_25 : decode cX7_glide 25 = .ok (.invokestatic 43, 3) := by decide +kernel
theorem dX7_glide_28 : decode cX7_glide 28 = .ok (.ifCond .eq 7, 3) := by decide +kernel
theorem dX7_glide_31 : decode cX7_glide 31 = .ok (.iconst 0, 1) := by decide +kernel
theorem dX7_glide_32 : decode cX7_glide 32 = .ok (.goto 4, 3) := by decide +kernel
theorem dX7_glide_35 : decode cX7_glide 35 = .ok (.iconst 2, 1) := by decide +kernel
theorem dX7_glide_36 : decode cX7_glide 36 = .ok (.invokevirtual 102, 3) := by decide +kernel
theorem dX7_glide_39 : decode cX7_glide 39 = .ok (.ifCond .eq 5, 3) := by decide +kernel
theorem dX7_glide_42 : decode cX7_glide 42 = .ok (.iconst 0, 1) := by decide +kernel
theorem dX7_glide_43 : decode cX7_glide 43 = .ok (.ireturn, 1) := by decide +kernel
theorem dX7_glide_44 : decode cX7_glide 44 = .ok (.aload_n 0, 1) := by decide +kernel
theorem dX7_glide_45 : decode cX7_glide 45 = .ok (.invokevirtual 105, 3) := by decide +kernel
theorem dX7_glide_48 : decode cX7_glide 48 = .ok (.aload_n 0, 1) := by decide +kernel
theorem dX7_glide_49 : decode cX7_glide 49 = .ok (.iload_n 1, 1) := by decide +kernel
theorem dX7_glide_50 : decode cX7_glide 50 = .ok (.iload_n 2, 1) := by decide +kernel
theorem dX7_glide_51 : decode cX7_glide 51 = .ok (.iload_n 3, 1) := by decide +kernel
theorem dX7_glide_52 : decode cX7_glide 52 = .ok (.invokevirtual 108, 3) := by decide +kernel
theorem dX7_glide_55 : decode cX7_glide 55 = .ok (.ireturn, 1) := by decide +kernel
theorem dX7_waterBeside_0 : decode cX7_waterBeside 0 = .ok (.iload_n 1, 1) := by decide +kernel
theorem dX7_waterBeside_1 : decode cX7_waterBeside 1 = .ok (.bipush 8, 2) := by decide +kernel
theorem dX7_waterBeside_3 : decode cX7_waterBeside 3 = .ok (.irem, 1) := by decide +kernel
theorem dX7_waterBeside_4 : decode cX7_waterBeside 4 = .ok (.istore_n 2, 1) := by decide +kernel
theorem dX7_waterBeside_5 : decode cX7_waterBeside 5 = .ok (.iload_n 1, 1) := by decide +kernel
theorem dX7_waterBeside_6 : decode cX7_waterBeside 6 = .ok (.bipush 8, 2) := by decide +kernel
theorem dX7_waterBeside_8 : decode cX7_waterBeside 8 = .ok (.idiv, 1) := by decide +kernel
theorem dX7_waterBeside_9 : decode cX7_waterBeside 9 = .ok (.istore_n 3, 1) := by decide +kernel
theorem dX7_waterBeside_10 : decode cX7_waterBeside 10 = .ok (.iconst 0, 1) := by decide +kernel
theorem dX7_waterBeside_11 : decode cX7_waterBeside 11 = .ok (.istore 4, 2) := by decide +kernel
theorem dX7_waterBeside_13 : decode cX7_waterBeside 13 = .ok (.iconst 0, 1) := by decide +kernel
theorem dX7_waterBeside_14 : decode cX7_waterBeside 14 = .ok (.istore 5, 2) := by decide +kernel
theorem dX7_waterBeside_16 : decode cX7_waterBeside 16 = .ok (.iload 5, 2) := by decide +kernel
theorem dX7_waterBeside_18 : decode cX7_waterBeside 18 = .ok (.iconst 4, 1) := by decide +kernel
theorem dX7_waterBeside_19 : decode cX7_waterBeside 19 = .ok (.if_icmp .ge 86, 3) := by decide +kernel
theorem dX7_waterBeside_22 : decode cX7_waterBeside 22 = .ok (.iload_n 2, 1) := by decide +kernel
theorem dX7_waterBeside_23 : decode cX7_waterBeside 23 = .ok (.iload 5, 2) := by decide +kernel
theorem dX7_waterBeside_25 : decode cX7_waterBeside 25 = .ok (.iconst 1, 1) := by decide +kernel
theorem dX7_waterBeside_26 : decode cX7_waterBeside 26 = .ok (.if_icmp .ne 7, 3) := by decide +kernel
theorem dX7_waterBeside_29 : decode cX7_waterBeside 29 = .ok (.iconst 1, 1) := by decide +kernel
theorem dX7_waterBeside_30 : decode cX7_waterBeside 30 = .ok (.goto 14, 3) := by decide +kernel
theorem dX7_waterBeside_33 : decode cX7_waterBeside 33 = .ok (.iload 5, 2) := by decide +kernel
theorem dX7_waterBeside_35 : decode cX7_waterBeside 35 = .ok (.iconst 3, 1) := by decide +kernel
theorem dX7_waterBeside_36 : decode cX7_waterBeside 36 = .ok (.if_icmp .ne 7, 3) := by decide +kernel
theorem dX7_waterBeside_39 : decode cX7_waterBeside 39 = .ok (.iconst (-1), 1) := by decide +kernel
theorem dX7_waterBeside_40 : decode cX7_waterBeside 40 = .ok (.goto 4, 3) := by decide +kernel
theorem dX7_waterBeside_43 : decode cX7_waterBeside 43 = .ok (.iconst 0, 1) := by decide +kernel
theorem dX7_waterBeside_44 : decode cX7_waterBeside 44 = .ok (.iadd, 1) := by decide +kernel
theorem dX7_waterBeside_45 : decode cX7_waterBeside 45 = .ok (.iload_n 3, 1) := by decide +kernel
theorem dX7_waterBeside_46 : decode cX7_waterBeside 46 = .ok (.iload 5, 2) := by decide +kernel
theorem dX7_waterBeside_48 : decode cX7_waterBeside 48 = .ok (.iconst 2, 1) := by decide +kernel
theorem dX7_waterBeside_49 : decode cX7_waterBeside 49 = .ok (.if_icmp .ne 7, 3) := by decide +kernel
theorem dX7_waterBeside_52 : decode cX7_waterBeside 52 = .ok (.iconst 1, 1) := by decide +kernel
theorem dX7_waterBeside_53 : decode cX7_waterBeside 53 = .ok (.goto 13, 3) := by decide +kernel
theorem dX7_waterBeside_56 : decode cX7_waterBeside 56 = .ok (.iload 5, 2) := by decide +kernel
theorem dX7_waterBeside_58 : decode cX7_waterBeside 58 = .ok (.ifCond .ne 7, 3) := by decide +kernel
theorem dX7_waterBeside_61 : decode cX7_waterBeside 61 = .ok (.iconst (-1), 1) := by decide +kernel
theorem dX7_waterBeside_62 : decode cX7_waterBeside 62 = .ok (.goto 4, 3) := by decide +kernel
theorem dX7_waterBeside_65 : decode cX7_waterBeside 65 = .ok (.iconst 0, 1) := by decide +kernel
theorem dX7_waterBeside_66 : decode cX7_waterBeside 66 = .ok (.iadd, 1) := by decide +kernel
theorem dX7_waterBeside_67 : decode cX7_waterBeside 67 = .ok (.invokestatic 54, 3) := by decide +kernel
theorem dX7_waterBeside_70 : decode cX7_waterBeside 70 = .ok (.istore 6, 2) := by decide +kernel
theorem dX7_waterBeside_72 : decode cX7_waterBeside 72 = .ok (.iload 4, 2) := by decide +kernel
theorem dX7_waterBeside_74 : decode cX7_waterBeside 74 = .ok (.iload 6, 2) := by decide +kernel
theorem dX7_waterBeside_76 : decode cX7_waterBeside 76 = .ok (.ifCond .lt 19, 3) := by decide +kernel
theorem dX7_waterBeside_79 : decode cX7_waterBeside 79 = .ok (.aload_n 0, 1) := by decide +kernel
theorem dX7_waterBeside_80 : decode cX7_waterBeside 80 = .ok (.getfield 7, 3) := by decide +kernel
theorem dX7_waterBeside_83 : decode cX7_waterBeside 83 = .ok (.iconst 0, 1) := by decide +kernel
theorem dX7_waterBeside_84 : decode cX7_waterBeside 84 = .ok (.iload 6, 2) := by decide +kernel
theorem dX7_waterBeside_86 : decode cX7_waterBeside 86 = .ok (.iadd, 1) := by decide +kernel
theorem dX7_waterBeside_87 : decode cX7_waterBeside 87 = .ok (.iaload, 1) := by decide +kernel
theorem dX7_waterBeside_88 : decode cX7_waterBeside 88 = .ok (.ifCond .ne 7, 3) := by decide +kernel
theorem dX7_waterBeside_91 : decode cX7_waterBeside 91 = .ok (.iconst 1, 1) := by decide +kernel
theorem dX7_waterBeside_92 : decode cX7_waterBeside 92 = .ok (.goto 4, 3) := by decide +kernel
theorem dX7_waterBeside_95 : decode cX7_waterBeside 95 = .ok (.iconst 0, 1) := by decide +kernel
theorem dX7_waterBeside_96 : decode cX7_waterBeside 96 = .ok (.iadd, 1) := by decide +kernel
theorem dX7_waterBeside_97 : decode cX7_waterBeside 97 = .ok (.istore 4, 2) := by decide +kernel
theorem dX7_waterBeside_99 : decode cX7_waterBeside 99 = .ok (.iinc 5 1, 3) := by decide +kernel
theorem dX7_waterBeside_102 : decode cX7_waterBeside 102 = .ok (.goto (-86), 3) := by decide +kernel
theorem dX7_waterBeside_105 : decode cX7_waterBeside 105 = .ok (.iload 4, 2) := by decide +kernel
theorem dX7_waterBeside_107 : decode cX7_waterBeside 107 = .ok (.ireturn, 1) := by decide +kernel
theorem dX7_thaws_0 : decode cX7_thaws 0 = .ok (.iconst 0, 1) := by decide +kernel
theorem dX7_thaws_1 : decode cX7_thaws 1 = .ok (.istore_n 1, 1) := by decide +kernel
theorem dX7_thaws_2 : decode cX7_thaws 2 = .ok (.iconst 0, 1) := by decide +kernel
theorem dX7_thaws_3 : decode cX7_thaws 3 = .ok (.istore_n 2, 1) := by decide +kernel
theorem dX7_thaws_4 : decode cX7_thaws 4 = .ok (.iload_n 2, 1) := by decide +kernel
theorem dX7_thaws_5 : decode cX7_thaws 5 = .ok (.bipush 64, 2) := by decide +kernel
theorem dX7_thaws_7 : decode cX7_thaws 7 = .ok (.if_icmp .ge 61, 3) := by decide +kernel
theorem dX7_thaws_10 : decode cX7_thaws 10 = .ok (.aload_n 0, 1) := by decide +kernel
theorem dX7_thaws_11 : decode cX7_thaws 11 = .ok (.getfield 31, 3) := by decide +kernel
theorem dX7_thaws_14 : decode cX7_thaws 14 = .ok (.iload_n 2, 1) := by decide +kernel
theorem dX7_thaws_15 : decode cX7_thaws 15 = .ok (.aload_n 0, 1) := by decide +kernel
theorem dX7_thaws_16 : decode cX7_thaws 16 = .ok (.iload_n 2, 1) := by decide +kernel
theorem dX7_thaws_17 : decode cX7_thaws 17 = .ok (.invokevirtual 61, 3) := by decide +kernel
theorem dX7_thaws_20 : decode cX7_thaws 20 = .ok (.ifCond .eq 23, 3) := by decide +kernel
theorem dX7_thaws_23 : decode cX7_thaws 23 = .ok (.aload_n 0, 1) := by decide +kernel
theorem dX7_thaws_24 : decode cX7_thaws 24 = .ok (.iload_n 2, 1) := by decide +kernel
theorem dX7_thaws_25 : decode cX7_thaws 25 = .ok (.invokevirtual 111, 3) := by decide +kernel
theorem dX7_thaws_28 : decode cX7_thaws 28 = .ok (.aload_n 0, 1) := by decide +kernel
theorem dX7_thaws_29 : decode cX7_thaws 29 = .ok (.getfield 7, 3) := by decide +kernel
theorem dX7_thaws_32 : decode cX7_thaws 32 = .ok (.sipush 436, 3) := by decide +kernel
theorem dX7_thaws_35 : decode cX7_thaws 35 = .ok (.iaload, 1) := by decide +kernel
theorem dX7_thaws_36 : decode cX7_thaws 36 = .ok (.if_icmp .lt 7, 3) := by decide +kernel
theorem dX7_thaws_39 : decode cX7_thaws 39 = .ok (.iconst 1, 1) := by decide +kernel
theorem dX7_thaws_40 : decode cX7_thaws 40 = .ok (.goto 4, 3) := by decide +kernel
theorem dX7_thaws_43 : decode cX7_thaws 43 = .ok (.iconst 0, 1) := by decide +kernel
theorem dX7_thaws_44 : decode cX7_thaws 44 = .ok (.bastore, 1) := by decide +kernel
theorem dX7_thaws_45 : decode cX7_thaws 45 = .ok (.iload_n 1, 1) := by decide +kernel
theorem dX7_thaws_46 : decode cX7_thaws 46 = .ok (.aload_n 0, 1) := by decide +kernel
theorem dX7_thaws_47 : decode cX7_thaws 47 = .ok (.getfield 31, 3) := by decide +kernel
theorem dX7_thaws_50 : decode cX7_thaws 50 = .ok (.iload_n 2, 1) := by decide +kernel
theorem dX7_thaws_51 : decode cX7_thaws 51 = .ok (.baload, 1) := by decide +kernel
theorem dX7_thaws_52 : decode cX7_thaws 52 = .ok (.ifCond .eq 7, 3) := by decide +kernel
theorem dX7_thaws_55 : decode cX7_thaws 55 = .ok (.iconst 1, 1) := by decide +kernel
theorem dX7_thaws_56 : decode cX7_thaws 56 = .ok (.goto 4, 3) := by decide +kernel
theorem dX7_thaws_59 : decode cX7_thaws 59 = .ok (.iconst 0, 1) := by decide +kernel
theorem dX7_thaws_60 : decode cX7_thaws 60 = .ok (.iadd, 1) := by decide +kernel
theorem dX7_thaws_61 : decode cX7_thaws 61 = .ok (.istore_n 1, 1) := by decide +kernel
theorem dX7_thaws_62 : decode cX7_thaws 62 = .ok (.iinc 2 1, 3) := by decide +kernel
theorem dX7_thaws_65 : decode cX7_thaws 65 = .ok (.goto (-61), 3) := by decide +kernel
theorem dX7_thaws_68 : decode cX7_thaws 68 = .ok (.iconst 0, 1) := by decide +kernel
theorem dX7_thaws_69 : decode cX7_thaws 69 = .ok (.istore_n 2, 1) := by decide +kernel
theorem dX7_thaws_70 : decode cX7_thaws 70 = .ok (.iload_n 2, 1) := by decide +kernel
theorem dX7_thaws_71 : decode cX7_thaws 71 = .ok (.bipush 64, 2) := by decide +kernel
theorem dX7_thaws_73 : decode cX7_thaws 73 = .ok (.if_icmp .ge 23, 3) := by decide +kernel
theorem dX7_thaws_76 : decode cX7_thaws 76 = .ok (.aload_n 0, 1) := by decide +kernel
theorem dX7_thaws_77 : decode cX7_thaws 77 = .ok (.getfield 31, 3) := by decide +kernel
theorem dX7_thaws_80 : decode cX7_thaws 80 = .ok (.iload_n 2, 1) := by decide +kernel
theorem dX7_thaws_81 : decode cX7_thaws 81 = .ok (.baload, 1) := by decide +kernel
theorem dX7_thaws_82 : decode cX7_thaws 82 = .ok (.ifCond .eq 8, 3) := by decide +kernel
theorem dX7_thaws_85 : decode cX7_thaws 85 = .ok (.aload_n 0, 1) := by decide +kernel
theorem dX7_thaws_86 : decode cX7_thaws 86 = .ok (.iload_n 2, 1) := by decide +kernel
theorem dX7_thaws_87 : decode cX7_thaws 87 = .ok (.invokevirtual 85, 3) := by decide +kernel
theorem dX7_thaws_90 : decode cX7_thaws 90 = .ok (.iinc 2 1, 3) := by decide +kernel
theorem dX7_thaws_93 : decode cX7_thaws 93 = .ok (.goto (-23), 3) := by decide +kernel
theorem dX7_thaws_96 : decode cX7_thaws 96 = .ok (.aload_n 0, 1) := by decide +kernel
theorem dX7_thaws_97 : decode cX7_thaws 97 = .ok (.getfield 7, 3) := by decide +kernel
theorem dX7_thaws_100 : decode cX7_thaws 100 = .ok (.sipush 438, 3) := by decide +kernel
theorem dX7_thaws_103 : decode cX7_thaws 103 = .ok (.dup2, 1) := by decide +kernel
theorem dX7_thaws_104 : decode cX7_thaws 104 = .ok (.iaload, 1) := by decide +kernel
theorem dX7_thaws_105 : decode cX7_thaws 105 = .ok (.iconst 1, 1) := by decide +kernel
theorem dX7_thaws_106 : decode cX7_thaws 106 = .ok (.iadd, 1) := by decide +kernel
theorem dX7_thaws_107 : decode cX7_thaws 107 = .ok (.iastore, 1) := by decide +kernel
theorem dX7_thaws_108 : decode cX7_thaws 108 = .ok (.iload_n 1, 1) := by decide +kernel
theorem dX7_thaws_109 : decode cX7_thaws 109 = .ok (.ireturn, 1) := by decide +kernel
theorem dX7_thaw_0 : decode cX7_thaw 0 = .ok (.aload_n 0, 1) := by decide +kernel
theorem dX7_thaw_1 : decode cX7_thaw 1 = .ok (.iconst 0, 1) := by decide +kernel
theorem dX7_thaw_2 : decode cX7_thaw 2 = .ok (.putfield 39, 3) := by decide +kernel
theorem dX7_thaw_5 : decode cX7_thaw 5 = .ok (.aload_n 0, 1) := by decide +kernel
theorem dX7_thaw_6 : decode cX7_thaw 6 = .ok (.invokevirtual 105, 3) := by decide +kernel
theorem dX7_thaw_9 : decode cX7_thaw 9 = .ok (.aload_n 0, 1) := by decide +kernel
theorem dX7_thaw_10 : decode cX7_thaw 10 = .ok (.invokevirtual 114, 3) := by decide +kernel
theorem dX7_thaw_13 : decode cX7_thaw 13 = .ok (.ireturn, 1) := by decide +kernel
theorem dX7_hole_0 : decode cX7_hole 0 = .ok (.aload_n 0, 1) := by decide +kernel
theorem dX7_hole_1 : decode cX7_hole 1 = .ok (.iload_n 1, 1) := by decide +kernel
theorem dX7_hole_2 : decode cX7_hole 2 = .ok (.iload_n 2, 1) := by decide +kernel
theorem dX7_hole_3 : decode cX7_hole 3 = .ok (.invokestatic 50, 3) := by decide +kernel
theorem dX7_hole_6 : decode cX7_hole 6 = .ok (.ifCond .ne 7, 3) := by decide +kernel
theorem dX7_hole_9 : decode cX7_hole 9 = .ok (.iconst 1, 1) := by decide +kernel
theorem dX7_hole_10 : decode cX7_hole 10 = .ok (.goto 20, 3) := by decide +kernel
theorem dX7_hole_13 : decode cX7_hole 13 = .ok (.aload_n 0, 1) := by decide +kernel
theorem dX7_hole_14 : decode cX7_hole 14 = .ok (.iload_n 1, 1) := by decide +kernel
theorem dX7_hole_15 : decode cX7_hole 15 = .ok (.iload_n 2, 1) := by decide +kernel
theorem dX7_hole_16 : decode cX7_hole 16 = .ok (.invokestatic 54, 3) := by decide +kernel
theorem dX7_hole_19 : decode cX7_hole 19 = .ok (.invokevirtual 61, 3) := by decide +kernel
theorem dX7_hole_22 : decode cX7_hole 22 = .ok (.ifCond .eq 7, 3) := by decide +kernel
theorem dX7_hole_25 : decode cX7_hole 25 = .ok (.iconst 0, 1) := by decide +kernel
theorem dX7_hole_26 : decode cX7_hole 26 = .ok (.goto 4, 3) := by decide +kernel
theorem dX7_hole_29 : decode cX7_hole 29 = .ok (.iconst 2, 1) := by decide +kernel
theorem dX7_hole_30 : decode cX7_hole 30 = .ok (.invokevirtual 102, 3) := by decide +kernel
theorem dX7_hole_33 : decode cX7_hole 33 = .ok (.ifCond .eq 5, 3) := by decide +kernel
theorem dX7_hole_36 : decode cX7_hole 36 = .ok (.iconst 0, 1) := by decide +kernel
theorem dX7_hole_37 : decode cX7_hole 37 = .ok (.ireturn, 1) := by decide +kernel
theorem dX7_hole_38 : decode cX7_hole 38 = .ok (.aload_n 0, 1) := by decide +kernel
theorem dX7_hole_39 : decode cX7_hole 39 = .ok (.invokevirtual 105, 3) := by decide +kernel
theorem dX7_hole_42 : decode cX7_hole 42 = .ok (.aload_n 0, 1) := by decide +kernel
theorem dX7_hole_43 : decode cX7_hole 43 = .ok (.getfield 7, 3) := by decide +kernel
theorem dX7_hole_46 : decode cX7_hole 46 = .ok (.bipush 64, 2) := by decide +kernel
theorem dX7_hole_48 : decode cX7_hole 48 = .ok (.iload_n 1, 1) := by decide +kernel
theorem dX7_hole_49 : decode cX7_hole 49 = .ok (.iload_n 2, 1) := by decide +kernel
theorem dX7_hole_50 : decode cX7_hole 50 = .ok (.invokestatic 54, 3) := by decide +kernel
theorem dX7_hole_53 : decode cX7_hole 53 = .ok (.iadd, 1) := by decide +kernel
theorem dX7_hole_54 : decode cX7_hole 54 = .ok (.iaload, 1) := by decide +kernel
theorem dX7_hole_55 : decode cX7_hole 55 = .ok (.istore_n 3, 1) := by decide +kernel
theorem dX7_hole_56 : decode cX7_hole 56 = .ok (.aload_n 0, 1) := by decide +kernel
theorem dX7_hole_57 : decode cX7_hole 57 = .ok (.iload_n 1, 1) := by decide +kernel
theorem dX7_hole_58 : decode cX7_hole 58 = .ok (.iload_n 2, 1) := by decide +kernel
theorem dX7_hole_59 : decode cX7_hole 59 = .ok (.invokestatic 54, 3) := by decide +kernel
theorem dX7_hole_62 : decode cX7_hole 62 = .ok (.invokevirtual 85, 3) := by decide +kernel
theorem dX7_hole_65 : decode cX7_hole 65 = .ok (.iload_n 3, 1) := by decide +kernel
theorem dX7_hole_66 : decode cX7_hole 66 = .ok (.ireturn, 1) := by decide +kernel
theorem dX7_pay_0 : decode cX7_pay 0 = .ok (.aload_n 0, 1) := by decide +kernel
theorem dX7_pay_1 : decode cX7_pay 1 = .ok (.iload_n 1, 1) := by decide +kernel
theorem dX7_pay_2 : decode cX7_pay 2 = .ok (.invokestatic 99, 3) := by decide +kernel
theorem dX7_pay_5 : decode cX7_pay 5 = .ok (.ifCond .ne 7, 3) := by decide +kernel
theorem dX7_pay_8 : decode cX7_pay 8 = .ok (.iconst 1, 1) := by decide +kernel
theorem dX7_pay_9 : decode cX7_pay 9 = .ok (.goto 38, 3) := by decide +kernel
theorem dX7_pay_12 : decode cX7_pay 12 = .ok (.iload_n 2, 1) := by decide +kernel
theorem dX7_pay_13 : decode cX7_pay 13 = .ok (.iconst 1, 1) := by decide +kernel
theorem dX7_pay_14 : decode cX7_pay 14 = .ok (.bipush 99, 2) := by decide +kernel
theorem dX7_pay_16 : decode cX7_pay 16 = .ok (.invokestatic 43, 3) := by decide +kernel
theorem dX7_pay_19 : decode cX7_pay 19 = .ok (.ifCond .ne 7, 3) := by decide +kernel
theorem dX7_pay_22 : decode cX7_pay 22 = .ok (.iconst 2, 1) := by decide +kernel
theorem dX7_pay_23 : decode cX7_pay 23 = .ok (.goto 24, 3) := by decide +kernel
theorem dX7_pay_26 : decode cX7_pay 26 = .ok (.aload_n 0, 1) := by decide +kernel
theorem dX7_pay_27 : decode cX7_pay 27 = .ok (.getfield 7, 3) := by decide +kernel
theorem dX7_pay_30 : decode cX7_pay 30 = .ok (.sipush 440, 3) := by decide +kernel
theorem dX7_pay_33 : decode cX7_pay 33 = .ok (.iaload, 1) := by decide +kernel
theorem dX7_pay_34 : decode cX7_pay 34 = .ok (.iload_n 2, 1) := by decide +kernel
theorem dX7_pay_35 : decode cX7_pay 35 = .ok (.iadd, 1) := by decide +kernel
theorem dX7_pay_36 : decode cX7_pay 36 = .ok (.sipush 9999, 3) := by decide +kernel
theorem dX7_pay_39 : decode cX7_pay 39 = .ok (.if_icmp .le 7, 3) := by decide +kernel
theorem dX7_pay_42 : decode cX7_pay 42 = .ok (.iconst 3, 1) := by decide +kernel
theorem dX7_pay_43 : decode cX7_pay 43 = .ok (.goto 4, 3) := by decide +kernel
theorem dX7_pay_46 : decode cX7_pay 46 = .ok (.iconst 0, 1) := by decide +kernel
theorem dX7_pay_47 : decode cX7_pay 47 = .ok (.invokevirtual 102, 3) := by decide +kernel
theorem dX7_pay_50 : decode cX7_pay 50 = .ok (.ifCond .eq 5, 3) := by decide +kernel
theorem dX7_pay_53 : decode cX7_pay 53 = .ok (.iconst 0, 1) := by decide +kernel
theorem dX7_pay_54 : decode cX7_pay 54 = .ok (.ireturn, 1) := by decide +kernel
theorem dX7_pay_55 : decode cX7_pay 55 = .ok (.aload_n 0, 1) := by decide +kernel
theorem dX7_pay_56 : decode cX7_pay 56 = .ok (.invokevirtual 105, 3) := by decide +kernel
theorem dX7_pay_59 : decode cX7_pay 59 = .ok (.aload_n 0, 1) := by decide +kernel
theorem dX7_pay_60 : decode cX7_pay 60 = .ok (.getfield 7, 3) := by decide +kernel
theorem dX7_pay_63 : decode cX7_pay 63 = .ok (.iload_n 1, 1) := by decide +kernel
theorem dX7_pay_64 : decode cX7_pay 64 = .ok (.iconst 2, 1) := by decide +kernel
theorem dX7_pay_65 : decode cX7_pay 65 = .ok (.invokestatic 35, 3) := by decide +kernel
theorem dX7_pay_68 : decode cX7_pay 68 = .ok (.dup2, 1) := by decide +kernel
theorem dX7_pay_69 : decode cX7_pay 69 = .ok (.iaload, 1) := by decide +kernel
theorem dX7_pay_70 : decode cX7_pay 70 = .ok (.iload_n 2, 1) := by decide +kernel
theorem dX7_pay_71 : decode cX7_pay 71 = .ok (.iadd, 1) := by decide +kernel
theorem dX7_pay_72 : decode cX7_pay 72 = .ok (.iastore, 1) := by decide +kernel
theorem dX7_pay_73 : decode cX7_pay 73 = .ok (.aload_n 0, 1) := by decide +kernel
theorem dX7_pay_74 : decode cX7_pay 74 = .ok (.getfield 7, 3) := by decide +kernel
theorem dX7_pay_77 : decode cX7_pay 77 = .ok (.sipush 440, 3) := by decide +kernel
theorem dX7_pay_80 : decode cX7_pay 80 = .ok (.dup2, 1) := by decide +kernel
theorem dX7_pay_81 : decode cX7_pay 81 = .ok (.iaload, 1) := by decide +kernel
theorem dX7_pay_82 : decode cX7_pay 82 = .ok (.iload_n 2, 1) := by decide +kernel
theorem dX7_pay_83 : decode cX7_pay 83 = .ok (.iadd, 1) := by decide +kernel
theorem dX7_pay_84 : decode cX7_pay 84 = .ok (.iastore, 1) := by decide +kernel
theorem dX7_pay_85 : decode cX7_pay 85 = .ok (.aload_n 0, 1) := by decide +kernel
theorem dX7_pay_86 : decode cX7_pay 86 = .ok (.getfield 7, 3) := by decide +kernel
theorem dX7_pay_89 : decode cX7_pay 89 = .ok (.iload_n 1, 1) := by decide +kernel
theorem dX7_pay_90 : decode cX7_pay 90 = .ok (.iconst 2, 1) := by decide +kernel
theorem dX7_pay_91 : decode cX7_pay 91 = .ok (.invokestatic 35, 3) := by decide +kernel
theorem dX7_pay_94 : decode cX7_pay 94 = .ok (.iaload, 1) := by decide +kernel
theorem dX7_pay_95 : decode cX7_pay 95 = .ok (.ireturn, 1) := by decide +kernel
theorem dX7_isSetting_0 : decode cX7_isSetting 0 = .ok (.iload_n 0, 1) := by decide +kernel
theorem dX7_isSetting_1 : decode cX7_isSetting 1 = .ok (.iconst 0, 1) := by decide +kernel
theorem dX7_isSetting_2 : decode cX7_isSetting 2 = .ok (.iconst 2, 1) := by decide +kernel
theorem dX7_isSetting_3 : decode cX7_isSetting 3 = .ok (.invokestatic 43, 3) := by decide +kernel
theorem dX7_isSetting_6 : decode cX7_isSetting 6 = .ok (.ireturn, 1) := by decide +kernel
theorem dX7_set_0 : decode cX7_set 0 = .ok (.aload_n 0, 1) := by decide +kernel
theorem dX7_set_1 : decode cX7_set 1 = .ok (.iload_n 1, 1) := by decide +kernel
theorem dX7_set_2 : decode cX7_set 2 = .ok (.invokestatic 118, 3) := by decide +kernel
theorem dX7_set_5 : decode cX7_set 5 = .ok (.ifCond .ne 7, 3) := by decide +kernel
theorem dX7_set_8 : decode cX7_set 8 = .ok (.iconst 1, 1) := by decide +kernel
theorem dX7_set_9 : decode cX7_set 9 = .ok (.goto 35, 3) := by decide +kernel
theorem dX7_set_12 : decode cX7_set 12 = .ok (.iload_n 2, 1) := by decide +kernel
theorem dX7_set_13 : decode cX7_set 13 = .ok (.iload_n 1, 1) := by decide +kernel
theorem dX7_set_14 : decode cX7_set 14 = .ok (.ifCond .ne 7, 3) := by decide +kernel
theorem dX7_set_17 : decode cX7_set 17 = .ok (.iconst 0, 1) := by decide +kernel
theorem dX7_set_18 : decode cX7_set 18 = .ok (.goto 4, 3) := by decide +kernel
theorem dX7_set_21 : decode cX7_set 21 = .ok (.iconst 1, 1) := by decide +kernel
theorem dX7_set_22 : decode cX7_set 22 = .ok (.iload_n 1, 1) := by decide +kernel
theorem dX7_set_23 : decode cX7_set 23 = .ok (.iconst 2, 1) := by decide +kernel
theorem dX7_set_24 : decode cX7_set 24 = .ok (.if_icmp .ne 7, 3) := by decide +kernel
theorem dX7_set_27 : decode cX7_set 27 = .ok (.iconst 4, 1) := by decide +kernel
theorem dX7_set_28 : decode cX7_set 28 = .ok (.goto 5, 3) := by decide +kernel
theorem dX7_set_31 : decode cX7_set 31 = .ok (.bipush 9, 2) := by decide +kernel
theorem dX7_set_33 : decode cX7_set 33 = .ok (.invokestatic 43, 3) := by decide +kernel
theorem dX7_set_36 : decode cX7_set 36 = .ok (.ifCond .eq 7, 3) := by decide +kernel
theorem dX7_set_39 : decode cX7_set 39 = .ok (.iconst 0, 1) := by decide +kernel
theorem dX7_set_40 : decode cX7_set 40 = .ok (.goto 4, 3) := by decide +kernel
theorem dX7_set_43 : decode cX7_set 43 = .ok (.iconst 2, 1) := by decide +kernel
theorem dX7_set_44 : decode cX7_set 44 = .ok (.invokevirtual 102, 3) := by decide +kernel
theorem dX7_set_47 : decode cX7_set 47 = .ok (.ifCond .eq 5, 3) := by decide +kernel
theorem dX7_set_50 : decode cX7_set 50 = .ok (.iconst 0, 1) := by decide +kernel
theorem dX7_set_51 : decode cX7_set 51 = .ok (.ireturn, 1) := by decide +kernel
theorem dX7_set_52 : decode cX7_set 52 = .ok (.aload_n 0, 1) := by decide +kernel
theorem dX7_set_53 : decode cX7_set 53 = .ok (.invokevirtual 105, 3) := by decide +kernel
theorem dX7_set_56 : decode cX7_set 56 = .ok (.aload_n 0, 1) := by decide +kernel
theorem dX7_set_57 : decode cX7_set 57 = .ok (.getfield 7, 3) := by decide +kernel
theorem dX7_set_60 : decode cX7_set 60 = .ok (.sipush 434, 3) := by decide +kernel
theorem dX7_set_63 : decode cX7_set 63 = .ok (.iload_n 1, 1) := by decide +kernel
theorem dX7_set_64 : decode cX7_set 64 = .ok (.iadd, 1) := by decide +kernel
theorem dX7_set_65 : decode cX7_set 65 = .ok (.iaload, 1) := by decide +kernel
theorem dX7_set_66 : decode cX7_set 66 = .ok (.istore_n 3, 1) := by decide +kernel
theorem dX7_set_67 : decode cX7_set 67 = .ok (.aload_n 0, 1) := by decide +kernel
theorem dX7_set_68 : decode cX7_set 68 = .ok (.getfield 7, 3) := by decide +kernel
theorem dX7_set_71 : decode cX7_set 71 = .ok (.sipush 434, 3) := by decide +kernel
theorem dX7_set_74 : decode cX7_set 74 = .ok (.iload_n 1, 1) := by decide +kernel
theorem dX7_set_75 : decode cX7_set 75 = .ok (.iadd, 1) := by decide +kernel
theorem dX7_set_76 : decode cX7_set 76 = .ok (.iload_n 2, 1) := by decide +kernel
theorem dX7_set_77 : decode cX7_set 77 = .ok (.iastore, 1) := by decide +kernel
theorem dX7_set_78 : decode cX7_set 78 = .ok (.iload_n 3, 1) := by decide +kernel
theorem dX7_set_79 : decode cX7_set 79 = .ok (.ireturn, 1) := by decide +kernel
theorem dX7_append_0 : decode cX7_append 0 = .ok (.aload_n 0, 1) := by decide +kernel
theorem dX7_append_1 : decode cX7_append 1 = .ok (.iload_n 1, 1) := by decide +kernel
theorem dX7_append_2 : decode cX7_append 2 = .ok (.bipush 33, 2) := by decide +kernel
theorem dX7_append_4 : decode cX7_append 4 = .ok (.bipush 126, 2) := by decide +kernel
theorem dX7_append_6 : decode cX7_append 6 = .ok (.invokestatic 43, 3) := by decide +kernel
theorem dX7_append_9 : decode cX7_append 9 = .ok (.ifCond .ne 7, 3) := by decide +kernel
theorem dX7_append_12 : decode cX7_append 12 = .ok (.iconst 1, 1) := by decide +kernel
theorem dX7_append_13 : decode cX7_append 13 = .ok (.goto 17, 3) := by decide +kernel
theorem dX7_append_16 : decode cX7_append 16 = .ok (.aload_n 0, 1) := by decide +kernel
theorem dX7_append_17 : decode cX7_append 17 = .ok (.getfield 121, 3) := by decide +kernel
theorem dX7_append_20 : decode cX7_append 20 = .ok (.bipush 60, 2) := by decide +kernel
theorem dX7_append_22 : decode cX7_append 22 = .ok (.if_icmp .ne 7, 3) := by decide +kernel
theorem dX7_append_25 : decode cX7_append 25 = .ok (.iconst 2, 1) := by decide +kernel
theorem dX7_append_26 : decode cX7_append 26 = .ok (.goto 4, 3) := by decide +kernel
theorem dX7_append_29 : decode cX7_append 29 = .ok (.iconst 0, 1) := by decide +kernel
theorem dX7_append_30 : decode cX7_append 30 = .ok (.invokevirtual 102, 3) := by decide +kernel
theorem dX7_append_33 : decode cX7_append 33 = .ok (.ifCond .eq 5, 3) := by decide +kernel
theorem dX7_append_36 : decode cX7_append 36 = .ok (.iconst 0, 1) := by decide +kernel
theorem dX7_append_37 : decode cX7_append 37 = .ok (.ireturn, 1) := by decide +kernel
theorem dX7_append_38 : decode cX7_append 38 = .ok (.aload_n 0, 1) := by decide +kernel
theorem dX7_append_39 : decode cX7_append 39 = .ok (.getfield 22, 3) := by decide +kernel
theorem dX7_append_42 : decode cX7_append 42 = .ok (.aload_n 0, 1) := by decide +kernel
theorem dX7_append_43 : decode cX7_append 43 = .ok (.getfield 121, 3) := by decide +kernel
theorem dX7_append_46 : decode cX7_append 46 = .ok (.iload_n 1, 1) := by decide +kernel
theorem dX7_append_47 : decode cX7_append 47 = .ok (.iastore, 1) := by decide +kernel
theorem dX7_append_48 : decode cX7_append 48 = .ok (.aload_n 0, 1) := by decide +kernel
theorem dX7_append_49 : decode cX7_append 49 = .ok (.dup, 1) := by decide +kernel
theorem dX7_append_50 : decode cX7_append 50 = .ok (.getfield 121, 3) := by decide +kernel
theorem dX7_append_53 : decode cX7_append 53 = .ok (.iconst 1, 1) := by decide +kernel
theorem dX7_append_54 : decode cX7_append 54 = .ok (.iadd, 1) := by decide +kernel
theorem dX7_append_55 : decode cX7_append 55 = .ok (.putfield 121, 3) := by decide +kernel
theorem dX7_append_58 : decode cX7_append 58 = .ok (.aload_n 0, 1) := by decide +kernel
theorem dX7_append_59 : decode cX7_append 59 = .ok (.getfield 121, 3) := by decide +kernel
theorem dX7_append_62 : decode cX7_append 62 = .ok (.ireturn, 1) := by decide +kernel
theorem dX7_clearBuffer_0 : decode cX7_clearBuffer 0 = .ok (.aload_n 0, 1) := by decide +kernel
theorem dX7_clearBuffer_1 : decode cX7_clearBuffer 1 = .ok (.iconst 0, 1) := by decide +kernel
theorem dX7_clearBuffer_2 : decode cX7_clearBuffer 2 = .ok (.putfield 39, 3) := by decide +kernel
theorem dX7_clearBuffer_5 : decode cX7_clearBuffer 5 = .ok (.aload_n 0, 1) := by decide +kernel
theorem dX7_clearBuffer_6 : decode cX7_clearBuffer 6 = .ok (.getfield 121, 3) := by decide +kernel
theorem dX7_clearBuffer_9 : decode cX7_clearBuffer 9 = .ok (.istore_n 1, 1) := by decide +kernel
theorem dX7_clearBuffer_10 : decode cX7_clearBuffer 10 = .ok (.aload_n 0, 1) := by decide +kernel
theorem dX7_clearBuffer_11 : decode cX7_clearBuffer 11 = .ok (.iconst 0, 1) := by decide +kernel
theorem dX7_clearBuffer_12 : decode cX7_clearBuffer 12 = .ok (.putfield 121, 3) := by decide +kernel
theorem dX7_clearBuffer_15 : decode cX7_clearBuffer 15 = .ok (.iload_n 1, 1) := by decide +kernel
theorem dX7_clearBuffer_16 : decode cX7_clearBuffer 16 = .ok (.ireturn, 1) := by decide +kernel
theorem dX7_directionOf_0 : decode cX7_directionOf 0 = .ok (.iload_n 0, 1) := by decide +kernel
theorem dX7_directionOf_1 : decode cX7_directionOf 1 = .ok (.bipush 110, 2) := by decide +kernel
theorem dX7_directionOf_3 : decode cX7_directionOf 3 = .ok (.if_icmp .ne 7, 3) := by decide +kernel
theorem dX7_directionOf_6 : decode cX7_directionOf 6 = .ok (.iconst 0, 1) := by decide +kernel
theorem dX7_directionOf_7 : decode cX7_directionOf 7 = .ok (.goto 34, 3) := by decide +kernel
theorem dX7_directionOf_10 : decode cX7_directionOf 10 = .ok (.iload_n 0, 1) := by decide +kernel
theorem dX7_directionOf_11 : decode cX7_directionOf 11 = .ok (.bipush 101, 2) := by decide +kernel
theorem dX7_directionOf_13 : decode cX7_directionOf 13 = .ok (.if_icmp .ne 7, 3) := by decide +kernel
theorem dX7_directionOf_16 : decode cX7_directionOf 16 = .ok (.iconst 1, 1) := by decide +kernel
theorem dX7_directionOf_17 : decode cX7_directionOf 17 = .ok (.goto 24, 3) := by decide +kernel
theorem dX7_directionOf_20 : decode cX7_directionOf 20 = .ok (.iload_n 0, 1) := by decide +kernel
theorem dX7_directionOf_21 : decode cX7_directionOf 21 = .ok (.bipush 115, 2) := by decide +kernel
theorem dX7_directionOf_23 : decode cX7_directionOf 23 = .ok (.if_icmp .ne 7, 3) := by decide +kernel
theorem dX7_directionOf_26 : decode cX7_directionOf 26 = .ok (.iconst 2, 1) := by decide +kernel
theorem dX7_directionOf_27 : decode cX7_directionOf 27 = .ok (.goto 14, 3) := by decide +kernel
theorem dX7_directionOf_30 : decode cX7_directionOf 30 = .ok (.iload_n 0, 1) := by decide +kernel
theorem dX7_directionOf_31 : decode cX7_directionOf 31 = .ok (.bipush 119, 2) := by decide +kernel
theorem dX7_directionOf_33 : decode cX7_directionOf 33 = .ok (.if_icmp .ne 7, 3) := by decide +kernel
theorem dX7_directionOf_36 : decode cX7_directionOf 36 = .ok (.iconst 3, 1) := by decide +kernel
theorem dX7_directionOf_37 : decode cX7_directionOf 37 = .ok (.goto 4, 3) := by decide +kernel
theorem dX7_directionOf_40 : decode cX7_directionOf 40 = .ok (.iconst (-1), 1) := by decide +kernel
theorem dX7_directionOf_41 : decode cX7_directionOf 41 = .ok (.ireturn, 1) := by decide +kernel
theorem dX7_isRight_0 : decode cX7_isRight 0 = .ok (.iload_n 0, 1) := by decide +kernel
theorem dX7_isRight_1 : decode cX7_isRight 1 = .ok (.tableswitch 72 0 2 #[27, 50, 63], 27) := by decide +kernel
theorem dX7_isRight_28 : decode cX7_isRight 28 = .ok (.iload_n 1, 1) := by decide +kernel
theorem dX7_isRight_29 : decode cX7_isRight 29 = .ok (.bipush 48, 2) := by decide +kernel
theorem dX7_isRight_31 : decode cX7_isRight 31 = .ok (.bipush 50, 2) := by decide +kernel
theorem dX7_isRight_33 : decode cX7_isRight 33 = .ok (.invokestatic 43, 3) := by decide +kernel
theorem dX7_isRight_36 : decode cX7_isRight 36 = .ok (.ifCond .ne 9, 3) := by decide +kernel
theorem dX7_isRight_39 : decode cX7_isRight 39 = .ok (.iload_n 1, 1) := by decide +kernel
theorem dX7_isRight_40 : decode cX7_isRight 40 = .ok (.bipush 116, 2) := by decide +kernel
theorem dX7_isRight_42 : decode cX7_isRight 42 = .ok (.if_icmp .ne 7, 3) := by decide +kernel
theorem dX7_isRight_45 : decode cX7_isRight 45 = .ok (.iconst 1, 1) := by decide +kernel
theorem dX7_isRight_46 : decode cX7_isRight 46 = .ok (.goto 4, 3) := by decide +kernel
theorem dX7_isRight_49 : decode cX7_isRight 49 = .ok (.iconst 0, 1) := by decide +kernel
theorem dX7_isRight_50 : decode cX7_isRight 50 = .ok (.ireturn, 1) := by decide +kernel
theorem dX7_isRight_51 : decode cX7_isRight 51 = .ok (.iload_n 1, 1) := by decide +kernel
theorem dX7_isRight_52 : decode cX7_isRight 52 = .ok (.invokestatic 124, 3) := by decide +kernel
theorem dX7_isRight_55 : decode cX7_isRight 55 = .ok (.ifCond .lt 7, 3) := by decide +kernel
theorem dX7_isRight_58 : decode cX7_isRight 58 = .ok (.iconst 1, 1) := by decide +kernel
theorem dX7_isRight_59 : decode cX7_isRight 59 = .ok (.goto 4, 3) := by decide +kernel
theorem dX7_isRight_62 : decode cX7_isRight 62 = .ok (.iconst 0, 1) := by decide +kernel
theorem dX7_isRight_63 : decode cX7_isRight 63 = .ok (.ireturn, 1) := by decide +kernel
theorem dX7_isRight_64 : decode cX7_isRight 64 = .ok (.iload_n 1, 1) := by decide +kernel
theorem dX7_isRight_65 : decode cX7_isRight 65 = .ok (.bipush 49, 2) := by decide +kernel
theorem dX7_isRight_67 : decode cX7_isRight 67 = .ok (.bipush 56, 2) := by decide +kernel
theorem dX7_isRight_69 : decode cX7_isRight 69 = .ok (.invokestatic 43, 3) := by decide +kernel
theorem dX7_isRight_72 : decode cX7_isRight 72 = .ok (.ireturn, 1) := by decide +kernel
theorem dX7_isRight_73 : decode cX7_isRight 73 = .ok (.iload_n 1, 1) := by decide +kernel
theorem dX7_isRight_74 : decode cX7_isRight 74 = .ok (.bipush 59, 2) := by decide +kernel
theorem dX7_isRight_76 : decode cX7_isRight 76 = .ok (.if_icmp .ne 7, 3) := by decide +kernel
theorem dX7_isRight_79 : decode cX7_isRight 79 = .ok (.iconst 1, 1) := by decide +kernel
theorem dX7_isRight_80 : decode cX7_isRight 80 = .ok (.goto 4, 3) := by decide +kernel
theorem dX7_isRight_83 : decode cX7_isRight 83 = .ok (.iconst 0, 1) := by decide +kernel
theorem dX7_isRight_84 : decode cX7_isRight 84 = .ok (.ireturn, 1) := by decide +kernel
theorem dX7_error_0 : decode cX7_error 0 = .ok (.iconst 0, 1) := by decide +kernel
theorem dX7_error_1 : decode cX7_error 1 = .ok (.istore_n 1, 1) := by decide +kernel
theorem dX7_error_2 : decode cX7_error 2 = .ok (.iconst 0, 1) := by decide +kernel
theorem dX7_error_3 : decode cX7_error 3 = .ok (.istore_n 2, 1) := by decide +kernel
theorem dX7_error_4 : decode cX7_error 4 = .ok (.iload_n 2, 1) := by decide +kernel
theorem dX7_error_5 : decode cX7_error 5 = .ok (.aload_n 0, 1) := by decide +kernel
theorem dX7_error_6 : decode cX7_error 6 = .ok (.getfield 121, 3) := by decide +kernel
theorem dX7_error_9 : decode cX7_error 9 = .ok (.if_icmp .ge 50, 3) := by decide +kernel
theorem dX7_error_12 : decode cX7_error 12 = .ok (.iload_n 1, 1) := by decide +kernel
theorem dX7_error_13 : decode cX7_error 13 = .ok (.aload_n 0, 1) := by decide +kernel
theorem dX7_error_14 : decode cX7_error 14 = .ok (.getfield 22, 3) := by decide +kernel
theorem dX7_error_17 : decode cX7_error 17 = .ok (.iload_n 2, 1) := by decide +kernel
theorem dX7_error_18 : decode cX7_error 18 = .ok (.iaload, 1) := by decide +kernel
theorem dX7_error_19 : decode cX7_error 19 = .ok (.invokestatic 127, 3) := by decide +kernel
theorem dX7_error_22 : decode cX7_error 22 = .ok (.ifCond .ne 10, 3) := by decide +kernel
theorem dX7_error_25 : decode cX7_error 25 = .ok (.aload_n 0, 1) := by decide +kernel
theorem dX7_error_26 : decode cX7_error 26 = .ok (.iconst (-1), 1) := by decide +kernel
theorem dX7_error_27 : decode cX7_error 27 = .ok (.putfield 130, 3) := by decide +kernel
theorem dX7_error_30 : decode cX7_error 30 = .ok (.iload_n 2, 1) := by decide +kernel
theorem dX7_error_31 : decode cX7_error 31 = .ok (.ireturn, 1) := by decide +kernel
theorem dX7_error_32 : decode cX7_error 32 = .ok (.aload_n 0, 1) := by decide +kernel
theorem dX7_error_33 : decode cX7_error 33 = .ok (.getfield 22, 3) := by decide +kernel
theorem dX7_error_36 : decode cX7_error 36 = .ok (.iload_n 2, 1) := by decide +kernel
theorem dX7_error_37 : decode cX7_error 37 = .ok (.iaload, 1) := by decide +kernel
theorem dX7_error_38 : decode cX7_error 38 = .ok (.bipush 116, 2) := by decide +kernel
theorem dX7_error_40 : decode cX7_error 40 = .ok (.if_icmp .ne 7, 3) := by decide +kernel
theorem dX7_error_43 : decode cX7_error 43 = .ok (.iconst 3, 1) := by decide +kernel
theorem dX7_error_44 : decode cX7_error 44 = .ok (.goto 8, 3) := by decide +kernel
theorem dX7_error_47 : decode cX7_error 47 = .ok (.iload_n 1, 1) := by decide +kernel
theorem dX7_error_48 : decode cX7_error 48 = .ok (.iconst 1, 1) := by decide +kernel
theorem dX7_error_49 : decode cX7_error 49 = .ok (.iadd, 1) := by decide +kernel
theorem dX7_error_50 : decode cX7_error 50 = .ok (.iconst 4, 1) := by decide +kernel
theorem dX7_error_51 : decode cX7_error 51 = .ok (.irem, 1) := by decide +kernel
theorem dX7_error_52 : decode cX7_error 52 = .ok (.istore_n 1, 1) := by decide +kernel
theorem dX7_error_53 : decode cX7_error 53 = .ok (.iinc 2 1, 3) := by decide +kernel
theorem dX7_error_56 : decode cX7_error 56 = .ok (.goto (-52), 3) := by decide +kernel
theorem dX7_error_59 : decode cX7_error 59 = .ok (.aload_n 0, 1) := by decide +kernel
theorem dX7_error_60 : decode cX7_error 60 = .ok (.iload_n 1, 1) := by decide +kernel
theorem dX7_error_61 : decode cX7_error 61 = .ok (.putfield 130, 3) := by decide +kernel
theorem dX7_error_64 : decode cX7_error 64 = .ok (.aload_n 0, 1) := by decide +kernel
theorem dX7_error_65 : decode cX7_error 65 = .ok (.getfield 121, 3) := by decide +kernel
theorem dX7_error_68 : decode cX7_error 68 = .ok (.ireturn, 1) := by decide +kernel
theorem dX7_firstError_0 : decode cX7_firstError 0 = .ok (.aload_n 0, 1) := by decide +kernel
theorem dX7_firstError_1 : decode cX7_firstError 1 = .ok (.iconst 0, 1) := by decide +kernel
theorem dX7_firstError_2 : decode cX7_firstError 2 = .ok (.putfield 39, 3) := by decide +kernel
theorem dX7_firstError_5 : decode cX7_firstError 5 = .ok (.aload_n 0, 1) := by decide +kernel
theorem dX7_firstError_6 : decode cX7_firstError 6 = .ok (.invokevirtual 133, 3) := by decide +kernel
theorem dX7_firstError_9 : decode cX7_firstError 9 = .ok (.ireturn, 1) := by decide +kernel
theorem dX7_isWhole_0 : decode cX7_isWhole 0 = .ok (.aload_n 0, 1) := by decide +kernel
theorem dX7_isWhole_1 : decode cX7_isWhole 1 = .ok (.invokevirtual 133, 3) := by decide +kernel
theorem dX7_isWhole_4 : decode cX7_isWhole 4 = .ok (.aload_n 0, 1) := by decide +kernel
theorem dX7_isWhole_5 : decode cX7_isWhole 5 = .ok (.getfield 121, 3) := by decide +kernel
theorem dX7_isWhole_8 : decode cX7_isWhole 8 = .ok (.if_icmp .ne 15, 3) := by decide +kernel
theorem dX7_isWhole_11 : decode cX7_isWhole 11 = .ok (.aload_n 0, 1) := by decide +kernel
theorem dX7_isWhole_12 : decode cX7_isWhole 12 = .ok (.getfield 130, 3) := by decide +kernel
theorem dX7_isWhole_15 : decode cX7_isWhole 15 = .ok (.iconst 3, 1) := by decide +kernel
theorem dX7_isWhole_16 : decode cX7_isWhole 16 = .ok (.if_icmp .ne 7, 3) := by decide +kernel
theorem dX7_isWhole_19 : decode cX7_isWhole 19 = .ok (.iconst 1, 1) := by decide +kernel
theorem dX7_isWhole_20 : decode cX7_isWhole 20 = .ok (.goto 4, 3) := by decide +kernel
theorem dX7_isWhole_23 : decode cX7_isWhole 23 = .ok (.iconst 0, 1) := by decide +kernel
theorem dX7_isWhole_24 : decode cX7_isWhole 24 = .ok (.ireturn, 1) := by decide +kernel
theorem dX7_play_0 : decode cX7_play 0 = .ok (.aload_n 0, 1) := by decide +kernel
theorem dX7_play_1 : decode cX7_play 1 = .ok (.aload_n 0, 1) := by decide +kernel
theorem dX7_play_2 : decode cX7_play 2 = .ok (.invokevirtual 136, 3) := by decide +kernel
theorem dX7_play_5 : decode cX7_play 5 = .ok (.ifCond .eq 7, 3) := by decide +kernel
theorem dX7_play_8 : decode cX7_play 8 = .ok (.iconst 0, 1) := by decide +kernel
theorem dX7_play_9 : decode cX7_play 9 = .ok (.goto 4, 3) := by decide +kernel
theorem dX7_play_12 : decode cX7_play 12 = .ok (.iconst 1, 1) := by decide +kernel
theorem dX7_play_13 : decode cX7_play 13 = .ok (.invokevirtual 102, 3) := by decide +kernel
theorem dX7_play_16 : decode cX7_play 16 = .ok (.ifCond .eq 5, 3) := by decide +kernel
theorem dX7_play_19 : decode cX7_play 19 = .ok (.iconst 0, 1) := by decide +kernel
theorem dX7_play_20 : decode cX7_play 20 = .ok (.ireturn, 1) := by decide +kernel
theorem dX7_play_21 : decode cX7_play 21 = .ok (.aload_n 0, 1) := by decide +kernel
theorem dX7_play_22 : decode cX7_play 22 = .ok (.invokevirtual 105, 3) := by decide +kernel
theorem dX7_play_25 : decode cX7_play 25 = .ok (.iconst 0, 1) := by decide +kernel
theorem dX7_play_26 : decode cX7_play 26 = .ok (.istore_n 1, 1) := by decide +kernel
theorem dX7_play_27 : decode cX7_play 27 = .ok (.iconst 0, 1) := by decide +kernel
theorem dX7_play_28 : decode cX7_play 28 = .ok (.istore_n 2, 1) := by decide +kernel
theorem dX7_play_29 : decode cX7_play 29 = .ok (.iconst 1, 1) := by decide +kernel
theorem dX7_play_30 : decode cX7_play 30 = .ok (.istore_n 3, 1) := by decide +kernel
theorem dX7_play_31 : decode cX7_play 31 = .ok (.iload_n 3, 1) := by decide +kernel
theorem dX7_play_32 : decode cX7_play 32 = .ok (.ifCond .eq 99, 3) := by decide +kernel
theorem dX7_play_35 : decode cX7_play 35 = .ok (.iload_n 2, 1) := by decide +kernel
theorem dX7_play_36 : decode cX7_play 36 = .ok (.aload_n 0, 1) := by decide +kernel
theorem dX7_play_37 : decode cX7_play 37 = .ok (.getfield 121, 3) := by decide +kernel
theorem dX7_play_40 : decode cX7_play 40 = .ok (.if_icmp .ge 91, 3) := by decide +kernel
theorem dX7_play_43 : decode cX7_play 43 = .ok (.aload_n 0, 1) := by decide +kernel
theorem dX7_play_44 : decode cX7_play 44 = .ok (.getfield 22, 3) := by decide +kernel
theorem dX7_play_47 : decode cX7_play 47 = .ok (.iload_n 2, 1) := by decide +kernel
theorem dX7_play_48 : decode cX7_play 48 = .ok (.iaload, 1) := by decide +kernel
theorem dX7_play_49 : decode cX7_play 49 = .ok (.bipush 116, 2) := by decide +kernel
theorem dX7_play_51 : decode cX7_play 51 = .ok (.if_icmp .ne 15, 3) := by decide +kernel
theorem dX7_play_54 : decode cX7_play 54 = .ok (.aload_n 0, 1) := by decide +kernel
theorem dX7_play_55 : decode cX7_play 55 = .ok (.invokevirtual 114, 3) := by decide +kernel
theorem dX7_play_58 : decode cX7_play 58 = .ok (.istore 4, 2) := by decide +kernel
theorem dX7_play_60 : decode cX7_play 60 = .ok (.iinc 2 2, 3) := by decide +kernel
theorem dX7_play_63 : decode cX7_play 63 = .ok (.goto (-32), 3) := by decide +kernel
theorem dX7_play_66 : decode cX7_play 66 = .ok (.aload_n 0, 1) := by decide +kernel
theorem dX7_play_67 : decode cX7_play 67 = .ok (.getfield 22, 3) := by decide +kernel
theorem dX7_play_70 : decode cX7_play 70 = .ok (.iload_n 2, 1) := by decide +kernel
theorem dX7_play_71 : decode cX7_play 71 = .ok (.iconst 2, 1) := by decide +kernel
theorem dX7_play_72 : decode cX7_play 72 = .ok (.iadd, 1) := by decide +kernel
theorem dX7_play_73 : decode cX7_play 73 = .ok (.iaload, 1) := by decide +kernel
theorem dX7_play_74 : decode cX7_play 74 = .ok (.bipush 48, 2) := by decide +kernel
theorem dX7_play_76 : decode cX7_play 76 = .ok (.isub, 1) := by decide +kernel
theorem dX7_play_77 : decode cX7_play 77 = .ok (.istore 4, 2) := by decide +kernel
theorem dX7_play_79 : decode cX7_play 79 = .ok (.aload_n 0, 1) := by decide +kernel
theorem dX7_play_80 : decode cX7_play 80 = .ok (.aload_n 0, 1) := by decide +kernel
theorem dX7_play_81 : decode cX7_play 81 = .ok (.getfield 22, 3) := by decide +kernel
theorem dX7_play_84 : decode cX7_play 84 = .ok (.iload_n 2, 1) := by decide +kernel
theorem dX7_play_85 : decode cX7_play 85 = .ok (.iaload, 1) := by decide +kernel
theorem dX7_play_86 : decode cX7_play 86 = .ok (.bipush 48, 2) := by decide +kernel
theorem dX7_play_88 : decode cX7_play 88 = .ok (.isub, 1) := by decide +kernel
theorem dX7_play_89 : decode cX7_play 89 = .ok (.aload_n 0, 1) := by decide +kernel
theorem dX7_play_90 : decode cX7_play 90 = .ok (.getfield 22, 3) := by decide +kernel
theorem dX7_play_93 : decode cX7_play 93 = .ok (.iload_n 2, 1) := by decide +kernel
theorem dX7_play_94 : decode cX7_play 94 = .ok (.iconst 1, 1) := by decide +kernel
theorem dX7_play_95 : decode cX7_play 95 = .ok (.iadd, 1) := by decide +kernel
theorem dX7_play_96 : decode cX7_play 96 = .ok (.iaload, 1) := by decide +kernel
theorem dX7_play_97 : decode cX7_play 97 = .ok (.invokestatic 124, 3) := by decide +kernel
theorem dX7_play_100 : decode cX7_play 100 = .ok (.iload 4, 2) := by decide +kernel
theorem dX7_play_102 : decode cX7_play 102 = .ok (.invokevirtual 108, 3) := by decide +kernel
theorem dX7_play_105 : decode cX7_play 105 = .ok (.istore 5, 2) := by decide +kernel
theorem dX7_play_107 : decode cX7_play 107 = .ok (.iload_n 1, 1) := by decide +kernel
theorem dX7_play_108 : decode cX7_play 108 = .ok (.iload 5, 2) := by decide +kernel
theorem dX7_play_110 : decode cX7_play 110 = .ok (.iadd, 1) := by decide +kernel
theorem dX7_play_111 : decode cX7_play 111 = .ok (.istore_n 1, 1) := by decide +kernel
theorem dX7_play_112 : decode cX7_play 112 = .ok (.iload 5, 2) := by decide +kernel
theorem dX7_play_114 : decode cX7_play 114 = .ok (.iload 4, 2) := by decide +kernel
theorem dX7_play_116 : decode cX7_play 116 = .ok (.if_icmp .ne 7, 3) := by decide +kernel
theorem dX7_play_119 : decode cX7_play 119 = .ok (.iconst 1, 1) := by decide +kernel
theorem dX7_play_120 : decode cX7_play 120 = .ok (.goto 4, 3) := by decide +kernel
theorem dX7_play_123 : decode cX7_play 123 = .ok (.iconst 0, 1) := by decide +kernel
theorem dX7_play_124 : decode cX7_play 124 = .ok (.istore_n 3, 1) := by decide +kernel
theorem dX7_play_125 : decode cX7_play 125 = .ok (.iinc 2 4, 3) := by decide +kernel
theorem dX7_play_128 : decode cX7_play 128 = .ok (.goto (-97), 3) := by decide +kernel
theorem dX7_play_131 : decode cX7_play 131 = .ok (.aload_n 0, 1) := by decide +kernel
theorem dX7_play_132 : decode cX7_play 132 = .ok (.iconst 0, 1) := by decide +kernel
theorem dX7_play_133 : decode cX7_play 133 = .ok (.putfield 121, 3) := by decide +kernel
theorem dX7_play_136 : decode cX7_play 136 = .ok (.iload_n 1, 1) := by decide +kernel
theorem dX7_play_137 : decode cX7_play 137 = .ok (.ireturn, 1) := by decide +kernel
theorem dX7_ice_0 : decode cX7_ice 0 = .ok (.iconst 0, 1) := by decide +kernel
theorem dX7_ice_1 : decode cX7_ice 1 = .ok (.istore_n 1, 1) := by decide +kernel
theorem dX7_ice_2 : decode cX7_ice 2 = .ok (.iconst 0, 1) := by decide +kernel
theorem dX7_ice_3 : decode cX7_ice 3 = .ok (.istore_n 2, 1) := by decide +kernel
theorem dX7_ice_4 : decode cX7_ice 4 = .ok (.iload_n 2, 1) := by decide +kernel
theorem dX7_ice_5 : decode cX7_ice 5 = .ok (.bipush 64, 2) := by decide +kernel
theorem dX7_ice_7 : decode cX7_ice 7 = .ok (.if_icmp .ge 20, 3) := by decide +kernel
theorem dX7_ice_10 : decode cX7_ice 10 = .ok (.iload_n 1, 1) := by decide +kernel
theorem dX7_ice_11 : decode cX7_ice 11 = .ok (.aload_n 0, 1) := by decide +kernel
theorem dX7_ice_12 : decode cX7_ice 12 = .ok (.getfield 7, 3) := by decide +kernel
theorem dX7_ice_15 : decode cX7_ice 15 = .ok (.iconst 0, 1) := by decide +kernel
theorem dX7_ice_16 : decode cX7_ice 16 = .ok (.iload_n 2, 1) := by decide +kernel
theorem dX7_ice_17 : decode cX7_ice 17 = .ok (.iadd, 1) := by decide +kernel
theorem dX7_ice_18 : decode cX7_ice 18 = .ok (.iaload, 1) := by decide +kernel
theorem dX7_ice_19 : decode cX7_ice 19 = .ok (.iadd, 1) := by decide +kernel
theorem dX7_ice_20 : decode cX7_ice 20 = .ok (.istore_n 1, 1) := by decide +kernel
theorem dX7_ice_21 : decode cX7_ice 21 = .ok (.iinc 2 1, 3) := by decide +kernel
theorem dX7_ice_24 : decode cX7_ice 24 = .ok (.goto (-20), 3) := by decide +kernel
theorem dX7_ice_27 : decode cX7_ice 27 = .ok (.iload_n 1, 1) := by decide +kernel
theorem dX7_ice_28 : decode cX7_ice 28 = .ok (.ireturn, 1) := by decide +kernel
theorem dX7_keep_0 : decode cX7_keep 0 = .ok (.aload_n 0, 1) := by decide +kernel
theorem dX7_keep_1 : decode cX7_keep 1 = .ok (.iconst 0, 1) := by decide +kernel
theorem dX7_keep_2 : decode cX7_keep 2 = .ok (.putfield 39, 3) := by decide +kernel
theorem dX7_keep_5 : decode cX7_keep 5 = .ok (.iconst 0, 1) := by decide +kernel
theorem dX7_keep_6 : decode cX7_keep 6 = .ok (.istore_n 1, 1) := by decide +kernel
theorem dX7_keep_7 : decode cX7_keep 7 = .ok (.iload_n 1, 1) := by decide +kernel
theorem dX7_keep_8 : decode cX7_keep 8 = .ok (.sipush 441, 3) := by decide +kernel
theorem dX7_keep_11 : decode cX7_keep 11 = .ok (.if_icmp .ge 21, 3) := by decide +kernel
theorem dX7_keep_14 : decode cX7_keep 14 = .ok (.aload_n 0, 1) := by decide +kernel
theorem dX7_keep_15 : decode cX7_keep 15 = .ok (.getfield 19, 3) := by decide +kernel
theorem dX7_keep_18 : decode cX7_keep 18 = .ok (.iload_n 1, 1) := by decide +kernel
theorem dX7_keep_19 : decode cX7_keep 19 = .ok (.aload_n 0, 1) := by decide +kernel
theorem dX7_keep_20 : decode cX7_keep 20 = .ok (.getfield 7, 3) := by decide +kernel
theorem dX7_keep_23 : decode cX7_keep 23 = .ok (.iload_n 1, 1) := by decide +kernel
theorem dX7_keep_24 : decode cX7_keep 24 = .ok (.iaload, 1) := by decide +kernel
theorem dX7_keep_25 : decode cX7_keep 25 = .ok (.iastore, 1) := by decide +kernel
theorem dX7_keep_26 : decode cX7_keep 26 = .ok (.iinc 1 1, 3) := by decide +kernel
theorem dX7_keep_29 : decode cX7_keep 29 = .ok (.goto (-22), 3) := by decide +kernel
theorem dX7_keep_32 : decode cX7_keep 32 = .ok (.aload_n 0, 1) := by decide +kernel
theorem dX7_keep_33 : decode cX7_keep 33 = .ok (.iconst 1, 1) := by decide +kernel
theorem dX7_keep_34 : decode cX7_keep 34 = .ok (.putfield 140, 3) := by decide +kernel
theorem dX7_keep_37 : decode cX7_keep 37 = .ok (.aload_n 0, 1) := by decide +kernel
theorem dX7_keep_38 : decode cX7_keep 38 = .ok (.invokevirtual 144, 3) := by decide +kernel
theorem dX7_keep_41 : decode cX7_keep 41 = .ok (.ireturn, 1) := by decide +kernel
theorem dX7_goBack_0 : decode cX7_goBack 0 = .ok (.aload_n 0, 1) := by decide +kernel
theorem dX7_goBack_1 : decode cX7_goBack 1 = .ok (.aload_n 0, 1) := by decide +kernel
theorem dX7_goBack_2 : decode cX7_goBack 2 = .ok (.getfield 140, 3) := by decide +kernel
theorem dX7_goBack_5 : decode cX7_goBack 5 = .ok (.ifCond .eq 7, 3) := by decide +kernel
theorem dX7_goBack_8 : decode cX7_goBack 8 = .ok (.iconst 0, 1) := by decide +kernel
theorem dX7_goBack_9 : decode cX7_goBack 9 = .ok (.goto 4, 3) := by decide +kernel
theorem dX7_goBack_12 : decode cX7_goBack 12 = .ok (.iconst 1, 1) := by decide +kernel
theorem dX7_goBack_13 : decode cX7_goBack 13 = .ok (.invokevirtual 102, 3) := by decide +kernel
theorem dX7_goBack_16 : decode cX7_goBack 16 = .ok (.ifCond .eq 5, 3) := by decide +kernel
theorem dX7_goBack_19 : decode cX7_goBack 19 = .ok (.iconst 0, 1) := by decide +kernel
theorem dX7_goBack_20 : decode cX7_goBack 20 = .ok (.ireturn, 1) := by decide +kernel
theorem dX7_goBack_21 : decode cX7_goBack 21 = .ok (.aload_n 0, 1) := by decide +kernel
theorem dX7_goBack_22 : decode cX7_goBack 22 = .ok (.invokevirtual 105, 3) := by decide +kernel
theorem dX7_goBack_25 : decode cX7_goBack 25 = .ok (.iconst 0, 1) := by decide +kernel
theorem dX7_goBack_26 : decode cX7_goBack 26 = .ok (.istore_n 1, 1) := by decide +kernel
theorem dX7_goBack_27 : decode cX7_goBack 27 = .ok (.iload_n 1, 1) := by decide +kernel
theorem dX7_goBack_28 : decode cX7_goBack 28 = .ok (.sipush 441, 3) := by decide +kernel
theorem dX7_goBack_31 : decode cX7_goBack 31 = .ok (.if_icmp .ge 21, 3) := by decide +kernel
theorem dX7_goBack_34 : decode cX7_goBack 34 = .ok (.aload_n 0, 1) := by decide +kernel
theorem dX7_goBack_35 : decode cX7_goBack 35 = .ok (.getfield 7, 3) := by decide +kernel
theorem dX7_goBack_38 : decode cX7_goBack 38 = .ok (.iload_n 1, 1) := by decide +kernel
theorem dX7_goBack_39 : decode cX7_goBack 39 = .ok (.aload_n 0, 1) := by decide +kernel
theorem dX7_goBack_40 : decode cX7_goBack 40 = .ok (.getfield 19, 3) := by decide +kernel
theorem dX7_goBack_43 : decode cX7_goBack 43 = .ok (.iload_n 1, 1) := by decide +kernel
theorem dX7_goBack_44 : decode cX7_goBack 44 = .ok (.iaload, 1) := by decide +kernel
theorem dX7_goBack_45 : decode cX7_goBack 45 = .ok (.iastore, 1) := by decide +kernel
theorem dX7_goBack_46 : decode cX7_goBack 46 = .ok (.iinc 1 1, 3) := by decide +kernel
theorem dX7_goBack_49 : decode cX7_goBack 49 = .ok (.goto (-22), 3) := by decide +kernel
theorem dX7_goBack_52 : decode cX7_goBack 52 = .ok (.aload_n 0, 1) := by decide +kernel
theorem dX7_goBack_53 : decode cX7_goBack 53 = .ok (.invokevirtual 144, 3) := by decide +kernel
theorem dX7_goBack_56 : decode cX7_goBack 56 = .ok (.ireturn, 1) := by decide +kernel
theorem dX7_undo_0 : decode cX7_undo 0 = .ok (.aload_n 0, 1) := by decide +kernel
theorem dX7_undo_1 : decode cX7_undo 1 = .ok (.aload_n 0, 1) := by decide +kernel
theorem dX7_undo_2 : decode cX7_undo 2 = .ok (.getfield 47, 3) := by decide +kernel
theorem dX7_undo_5 : decode cX7_undo 5 = .ok (.ifCond .ne 7, 3) := by decide +kernel
theorem dX7_undo_8 : decode cX7_undo 8 = .ok (.iconst 1, 1) := by decide +kernel
theorem dX7_undo_9 : decode cX7_undo 9 = .ok (.goto 4, 3) := by decide +kernel
theorem dX7_undo_12 : decode cX7_undo 12 = .ok (.iconst 0, 1) := by decide +kernel
theorem dX7_undo_13 : decode cX7_undo 13 = .ok (.invokevirtual 102, 3) := by decide +kernel
theorem dX7_undo_16 : decode cX7_undo 16 = .ok (.ifCond .eq 5, 3) := by decide +kernel
theorem dX7_undo_19 : decode cX7_undo 19 = .ok (.iconst 0, 1) := by decide +kernel
theorem dX7_undo_20 : decode cX7_undo 20 = .ok (.ireturn, 1) := by decide +kernel
theorem dX7_undo_21 : decode cX7_undo 21 = .ok (.aload_n 0, 1) := by decide +kernel
theorem dX7_undo_22 : decode cX7_undo 22 = .ok (.dup, 1) := by decide +kernel
theorem dX7_undo_23 : decode cX7_undo 23 = .ok (.getfield 47, 3) := by decide +kernel
theorem dX7_undo_26 : decode cX7_undo 26 = .ok (.iconst 1, 1) := by decide +kernel
theorem dX7_undo_27 : decode cX7_undo 27 = .ok (.isub, 1) := by decide +kernel
theorem dX7_undo_28 : decode cX7_undo 28 = .ok (.putfield 47, 3) := by decide +kernel
theorem dX7_undo_31 : decode cX7_undo 31 = .ok (.iconst 0, 1) := by decide +kernel
theorem dX7_undo_32 : decode cX7_undo 32 = .ok (.istore_n 1, 1) := by decide +kernel
theorem dX7_undo_33 : decode cX7_undo 33 = .ok (.iload_n 1, 1) := by decide +kernel
theorem dX7_undo_34 : decode cX7_undo 34 = .ok (.sipush 441, 3) := by decide +kernel
theorem dX7_undo_37 : decode cX7_undo 37 = .ok (.if_icmp .ge 30, 3) := by decide +kernel
theorem dX7_undo_40 : decode cX7_undo 40 = .ok (.aload_n 0, 1) := by decide +kernel
theorem dX7_undo_41 : decode cX7_undo 41 = .ok (.getfield 7, 3) := by decide +kernel
theorem dX7_undo_44 : decode cX7_undo 44 = .ok (.iload_n 1, 1) := by decide +kernel
theorem dX7_undo_45 : decode cX7_undo 45 = .ok (.aload_n 0, 1) := by decide +kernel
theorem dX7_undo_46 : decode cX7_undo 46 = .ok (.getfield 16, 3) := by decide +kernel
theorem dX7_undo_49 : decode cX7_undo 49 = .ok (.sipush 441, 3) := by decide +kernel
theorem dX7_undo_52 : decode cX7_undo 52 = .ok (.aload_n 0, 1) := by decide +kernel
theorem dX7_undo_53 : decode cX7_undo 53 = .ok (.getfield 47, 3) := by decide +kernel
theorem dX7_undo_56 : decode cX7_undo 56 = .ok (.imul, 1) := by decide +kernel
theorem dX7_undo_57 : decode cX7_undo 57 = .ok (.iload_n 1, 1) := by decide +kernel
theorem dX7_undo_58 : decode cX7_undo 58 = .ok (.iadd, 1) := by decide +kernel
theorem dX7_undo_59 : decode cX7_undo 59 = .ok (.iaload, 1) := by decide +kernel
theorem dX7_undo_60 : decode cX7_undo 60 = .ok (.iastore, 1) := by decide +kernel
theorem dX7_undo_61 : decode cX7_undo 61 = .ok (.iinc 1 1, 3) := by decide +kernel
theorem dX7_undo_64 : decode cX7_undo 64 = .ok (.goto (-31), 3) := by decide +kernel
theorem dX7_undo_67 : decode cX7_undo 67 = .ok (.aload_n 0, 1) := by decide +kernel
theorem dX7_undo_68 : decode cX7_undo 68 = .ok (.getfield 47, 3) := by decide +kernel
theorem dX7_undo_71 : decode cX7_undo 71 = .ok (.ireturn, 1) := by decide +kernel
theorem dX7_thawsOf_0 : decode cX7_thawsOf 0 = .ok (.iload_n 1, 1) := by decide +kernel
theorem dX7_thawsOf_1 : decode cX7_thawsOf 1 = .ok (.ifCond .lt 13, 3) := by decide +kernel
theorem dX7_thawsOf_4 : decode cX7_thawsOf 4 = .ok (.aload_n 0, 1) := by decide +kernel
theorem dX7_thawsOf_5 : decode cX7_thawsOf 5 = .ok (.iload_n 1, 1) := by decide +kernel
theorem dX7_thawsOf_6 : decode cX7_thawsOf 6 = .ok (.invokevirtual 61, 3) := by decide +kernel
theorem dX7_thawsOf_9 : decode cX7_thawsOf 9 = .ok (.ifCond .ne 5, 3) := by decide +kernel
theorem dX7_thawsOf_12 : decode cX7_thawsOf 12 = .ok (.iconst 0, 1) := by decide +kernel
theorem dX7_thawsOf_13 : decode cX7_thawsOf 13 = .ok (.ireturn, 1) := by decide +kernel
theorem dX7_thawsOf_14 : decode cX7_thawsOf 14 = .ok (.aload_n 0, 1) := by decide +kernel
theorem dX7_thawsOf_15 : decode cX7_thawsOf 15 = .ok (.invokevirtual 147, 3) := by decide +kernel
theorem dX7_thawsOf_18 : decode cX7_thawsOf 18 = .ok (.iconst 0, 1) := by decide +kernel
theorem dX7_thawsOf_19 : decode cX7_thawsOf 19 = .ok (.istore_n 2, 1) := by decide +kernel
theorem dX7_thawsOf_20 : decode cX7_thawsOf 20 = .ok (.iconst 1, 1) := by decide +kernel
theorem dX7_thawsOf_21 : decode cX7_thawsOf 21 = .ok (.istore_n 3, 1) := by decide +kernel
theorem dX7_thawsOf_22 : decode cX7_thawsOf 22 = .ok (.iload_n 3, 1) := by decide +kernel
theorem dX7_thawsOf_23 : decode cX7_thawsOf 23 = .ok (.ifCond .eq 43, 3) := by decide +kernel
theorem dX7_thawsOf_26 : decode cX7_thawsOf 26 = .ok (.aload_n 0, 1) := by decide +kernel
theorem dX7_thawsOf_27 : decode cX7_thawsOf 27 = .ok (.invokevirtual 114, 3) := by decide +kernel
theorem dX7_thawsOf_30 : decode cX7_thawsOf 30 = .ok (.ifCond .le 19, 3) := by decide +kernel
theorem dX7_thawsOf_33 : decode cX7_thawsOf 33 = .ok (.iload_n 1, 1) := by decide +kernel
theorem dX7_thawsOf_34 : decode cX7_thawsOf 34 = .ok (.ifCond .lt 11, 3) := by decide +kernel
theorem dX7_thawsOf_37 : decode cX7_thawsOf 37 = .ok (.aload_n 0, 1) := by decide +kernel
theorem dX7_thawsOf_38 : decode cX7_thawsOf 38 = .ok (.iload_n 1, 1) := by decide +kernel
theorem dX7_thawsOf_39 : decode cX7_thawsOf 39 = .ok (.invokevirtual 61, 3) := by decide +kernel
theorem dX7_thawsOf_42 : decode cX7_thawsOf 42 = .ok (.ifCond .eq 7, 3) := by decide +kernel
theorem dX7_thawsOf_45 : decode cX7_thawsOf 45 = .ok (.iconst 1, 1) := by decide +kernel
theorem dX7_thawsOf_46 : decode cX7_thawsOf 46 = .ok (.goto 4, 3) := by decide +kernel
theorem dX7_thawsOf_49 : decode cX7_thawsOf 49 = .ok (.iconst 0, 1) := by decide +kernel
theorem dX7_thawsOf_50 : decode cX7_thawsOf 50 = .ok (.istore_n 3, 1) := by decide +kernel
theorem dX7_thawsOf_51 : decode cX7_thawsOf 51 = .ok (.iload_n 2, 1) := by decide +kernel
theorem dX7_thawsOf_52 : decode cX7_thawsOf 52 = .ok (.iload_n 3, 1) := by decide +kernel
theorem dX7_thawsOf_53 : decode cX7_thawsOf 53 = .ok (.ifCond .eq 7, 3) := by decide +kernel
theorem dX7_thawsOf_56 : decode cX7_thawsOf 56 = .ok (.iconst 1, 1) := by decide +kernel
theorem dX7_thawsOf_57 : decode cX7_thawsOf 57 = .ok (.goto 4, 3) := by decide +kernel
theorem dX7_thawsOf_60 : decode cX7_thawsOf 60 = .ok (.iconst 0, 1) := by decide +kernel
theorem dX7_thawsOf_61 : decode cX7_thawsOf 61 = .ok (.iadd, 1) := by decide +kernel
theorem dX7_thawsOf_62 : decode cX7_thawsOf 62 = .ok (.istore_n 2, 1) := by decide +kernel
theorem dX7_thawsOf_63 : decode cX7_thawsOf 63 = .ok (.goto (-41), 3) := by decide +kernel
theorem dX7_thawsOf_66 : decode cX7_thawsOf 66 = .ok (.iload_n 1, 1) := by decide +kernel
theorem dX7_thawsOf_67 : decode cX7_thawsOf 67 = .ok (.ifCond .lt 15, 3) := by decide +kernel
theorem dX7_thawsOf_70 : decode cX7_thawsOf 70 = .ok (.aload_n 0, 1) := by decide +kernel
theorem dX7_thawsOf_71 : decode cX7_thawsOf 71 = .ok (.iload_n 1, 1) := by decide +kernel
theorem dX7_thawsOf_72 : decode cX7_thawsOf 72 = .ok (.invokevirtual 61, 3) := by decide +kernel
theorem dX7_thawsOf_75 : decode cX7_thawsOf 75 = .ok (.ifCond .ne 7, 3) := by decide +kernel
theorem dX7_thawsOf_78 : decode cX7_thawsOf 78 = .ok (.iconst 1, 1) := by decide +kernel
theorem dX7_thawsOf_79 : decode cX7_thawsOf 79 = .ok (.goto 4, 3) := by decide +kernel
theorem dX7_thawsOf_82 : decode cX7_thawsOf 82 = .ok (.iconst 0, 1) := by decide +kernel
theorem dX7_thawsOf_83 : decode cX7_thawsOf 83 = .ok (.istore 4, 2) := by decide +kernel
theorem dX7_thawsOf_85 : decode cX7_thawsOf 85 = .ok (.aload_n 0, 1) := by decide +kernel
theorem dX7_thawsOf_86 : decode cX7_thawsOf 86 = .ok (.invokevirtual 150, 3) := by decide +kernel
theorem dX7_thawsOf_89 : decode cX7_thawsOf 89 = .ok (.iload_n 1, 1) := by decide +kernel
theorem dX7_thawsOf_90 : decode cX7_thawsOf 90 = .ok (.ifCond .ge 7, 3) := by decide +kernel
theorem dX7_thawsOf_93 : decode cX7_thawsOf 93 = .ok (.iload_n 2, 1) := by decide +kernel
theorem dX7_thawsOf_94 : decode cX7_thawsOf 94 = .ok (.goto 15, 3) := by decide +kernel
theorem dX7_thawsOf_97 : decode cX7_thawsOf 97 = .ok (.iload 4, 2) := by decide +kernel
theorem dX7_thawsOf_99 : decode cX7_thawsOf 99 = .ok (.ifCond .eq 9, 3) := by decide +kernel
theorem dX7_thawsOf_102 : decode cX7_thawsOf 102 = .ok (.iload_n 2, 1) := by decide +kernel
theorem dX7_thawsOf_103 : decode cX7_thawsOf 103 = .ok (.iconst 1, 1) := by decide +kernel
theorem dX7_thawsOf_104 : decode cX7_thawsOf 104 = .ok (.iadd, 1) := by decide +kernel
theorem dX7_thawsOf_105 : decode cX7_thawsOf 105 = .ok (.goto 4, 3) := by decide +kernel
theorem dX7_thawsOf_108 : decode cX7_thawsOf 108 = .ok (.iconst (-1), 1) := by decide +kernel
theorem dX7_thawsOf_109 : decode cX7_thawsOf 109 = .ok (.ireturn, 1) := by decide +kernel
theorem dX7_ofCell_0 : decode cX7_ofCell 0 = .ok (.iload_n 2, 1) := by decide +kernel
theorem dX7_ofCell_1 : decode cX7_ofCell 1 = .ok (.tableswitch 108 0 4 #[35, 44, 54, 76, 102], 35) := by decide +kernel
theorem dX7_ofCell_36 : decode cX7_ofCell 36 = .ok (.aload_n 0, 1) := by decide +kernel
theorem dX7_ofCell_37 : decode cX7_ofCell 37 = .ok (.getfield 7, 3) := by decide +kernel
theorem dX7_ofCell_40 : decode cX7_ofCell 40 = .ok (.iconst 0, 1) := by decide +kernel
theorem dX7_ofCell_41 : decode cX7_ofCell 41 = .ok (.iload_n 1, 1) := by decide +kernel
theorem dX7_ofCell_42 : decode cX7_ofCell 42 = .ok (.iadd, 1) := by decide +kernel
theorem dX7_ofCell_43 : decode cX7_ofCell 43 = .ok (.iaload, 1) := by decide +kernel
theorem dX7_ofCell_44 : decode cX7_ofCell 44 = .ok (.ireturn, 1) := by decide +kernel
theorem dX7_ofCell_45 : decode cX7_ofCell 45 = .ok (.aload_n 0, 1) := by decide +kernel
theorem dX7_ofCell_46 : decode cX7_ofCell 46 = .ok (.getfield 7, 3) := by decide +kernel
theorem dX7_ofCell_49 : decode cX7_ofCell 49 = .ok (.bipush 64, 2) := by decide +kernel
theorem dX7_ofCell_51 : decode cX7_ofCell 51 = .ok (.iload_n 1, 1) := by decide +kernel
theorem dX7_ofCell_52 : decode cX7_ofCell 52 = .ok (.iadd, 1) := by decide +kernel
theorem dX7_ofCell_53 : decode cX7_ofCell 53 = .ok (.iaload, 1) := by decide +kernel
theorem dX7_ofCell_54 : decode cX7_ofCell 54 = .ok (.ireturn, 1) := by decide +kernel
theorem dX7_ofCell_55 : decode cX7_ofCell 55 = .ok (.aload_n 0, 1) := by decide +kernel
theorem dX7_ofCell_56 : decode cX7_ofCell 56 = .ok (.getfield 25, 3) := by decide +kernel
theorem dX7_ofCell_59 : decode cX7_ofCell 59 = .ok (.iload_n 1, 1) := by decide +kernel
theorem dX7_ofCell_60 : decode cX7_ofCell 60 = .ok (.iaload, 1) := by decide +kernel
theorem dX7_ofCell_61 : decode cX7_ofCell 61 = .ok (.bipush 64, 2) := by decide +kernel
theorem dX7_ofCell_63 : decode cX7_ofCell 63 = .ok (.if_icmp .ne 7, 3) := by decide +kernel
theorem dX7_ofCell_66 : decode cX7_ofCell 66 = .ok (.iconst (-1), 1) := by decide +kernel
theorem dX7_ofCell_67 : decode cX7_ofCell 67 = .ok (.goto 9, 3) := by decide +kernel
theorem dX7_ofCell_70 : decode cX7_ofCell 70 = .ok (.aload_n 0, 1) := by decide +kernel
theorem dX7_ofCell_71 : decode cX7_ofCell 71 = .ok (.getfield 25, 3) := by decide +kernel
theorem dX7_ofCell_74 : decode cX7_ofCell 74 = .ok (.iload_n 1, 1) := by decide +kernel
theorem dX7_ofCell_75 : decode cX7_ofCell 75 = .ok (.iaload, 1) := by decide +kernel
theorem dX7_ofCell_76 : decode cX7_ofCell 76 = .ok (.ireturn, 1) := by decide +kernel
theorem dX7_ofCell_77 : decode cX7_ofCell 77 = .ok (.aload_n 0, 1) := by decide +kernel
theorem dX7_ofCell_78 : decode cX7_ofCell 78 = .ok (.getfield 25, 3) := by decide +kernel
theorem dX7_ofCell_81 : decode cX7_ofCell 81 = .ok (.iload_n 1, 1) := by decide +kernel
theorem dX7_ofCell_82 : decode cX7_ofCell 82 = .ok (.iaload, 1) := by decide +kernel
theorem dX7_ofCell_83 : decode cX7_ofCell 83 = .ok (.bipush 64, 2) := by decide +kernel
theorem dX7_ofCell_85 : decode cX7_ofCell 85 = .ok (.if_icmp .ne 7, 3) := by decide +kernel
theorem dX7_ofCell_88 : decode cX7_ofCell 88 = .ok (.iconst 0, 1) := by decide +kernel
theorem dX7_ofCell_89 : decode cX7_ofCell 89 = .ok (.goto 13, 3) := by decide +kernel
theorem dX7_ofCell_92 : decode cX7_ofCell 92 = .ok (.aload_n 0, 1) := by decide +kernel
theorem dX7_ofCell_93 : decode cX7_ofCell 93 = .ok (.aload_n 0, 1) := by decide +kernel
theorem dX7_ofCell_94 : decode cX7_ofCell 94 = .ok (.getfield 25, 3) := by decide +kernel
theorem dX7_ofCell_97 : decode cX7_ofCell 97 = .ok (.iload_n 1, 1) := by decide +kernel
theorem dX7_ofCell_98 : decode cX7_ofCell 98 = .ok (.iaload, 1) := by decide +kernel
theorem dX7_ofCell_99 : decode cX7_ofCell 99 = .ok (.invokevirtual 82, 3) := by decide +kernel
theorem dX7_ofCell_102 : decode cX7_ofCell 102 = .ok (.ireturn, 1) := by decide +kernel
theorem dX7_ofCell_103 : decode cX7_ofCell 103 = .ok (.aload_n 0, 1) := by decide +kernel
theorem dX7_ofCell_104 : decode cX7_ofCell 104 = .ok (.iload_n 1, 1) := by decide +kernel
theorem dX7_ofCell_105 : decode cX7_ofCell 105 = .ok (.invokevirtual 111, 3) := by decide +kernel
theorem dX7_ofCell_108 : decode cX7_ofCell 108 = .ok (.ireturn, 1) := by decide +kernel
theorem dX7_ofCell_109 : decode cX7_ofCell 109 = .ok (.aload_n 0, 1) := by decide +kernel
theorem dX7_ofCell_110 : decode cX7_ofCell 110 = .ok (.iload_n 1, 1) := by decide +kernel
theorem dX7_ofCell_111 : decode cX7_ofCell 111 = .ok (.invokevirtual 153, 3) := by decide +kernel
theorem dX7_ofCell_114 : decode cX7_ofCell 114 = .ok (.ireturn, 1) := by decide +kernel
theorem dX7_cell_0 : decode cX7_cell 0 = .ok (.aload_n 0, 1) := by decide +kernel
theorem dX7_cell_1 : decode cX7_cell 1 = .ok (.iload_n 1, 1) := by decide +kernel
theorem dX7_cell_2 : decode cX7_cell 2 = .ok (.iload_n 2, 1) := by decide +kernel
theorem dX7_cell_3 : decode cX7_cell 3 = .ok (.invokestatic 50, 3) := by decide +kernel
theorem dX7_cell_6 : decode cX7_cell 6 = .ok (.ifCond .ne 7, 3) := by decide +kernel
theorem dX7_cell_9 : decode cX7_cell 9 = .ok (.iconst 1, 1) := by decide +kernel
theorem dX7_cell_10 : decode cX7_cell 10 = .ok (.goto 17, 3) := by decide +kernel
theorem dX7_cell_13 : decode cX7_cell 13 = .ok (.iload_n 3, 1) := by decide +kernel
theorem dX7_cell_14 : decode cX7_cell 14 = .ok (.iconst 0, 1) := by decide +kernel
theorem dX7_cell_15 : decode cX7_cell 15 = .ok (.iconst 5, 1) := by decide +kernel
theorem dX7_cell_16 : decode cX7_cell 16 = .ok (.invokestatic 43, 3) := by decide +kernel
theorem dX7_cell_19 : decode cX7_cell 19 = .ok (.ifCond .eq 7, 3) := by decide +kernel
theorem dX7_cell_22 : decode cX7_cell 22 = .ok (.iconst 0, 1) := by decide +kernel
theorem dX7_cell_23 : decode cX7_cell 23 = .ok (.goto 4, 3) := by decide +kernel
theorem dX7_cell_26 : decode cX7_cell 26 = .ok (.iconst 2, 1) := by decide +kernel
theorem dX7_cell_27 : decode cX7_cell 27 = .ok (.invokevirtual 102, 3) := by decide +kernel
theorem dX7_cell_30 : decode cX7_cell 30 = .ok (.ifCond .eq 5, 3) := by decide +kernel
theorem dX7_cell_33 : decode cX7_cell 33 = .ok (.iconst 0, 1) := by decide +kernel
theorem dX7_cell_34 : decode cX7_cell 34 = .ok (.ireturn, 1) := by decide +kernel
theorem dX7_cell_35 : decode cX7_cell 35 = .ok (.aload_n 0, 1) := by decide +kernel
theorem dX7_cell_36 : decode cX7_cell 36 = .ok (.invokevirtual 79, 3) := by decide +kernel
theorem dX7_cell_39 : decode cX7_cell 39 = .ok (.aload_n 0, 1) := by decide +kernel
theorem dX7_cell_40 : decode cX7_cell 40 = .ok (.iload_n 1, 1) := by decide +kernel
theorem dX7_cell_41 : decode cX7_cell 41 = .ok (.iload_n 2, 1) := by decide +kernel
theorem dX7_cell_42 : decode cX7_cell 42 = .ok (.invokestatic 54, 3) := by decide +kernel
theorem dX7_cell_45 : decode cX7_cell 45 = .ok (.iload_n 3, 1) := by decide +kernel
theorem dX7_cell_46 : decode cX7_cell 46 = .ok (.invokevirtual 156, 3) := by decide +kernel
theorem dX7_cell_49 : decode cX7_cell 49 = .ok (.ireturn, 1) := by decide +kernel
theorem dX7_ofLine_0 : decode cX7_ofLine 0 = .ok (.iload_n 2, 1) := by decide +kernel
theorem dX7_ofLine_1 : decode cX7_ofLine 1 = .ok (.ifCond .ne 16, 3) := by decide +kernel
theorem dX7_ofLine_4 : decode cX7_ofLine 4 = .ok (.aload_n 0, 1) := by decide +kernel
theorem dX7_ofLine_5 : decode cX7_ofLine 5 = .ok (.getfield 7, 3) := by decide +kernel
theorem dX7_ofLine_8 : decode cX7_ofLine 8 = .ok (.sipush 272, 3) := by decide +kernel
theorem dX7_ofLine_11 : decode cX7_ofLine 11 = .ok (.iload_n 1, 1) := by decide +kernel
theorem dX7_ofLine_12 : decode cX7_ofLine 12 = .ok (.iadd, 1) := by decide +kernel
theorem dX7_ofLine_13 : decode cX7_ofLine 13 = .ok (.iaload, 1) := by decide +kernel
theorem dX7_ofLine_14 : decode cX7_ofLine 14 = .ok (.goto 26, 3) := by decide +kernel
theorem dX7_ofLine_17 : decode cX7_ofLine 17 = .ok (.iload_n 2, 1) := by decide +kernel
theorem dX7_ofLine_18 : decode cX7_ofLine 18 = .ok (.iconst 1, 1) := by decide +kernel
theorem dX7_ofLine_19 : decode cX7_ofLine 19 = .ok (.if_icmp .ne 16, 3) := by decide +kernel
theorem dX7_ofLine_22 : decode cX7_ofLine 22 = .ok (.aload_n 0, 1) := by decide +kernel
theorem dX7_ofLine_23 : decode cX7_ofLine 23 = .ok (.getfield 7, 3) := by decide +kernel
theorem dX7_ofLine_26 : decode cX7_ofLine 26 = .ok (.sipush 128, 3) := by decide +kernel
theorem dX7_ofLine_29 : decode cX7_ofLine 29 = .ok (.iload_n 1, 1) := by decide +kernel
theorem dX7_ofLine_30 : decode cX7_ofLine 30 = .ok (.iadd, 1) := by decide +kernel
theorem dX7_ofLine_31 : decode cX7_ofLine 31 = .ok (.iaload, 1) := by decide +kernel
theorem dX7_ofLine_32 : decode cX7_ofLine 32 = .ok (.goto 8, 3) := by decide +kernel
theorem dX7_ofLine_35 : decode cX7_ofLine 35 = .ok (.aload_n 0, 1) := by decide +kernel
theorem dX7_ofLine_36 : decode cX7_ofLine 36 = .ok (.iload_n 1, 1) := by decide +kernel
theorem dX7_ofLine_37 : decode cX7_ofLine 37 = .ok (.invokevirtual 65, 3) := by decide +kernel
theorem dX7_ofLine_40 : decode cX7_ofLine 40 = .ok (.ireturn, 1) := by decide +kernel
theorem dX7_line_0 : decode cX7_line 0 = .ok (.iload_n 1, 1) := by decide +kernel
theorem dX7_line_1 : decode cX7_line 1 = .ok (.iconst 0, 1) := by decide +kernel
theorem dX7_line_2 : decode cX7_line 2 = .ok (.bipush 8, 2) := by decide +kernel
theorem dX7_line_4 : decode cX7_line 4 = .ok (.invokestatic 43, 3) := by decide +kernel
theorem dX7_line_7 : decode cX7_line 7 = .ok (.ifCond .eq 17, 3) := by decide +kernel
theorem dX7_line_10 : decode cX7_line 10 = .ok (.iload_n 2, 1) := by decide +kernel
theorem dX7_line_11 : decode cX7_line 11 = .ok (.iconst 0, 1) := by decide +kernel
theorem dX7_line_12 : decode cX7_line 12 = .ok (.bipush 8, 2) := by decide +kernel
theorem dX7_line_14 : decode cX7_line 14 = .ok (.invokestatic 43, 3) := by decide +kernel
theorem dX7_line_17 : decode cX7_line 17 = .ok (.ifCond .eq 7, 3) := by decide +kernel
theorem dX7_line_20 : decode cX7_line 20 = .ok (.iconst 1, 1) := by decide +kernel
theorem dX7_line_21 : decode cX7_line 21 = .ok (.goto 4, 3) := by decide +kernel
theorem dX7_line_24 : decode cX7_line 24 = .ok (.iconst 0, 1) := by decide +kernel
theorem dX7_line_25 : decode cX7_line 25 = .ok (.istore 5, 2) := by decide +kernel
theorem dX7_line_27 : decode cX7_line 27 = .ok (.iload 5, 2) := by decide +kernel
theorem dX7_line_29 : decode cX7_line 29 = .ok (.ifCond .eq 29, 3) := by decide +kernel
theorem dX7_line_32 : decode cX7_line 32 = .ok (.iload_n 3, 1) := by decide +kernel
theorem dX7_line_33 : decode cX7_line 33 = .ok (.iconst 1, 1) := by decide +kernel
theorem dX7_line_34 : decode cX7_line 34 = .ok (.if_icmp .ne 9, 3) := by decide +kernel
theorem dX7_line_37 : decode cX7_line 37 = .ok (.iload_n 1, 1) := by decide +kernel
theorem dX7_line_38 : decode cX7_line 38 = .ok (.bipush 8, 2) := by decide +kernel
theorem dX7_line_40 : decode cX7_line 40 = .ok (.if_icmp .ge 18, 3) := by decide +kernel
theorem dX7_line_43 : decode cX7_line 43 = .ok (.iload_n 3, 1) := by decide +kernel
theorem dX7_line_44 : decode cX7_line 44 = .ok (.iconst 2, 1) := by decide +kernel
theorem dX7_line_45 : decode cX7_line 45 = .ok (.if_icmp .ne 9, 3) := by decide +kernel
theorem dX7_line_48 : decode cX7_line 48 = .ok (.iload_n 2, 1) := by decide +kernel
theorem dX7_line_49 : decode cX7_line 49 = .ok (.bipush 8, 2) := by decide +kernel
theorem dX7_line_51 : decode cX7_line 51 = .ok (.if_icmp .ge 7, 3) := by decide +kernel
theorem dX7_line_54 : decode cX7_line 54 = .ok (.iconst 1, 1) := by decide +kernel
theorem dX7_line_55 : decode cX7_line 55 = .ok (.goto 4, 3) := by decide +kernel
theorem dX7_line_58 : decode cX7_line 58 = .ok (.iconst 0, 1) := by decide +kernel
theorem dX7_line_59 : decode cX7_line 59 = .ok (.istore 6, 2) := by decide +kernel
theorem dX7_line_61 : decode cX7_line 61 = .ok (.aload_n 0, 1) := by decide +kernel
theorem dX7_line_62 : decode cX7_line 62 = .ok (.iload 6, 2) := by decide +kernel
theorem dX7_line_64 : decode cX7_line 64 = .ok (.ifCond .ne 7, 3) := by decide +kernel
theorem dX7_line_67 : decode cX7_line 67 = .ok (.iconst 1, 1) := by decide +kernel
theorem dX7_line_68 : decode cX7_line 68 = .ok (.goto 27, 3) := by decide +kernel
theorem dX7_line_71 : decode cX7_line 71 = .ok (.iload_n 3, 1) := by decide +kernel
theorem dX7_line_72 : decode cX7_line 72 = .ok (.iconst 1, 1) := by decide +kernel
theorem dX7_line_73 : decode cX7_line 73 = .ok (.iconst 2, 1) := by decide +kernel
theorem dX7_line_74 : decode cX7_line 74 = .ok (.invokestatic 43, 3) := by decide +kernel
theorem dX7_line_77 : decode cX7_line 77 = .ok (.ifCond .eq 17, 3) := by decide +kernel
theorem dX7_line_80 : decode cX7_line 80 = .ok (.iload 4, 2) := by decide +kernel
theorem dX7_line_82 : decode cX7_line 82 = .ok (.iconst 0, 1) := by decide +kernel
theorem dX7_line_83 : decode cX7_line 83 = .ok (.iconst 2, 1) := by decide +kernel
theorem dX7_line_84 : decode cX7_line 84 = .ok (.invokestatic 43, 3) := by decide +kernel
theorem dX7_line_87 : decode cX7_line 87 = .ok (.ifCond .eq 7, 3) := by decide +kernel
theorem dX7_line_90 : decode cX7_line 90 = .ok (.iconst 0, 1) := by decide +kernel
theorem dX7_line_91 : decode cX7_line 91 = .ok (.goto 4, 3) := by decide +kernel
theorem dX7_line_94 : decode cX7_line 94 = .ok (.iconst 2, 1) := by decide +kernel
theorem dX7_line_95 : decode cX7_line 95 = .ok (.invokevirtual 102, 3) := by decide +kernel
theorem dX7_line_98 : decode cX7_line 98 = .ok (.ifCond .eq 5, 3) := by decide +kernel
theorem dX7_line_101 : decode cX7_line 101 = .ok (.iconst 0, 1) := by decide +kernel
theorem dX7_line_102 : decode cX7_line 102 = .ok (.ireturn, 1) := by decide +kernel
theorem dX7_line_103 : decode cX7_line 103 = .ok (.aload_n 0, 1) := by decide +kernel
theorem dX7_line_104 : decode cX7_line 104 = .ok (.iload_n 1, 1) := by decide +kernel
theorem dX7_line_105 : decode cX7_line 105 = .ok (.iload_n 2, 1) := by decide +kernel
theorem dX7_line_106 : decode cX7_line 106 = .ok (.iload_n 3, 1) := by decide +kernel
theorem dX7_line_107 : decode cX7_line 107 = .ok (.invokestatic 72, 3) := by decide +kernel
theorem dX7_line_110 : decode cX7_line 110 = .ok (.iload 4, 2) := by decide +kernel
theorem dX7_line_112 : decode cX7_line 112 = .ok (.invokevirtual 159, 3) := by decide +kernel
theorem dX7_line_115 : decode cX7_line 115 = .ok (.ireturn, 1) := by decide +kernel
theorem dX7_ownedBy_0 : decode cX7_ownedBy 0 = .ok (.iconst 0, 1) := by decide +kernel
theorem dX7_ownedBy_1 : decode cX7_ownedBy 1 = .ok (.istore_n 2, 1) := by decide +kernel
theorem dX7_ownedBy_2 : decode cX7_ownedBy 2 = .ok (.iconst 0, 1) := by decide +kernel
theorem dX7_ownedBy_3 : decode cX7_ownedBy 3 = .ok (.istore_n 3, 1) := by decide +kernel
theorem dX7_ownedBy_4 : decode cX7_ownedBy 4 = .ok (.iload_n 3, 1) := by decide +kernel
theorem dX7_ownedBy_5 : decode cX7_ownedBy 5 = .ok (.bipush 64, 2) := by decide +kernel
theorem dX7_ownedBy_7 : decode cX7_ownedBy 7 = .ok (.if_icmp .ge 30, 3) := by decide +kernel
theorem dX7_ownedBy_10 : decode cX7_ownedBy 10 = .ok (.iload_n 2, 1) := by decide +kernel
theorem dX7_ownedBy_11 : decode cX7_ownedBy 11 = .ok (.aload_n 0, 1) := by decide +kernel
theorem dX7_ownedBy_12 : decode cX7_ownedBy 12 = .ok (.getfield 7, 3) := by decide +kernel
theorem dX7_ownedBy_15 : decode cX7_ownedBy 15 = .ok (.bipush 64, 2) := by decide +kernel
theorem dX7_ownedBy_17 : decode cX7_ownedBy 17 = .ok (.iload_n 3, 1) := by decide +kernel
theorem dX7_ownedBy_18 : decode cX7_ownedBy 18 = .ok (.iadd, 1) := by decide +kernel
theorem dX7_ownedBy_19 : decode cX7_ownedBy 19 = .ok (.iaload, 1) := by decide +kernel
theorem dX7_ownedBy_20 : decode cX7_ownedBy 20 = .ok (.iload_n 1, 1) := by decide +kernel
theorem dX7_ownedBy_21 : decode cX7_ownedBy 21 = .ok (.if_icmp .ne 7, 3) := by decide +kernel
theorem dX7_ownedBy_24 : decode cX7_ownedBy 24 = .ok (.iconst 1, 1) := by decide +kernel
theorem dX7_ownedBy_25 : decode cX7_ownedBy 25 = .ok (.goto 4, 3) := by decide +kernel
theorem dX7_ownedBy_28 : decode cX7_ownedBy 28 = .ok (.iconst 0, 1) := by decide +kernel
theorem dX7_ownedBy_29 : decode cX7_ownedBy 29 = .ok (.iadd, 1) := by decide +kernel
theorem dX7_ownedBy_30 : decode cX7_ownedBy 30 = .ok (.istore_n 2, 1) := by decide +kernel
theorem dX7_ownedBy_31 : decode cX7_ownedBy 31 = .ok (.iinc 3 1, 3) := by decide +kernel
theorem dX7_ownedBy_34 : decode cX7_ownedBy 34 = .ok (.goto (-30), 3) := by decide +kernel
theorem dX7_ownedBy_37 : decode cX7_ownedBy 37 = .ok (.iload_n 2, 1) := by decide +kernel
theorem dX7_ownedBy_38 : decode cX7_ownedBy 38 = .ok (.ireturn, 1) := by decide +kernel
theorem dX7_rinksOf_0 : decode cX7_rinksOf 0 = .ok (.iconst 0, 1) := by decide +kernel
theorem dX7_rinksOf_1 : decode cX7_rinksOf 1 = .ok (.istore_n 3, 1) := by decide +kernel
theorem dX7_rinksOf_2 : decode cX7_rinksOf 2 = .ok (.iconst 0, 1) := by decide +kernel
theorem dX7_rinksOf_3 : decode cX7_rinksOf 3 = .ok (.istore 4, 2) := by decide +kernel
theorem dX7_rinksOf_5 : decode cX7_rinksOf 5 = .ok (.iload 4, 2) := by decide +kernel
theorem dX7_rinksOf_7 : decode cX7_rinksOf 7 = .ok (.bipush 64, 2) := by decide +kernel
theorem dX7_rinksOf_9 : decode cX7_rinksOf 9 = .ok (.if_icmp .ge 56, 3) := by decide +kernel
theorem dX7_rinksOf_12 : decode cX7_rinksOf 12 = .ok (.iload_n 3, 1) := by decide +kernel
theorem dX7_rinksOf_13 : decode cX7_rinksOf 13 = .ok (.aload_n 0, 1) := by decide +kernel
theorem dX7_rinksOf_14 : decode cX7_rinksOf 14 = .ok (.getfield 25, 3) := by decide +kernel
theorem dX7_rinksOf_17 : decode cX7_rinksOf 17 = .ok (.iload 4, 2) := by decide +kernel
theorem dX7_rinksOf_19 : decode cX7_rinksOf 19 = .ok (.iaload, 1) := by decide +kernel
theorem dX7_rinksOf_20 : decode cX7_rinksOf 20 = .ok (.iload 4, 2) := by decide +kernel
theorem dX7_rinksOf_22 : decode cX7_rinksOf 22 = .ok (.if_icmp .ne 34, 3) := by decide +kernel
theorem dX7_rinksOf_25 : decode cX7_rinksOf 25 = .ok (.aload_n 0, 1) := by decide +kernel
theorem dX7_rinksOf_26 : decode cX7_rinksOf 26 = .ok (.getfield 7, 3) := by decide +kernel
theorem dX7_rinksOf_29 : decode cX7_rinksOf 29 = .ok (.bipush 64, 2) := by decide +kernel
theorem dX7_rinksOf_31 : decode cX7_rinksOf 31 = .ok (.iload 4, 2) := by decide +kernel
theorem dX7_rinksOf_33 : decode cX7_rinksOf 33 = .ok (.iadd, 1) := by decide +kernel
theorem dX7_rinksOf_34 : decode cX7_rinksOf 34 = .ok (.iaload, 1) := by decide +kernel
theorem dX7_rinksOf_35 : decode cX7_rinksOf 35 = .ok (.iload_n 1, 1) := by decide +kernel
theorem dX7_rinksOf_36 : decode cX7_rinksOf 36 = .ok (.if_icmp .ne 20, 3) := by decide +kernel
theorem dX7_rinksOf_39 : decode cX7_rinksOf 39 = .ok (.iload_n 2, 1) := by decide +kernel
theorem dX7_rinksOf_40 : decode cX7_rinksOf 40 = .ok (.ifCond .eq 12, 3) := by decide +kernel
theorem dX7_rinksOf_43 : decode cX7_rinksOf 43 = .ok (.aload_n 0, 1) := by decide +kernel
theorem dX7_rinksOf_44 : decode cX7_rinksOf 44 = .ok (.iload 4, 2) := by decide +kernel
theorem dX7_rinksOf_46 : decode cX7_rinksOf 46 = .ok (.invokevirtual 82, 3) := by decide +kernel
theorem dX7_rinksOf_49 : decode cX7_rinksOf 49 = .ok (.goto 8, 3) := by decide +kernel
theorem dX7_rinksOf_52 : decode cX7_rinksOf 52 = .ok (.iconst 1, 1) := by decide +kernel
theorem dX7_rinksOf_53 : decode cX7_rinksOf 53 = .ok (.goto 4, 3) := by decide +kernel
theorem dX7_rinksOf_56 : decode cX7_rinksOf 56 = .ok (.iconst 0, 1) := by decide +kernel
theorem dX7_rinksOf_57 : decode cX7_rinksOf 57 = .ok (.iadd, 1) := by decide +kernel
theorem dX7_rinksOf_58 : decode cX7_rinksOf 58 = .ok (.istore_n 3, 1) := by decide +kernel
theorem dX7_rinksOf_59 : decode cX7_rinksOf 59 = .ok (.iinc 4 1, 3) := by decide +kernel
theorem dX7_rinksOf_62 : decode cX7_rinksOf 62 = .ok (.goto (-57), 3) := by decide +kernel
theorem dX7_rinksOf_65 : decode cX7_rinksOf 65 = .ok (.iload_n 3, 1) := by decide +kernel
theorem dX7_rinksOf_66 : decode cX7_rinksOf 66 = .ok (.ireturn, 1) := by decide +kernel
theorem dX7_ofSkater_0 : decode cX7_ofSkater 0 = .ok (.iload_n 2, 1) := by decide +kernel
theorem dX7_ofSkater_1 : decode cX7_ofSkater 1 = .ok (.tableswitch 122 0 7 #[47, 58, 69, 80, 86, 93, 100, 111], 47) := by decide +kernel
theorem dX7_ofSkater_48 : decode cX7_ofSkater 48 = .ok (.aload_n 0, 1) := by decide +kernel
theorem dX7_ofSkater_49 : decode cX7_ofSkater 49 = .ok (.getfield 7, 3) := by decide +kernel
theorem dX7_ofSkater_52 : decode cX7_ofSkater 52 = .ok (.iload_n 1, 1) := by decide +kernel
theorem dX7_ofSkater_53 : decode cX7_ofSkater 53 = .ok (.iconst 0, 1) := by decide +kernel
theorem dX7_ofSkater_54 : decode cX7_ofSkater 54 = .ok (.invokestatic 35, 3) := by decide +kernel
theorem dX7_ofSkater_57 : decode cX7_ofSkater 57 = .ok (.iaload, 1) := by decide +kernel
theorem dX7_ofSkater_58 : decode cX7_ofSkater 58 = .ok (.ireturn, 1) := by decide +kernel
theorem dX7_ofSkater_59 : decode cX7_ofSkater 59 = .ok (.aload_n 0, 1) := by decide +kernel
theorem dX7_ofSkater_60 : decode cX7_ofSkater 60 = .ok (.getfield 7, 3) := by decide +kernel
theorem dX7_ofSkater_63 : decode cX7_ofSkater 63 = .ok (.iload_n 1, 1) := by decide +kernel
theorem dX7_ofSkater_64 : decode cX7_ofSkater 64 = .ok (.iconst 1, 1) := by decide +kernel
theorem dX7_ofSkater_65 : decode cX7_ofSkater 65 = .ok (.invokestatic 35, 3) := by decide +kernel
theorem dX7_ofSkater_68 : decode cX7_ofSkater 68 = .ok (.iaload, 1) := by decide +kernel
theorem dX7_ofSkater_69 : decode cX7_ofSkater 69 = .ok (.ireturn, 1) := by decide +kernel
theorem dX7_ofSkater_70 : decode cX7_ofSkater 70 = .ok (.aload_n 0, 1) := by decide +kernel
theorem dX7_ofSkater_71 : decode cX7_ofSkater 71 = .ok (.getfield 7, 3) := by decide +kernel
theorem dX7_ofSkater_74 : decode cX7_ofSkater 74 = .ok (.iload_n 1, 1) := by decide +kernel
theorem dX7_ofSkater_75 : decode cX7_ofSkater 75 = .ok (.iconst 2, 1) := by decide +kernel
theorem dX7_ofSkater_76 : decode cX7_ofSkater 76 = .ok (.invokestatic 35, 3) := by decide +kernel
theorem dX7_ofSkater_79 : decode cX7_ofSkater 79 = .ok (.iaload, 1) := by decide +kernel
theorem dX7_ofSkater_80 : decode cX7_ofSkater 80 = .ok (.ireturn, 1) := by decide +kernel
theorem dX7_ofSkater_81 : decode cX7_ofSkater 81 = .ok (.aload_n 0, 1) := by decide +kernel
theorem dX7_ofSkater_82 : decode cX7_ofSkater 82 = .ok (.iload_n 1, 1) := by decide +kernel
theorem dX7_ofSkater_83 : decode cX7_ofSkater 83 = .ok (.invokevirtual 162, 3) := by decide +kernel
theorem dX7_ofSkater_86 : decode cX7_ofSkater 86 = .ok (.ireturn, 1) := by decide +kernel
theorem dX7_ofSkater_87 : decode cX7_ofSkater 87 = .ok (.aload_n 0, 1) := by decide +kernel
theorem dX7_ofSkater_88 : decode cX7_ofSkater 88 = .ok (.iload_n 1, 1) := by decide +kernel
theorem dX7_ofSkater_89 : decode cX7_ofSkater 89 = .ok (.iconst 1, 1) := by decide +kernel
theorem dX7_ofSkater_90 : decode cX7_ofSkater 90 = .ok (.invokevirtual 165, 3) := by decide +kernel
theorem dX7_ofSkater_93 : decode cX7_ofSkater 93 = .ok (.ireturn, 1) := by decide +kernel
theorem dX7_ofSkater_94 : decode cX7_ofSkater 94 = .ok (.aload_n 0, 1) := by decide +kernel
theorem dX7_ofSkater_95 : decode cX7_ofSkater 95 = .ok (.iload_n 1, 1) := by decide +kernel
theorem dX7_ofSkater_96 : decode cX7_ofSkater 96 = .ok (.iconst 0, 1) := by decide +kernel
theorem dX7_ofSkater_97 : decode cX7_ofSkater 97 = .ok (.invokevirtual 165, 3) := by decide +kernel
theorem dX7_ofSkater_100 : decode cX7_ofSkater 100 = .ok (.ireturn, 1) := by decide +kernel
theorem dX7_ofSkater_101 : decode cX7_ofSkater 101 = .ok (.aload_n 0, 1) := by decide +kernel
theorem dX7_ofSkater_102 : decode cX7_ofSkater 102 = .ok (.getfield 7, 3) := by decide +kernel
theorem dX7_ofSkater_105 : decode cX7_ofSkater 105 = .ok (.iload_n 1, 1) := by decide +kernel
theorem dX7_ofSkater_106 : decode cX7_ofSkater 106 = .ok (.iconst 3, 1) := by decide +kernel
theorem dX7_ofSkater_107 : decode cX7_ofSkater 107 = .ok (.invokestatic 35, 3) := by decide +kernel
theorem dX7_ofSkater_110 : decode cX7_ofSkater 110 = .ok (.iaload, 1) := by decide +kernel
theorem dX7_ofSkater_111 : decode cX7_ofSkater 111 = .ok (.ireturn, 1) := by decide +kernel
theorem dX7_ofSkater_112 : decode cX7_ofSkater 112 = .ok (.aload_n 0, 1) := by decide +kernel
theorem dX7_ofSkater_113 : decode cX7_ofSkater 113 = .ok (.getfield 7, 3) := by decide +kernel
theorem dX7_ofSkater_116 : decode cX7_ofSkater 116 = .ok (.iload_n 1, 1) := by decide +kernel
theorem dX7_ofSkater_117 : decode cX7_ofSkater 117 = .ok (.iconst 4, 1) := by decide +kernel
theorem dX7_ofSkater_118 : decode cX7_ofSkater 118 = .ok (.invokestatic 35, 3) := by decide +kernel
theorem dX7_ofSkater_121 : decode cX7_ofSkater 121 = .ok (.iaload, 1) := by decide +kernel
theorem dX7_ofSkater_122 : decode cX7_ofSkater 122 = .ok (.ireturn, 1) := by decide +kernel
theorem dX7_ofSkater_123 : decode cX7_ofSkater 123 = .ok (.aload_n 0, 1) := by decide +kernel
theorem dX7_ofSkater_124 : decode cX7_ofSkater 124 = .ok (.getfield 7, 3) := by decide +kernel
theorem dX7_ofSkater_127 : decode cX7_ofSkater 127 = .ok (.iload_n 1, 1) := by decide +kernel
theorem dX7_ofSkater_128 : decode cX7_ofSkater 128 = .ok (.iconst 5, 1) := by decide +kernel
theorem dX7_ofSkater_129 : decode cX7_ofSkater 129 = .ok (.invokestatic 35, 3) := by decide +kernel
theorem dX7_ofSkater_132 : decode cX7_ofSkater 132 = .ok (.iaload, 1) := by decide +kernel
theorem dX7_ofSkater_133 : decode cX7_ofSkater 133 = .ok (.ireturn, 1) := by decide +kernel
theorem dX7_skater_0 : decode cX7_skater 0 = .ok (.aload_n 0, 1) := by decide +kernel
theorem dX7_skater_1 : decode cX7_skater 1 = .ok (.iload_n 1, 1) := by decide +kernel
theorem dX7_skater_2 : decode cX7_skater 2 = .ok (.invokestatic 99, 3) := by decide +kernel
theorem dX7_skater_5 : decode cX7_skater 5 = .ok (.ifCond .ne 7, 3) := by decide +kernel
theorem dX7_skater_8 : decode cX7_skater 8 = .ok (.iconst 1, 1) := by decide +kernel
theorem dX7_skater_9 : decode cX7_skater 9 = .ok (.goto 18, 3) := by decide +kernel
theorem dX7_skater_12 : decode cX7_skater 12 = .ok (.iload_n 2, 1) := by decide +kernel
theorem dX7_skater_13 : decode cX7_skater 13 = .ok (.iconst 0, 1) := by decide +kernel
theorem dX7_skater_14 : decode cX7_skater 14 = .ok (.bipush 8, 2) := by decide +kernel
theorem dX7_skater_16 : decode cX7_skater 16 = .ok (.invokestatic 43, 3) := by decide +kernel
theorem dX7_skater_19 : decode cX7_skater 19 = .ok (.ifCond .eq 7, 3) := by decide +kernel
theorem dX7_skater_22 : decode cX7_skater 22 = .ok (.iconst 0, 1) := by decide +kernel
theorem dX7_skater_23 : decode cX7_skater 23 = .ok (.goto 4, 3) := by decide +kernel
theorem dX7_skater_26 : decode cX7_skater 26 = .ok (.iconst 2, 1) := by decide +kernel
theorem dX7_skater_27 : decode cX7_skater 27 = .ok (.invokevirtual 102, 3) := by decide +kernel
theorem dX7_skater_30 : decode cX7_skater 30 = .ok (.ifCond .eq 5, 3) := by decide +kernel
theorem dX7_skater_33 : decode cX7_skater 33 = .ok (.iconst 0, 1) := by decide +kernel
theorem dX7_skater_34 : decode cX7_skater 34 = .ok (.ireturn, 1) := by decide +kernel
theorem dX7_skater_35 : decode cX7_skater 35 = .ok (.aload_n 0, 1) := by decide +kernel
theorem dX7_skater_36 : decode cX7_skater 36 = .ok (.invokevirtual 79, 3) := by decide +kernel
theorem dX7_skater_39 : decode cX7_skater 39 = .ok (.aload_n 0, 1) := by decide +kernel
theorem dX7_skater_40 : decode cX7_skater 40 = .ok (.iload_n 1, 1) := by decide +kernel
theorem dX7_skater_41 : decode cX7_skater 41 = .ok (.iload_n 2, 1) := by decide +kernel
theorem dX7_skater_42 : decode cX7_skater 42 = .ok (.invokevirtual 168, 3) := by decide +kernel
theorem dX7_skater_45 : decode cX7_skater 45 = .ok (.ireturn, 1) := by decide +kernel
theorem dX7_lowestOf_0 : decode cX7_lowestOf 0 = .ok (.iload_n 1, 1) := by decide +kernel
theorem dX7_lowestOf_1 : decode cX7_lowestOf 1 = .ok (.istore_n 2, 1) := by decide +kernel
theorem dX7_lowestOf_2 : decode cX7_lowestOf 2 = .ok (.iconst 0, 1) := by decide +kernel
theorem dX7_lowestOf_3 : decode cX7_lowestOf 3 = .ok (.istore_n 3, 1) := by decide +kernel
theorem dX7_lowestOf_4 : decode cX7_lowestOf 4 = .ok (.iload_n 3, 1) := by decide +kernel
theorem dX7_lowestOf_5 : decode cX7_lowestOf 5 = .ok (.bipush 64, 2) := by decide +kernel
theorem dX7_lowestOf_7 : decode cX7_lowestOf 7 = .ok (.if_icmp .ge 28, 3) := by decide +kernel
theorem dX7_lowestOf_10 : decode cX7_lowestOf 10 = .ok (.aload_n 0, 1) := by decide +kernel
theorem dX7_lowestOf_11 : decode cX7_lowestOf 11 = .ok (.getfield 25, 3) := by decide +kernel
theorem dX7_lowestOf_14 : decode cX7_lowestOf 14 = .ok (.iload_n 3, 1) := by decide +kernel
theorem dX7_lowestOf_15 : decode cX7_lowestOf 15 = .ok (.iaload, 1) := by decide +kernel
theorem dX7_lowestOf_16 : decode cX7_lowestOf 16 = .ok (.iload_n 3, 1) := by decide +kernel
theorem dX7_lowestOf_17 : decode cX7_lowestOf 17 = .ok (.if_icmp .ne 12, 3) := by decide +kernel
theorem dX7_lowestOf_20 : decode cX7_lowestOf 20 = .ok (.iload_n 2, 1) := by decide +kernel
theorem dX7_lowestOf_21 : decode cX7_lowestOf 21 = .ok (.ifCond .ne 5, 3) := by decide +kernel
theorem dX7_lowestOf_24 : decode cX7_lowestOf 24 = .ok (.iload_n 3, 1) := by decide +kernel
theorem dX7_lowestOf_25 : decode cX7_lowestOf 25 = .ok (.ireturn, 1) := by decide +kernel
theorem dX7_lowestOf_26 : decode cX7_lowestOf 26 = .ok (.iinc 2 (-1), 3) := by decide +kernel
theorem dX7_lowestOf_29 : decode cX7_lowestOf 29 = .ok (.iinc 3 1, 3) := by decide +kernel
theorem dX7_lowestOf_32 : decode cX7_lowestOf 32 = .ok (.goto (-28), 3) := by decide +kernel
theorem dX7_lowestOf_35 : decode cX7_lowestOf 35 = .ok (.bipush 64, 2) := by decide +kernel
theorem dX7_lowestOf_37 : decode cX7_lowestOf 37 = .ok (.ireturn, 1) := by decide +kernel
theorem dX7_ofRink_0 : decode cX7_ofRink 0 = .ok (.iload_n 2, 1) := by decide +kernel
theorem dX7_ofRink_1 : decode cX7_ofRink 1 = .ok (.ifCond .ne 7, 3) := by decide +kernel
theorem dX7_ofRink_4 : decode cX7_ofRink 4 = .ok (.iload_n 1, 1) := by decide +kernel
theorem dX7_ofRink_5 : decode cX7_ofRink 5 = .ok (.goto 25, 3) := by decide +kernel
theorem dX7_ofRink_8 : decode cX7_ofRink 8 = .ok (.iload_n 2, 1) := by decide +kernel
theorem dX7_ofRink_9 : decode cX7_ofRink 9 = .ok (.iconst 1, 1) := by decide +kernel
theorem dX7_ofRink_10 : decode cX7_ofRink 10 = .ok (.if_icmp .ne 11, 3) := by decide +kernel
theorem dX7_ofRink_13 : decode cX7_ofRink 13 = .ok (.aload_n 0, 1) := by decide +kernel
theorem dX7_ofRink_14 : decode cX7_ofRink 14 = .ok (.iload_n 1, 1) := by decide +kernel
theorem dX7_ofRink_15 : decode cX7_ofRink 15 = .ok (.invokevirtual 82, 3) := by decide +kernel
theorem dX7_ofRink_18 : decode cX7_ofRink 18 = .ok (.goto 12, 3) := by decide +kernel
theorem dX7_ofRink_21 : decode cX7_ofRink 21 = .ok (.aload_n 0, 1) := by decide +kernel
theorem dX7_ofRink_22 : decode cX7_ofRink 22 = .ok (.getfield 7, 3) := by decide +kernel
theorem dX7_ofRink_25 : decode cX7_ofRink 25 = .ok (.bipush 64, 2) := by decide +kernel
theorem dX7_ofRink_27 : decode cX7_ofRink 27 = .ok (.iload_n 1, 1) := by decide +kernel
theorem dX7_ofRink_28 : decode cX7_ofRink 28 = .ok (.iadd, 1) := by decide +kernel
theorem dX7_ofRink_29 : decode cX7_ofRink 29 = .ok (.iaload, 1) := by decide +kernel
theorem dX7_ofRink_30 : decode cX7_ofRink 30 = .ok (.ireturn, 1) := by decide +kernel
theorem dX7_rink_0 : decode cX7_rink 0 = .ok (.aload_n 0, 1) := by decide +kernel
theorem dX7_rink_1 : decode cX7_rink 1 = .ok (.iload_n 1, 1) := by decide +kernel
theorem dX7_rink_2 : decode cX7_rink 2 = .ok (.ifCond .ge 7, 3) := by decide +kernel
theorem dX7_rink_5 : decode cX7_rink 5 = .ok (.iconst 1, 1) := by decide +kernel
theorem dX7_rink_6 : decode cX7_rink 6 = .ok (.goto 17, 3) := by decide +kernel
theorem dX7_rink_9 : decode cX7_rink 9 = .ok (.iload_n 2, 1) := by decide +kernel
theorem dX7_rink_10 : decode cX7_rink 10 = .ok (.iconst 0, 1) := by decide +kernel
theorem dX7_rink_11 : decode cX7_rink 11 = .ok (.iconst 2, 1) := by decide +kernel
theorem dX7_rink_12 : decode cX7_rink 12 = .ok (.invokestatic 43, 3) := by decide +kernel
theorem dX7_rink_15 : decode cX7_rink 15 = .ok (.ifCond .eq 7, 3) := by decide +kernel
theorem dX7_rink_18 : decode cX7_rink 18 = .ok (.iconst 0, 1) := by decide +kernel
theorem dX7_rink_19 : decode cX7_rink 19 = .ok (.goto 4, 3) := by decide +kernel
theorem dX7_rink_22 : decode cX7_rink 22 = .ok (.iconst 2, 1) := by decide +kernel
theorem dX7_rink_23 : decode cX7_rink 23 = .ok (.invokevirtual 102, 3) := by decide +kernel
theorem dX7_rink_26 : decode cX7_rink 26 = .ok (.ifCond .eq 5, 3) := by decide +kernel
theorem dX7_rink_29 : decode cX7_rink 29 = .ok (.iconst 0, 1) := by decide +kernel
theorem dX7_rink_30 : decode cX7_rink 30 = .ok (.ireturn, 1) := by decide +kernel
theorem dX7_rink_31 : decode cX7_rink 31 = .ok (.aload_n 0, 1) := by decide +kernel
theorem dX7_rink_32 : decode cX7_rink 32 = .ok (.invokevirtual 79, 3) := by decide +kernel
theorem dX7_rink_35 : decode cX7_rink 35 = .ok (.aload_n 0, 1) := by decide +kernel
theorem dX7_rink_36 : decode cX7_rink 36 = .ok (.iload_n 1, 1) := by decide +kernel
theorem dX7_rink_37 : decode cX7_rink 37 = .ok (.invokevirtual 171, 3) := by decide +kernel
theorem dX7_rink_40 : decode cX7_rink 40 = .ok (.istore_n 3, 1) := by decide +kernel
theorem dX7_rink_41 : decode cX7_rink 41 = .ok (.iload_n 3, 1) := by decide +kernel
theorem dX7_rink_42 : decode cX7_rink 42 = .ok (.bipush 64, 2) := by decide +kernel
theorem dX7_rink_44 : decode cX7_rink 44 = .ok (.if_icmp .ne 7, 3) := by decide +kernel
theorem dX7_rink_47 : decode cX7_rink 47 = .ok (.iconst (-1), 1) := by decide +kernel
theorem dX7_rink_48 : decode cX7_rink 48 = .ok (.goto 9, 3) := by decide +kernel
theorem dX7_rink_51 : decode cX7_rink 51 = .ok (.aload_n 0, 1) := by decide +kernel
theorem dX7_rink_52 : decode cX7_rink 52 = .ok (.iload_n 3, 1) := by decide +kernel
theorem dX7_rink_53 : decode cX7_rink 53 = .ok (.iload_n 2, 1) := by decide +kernel
theorem dX7_rink_54 : decode cX7_rink 54 = .ok (.invokevirtual 174, 3) := by decide +kernel
theorem dX7_rink_57 : decode cX7_rink 57 = .ok (.ireturn, 1) := by decide +kernel
theorem dX7_owned_0 : decode cX7_owned 0 = .ok (.iconst 0, 1) := by decide +kernel
theorem dX7_owned_1 : decode cX7_owned 1 = .ok (.istore_n 1, 1) := by decide +kernel
theorem dX7_owned_2 : decode cX7_owned 2 = .ok (.iconst 0, 1) := by decide +kernel
theorem dX7_owned_3 : decode cX7_owned 3 = .ok (.istore_n 2, 1) := by decide +kernel
theorem dX7_owned_4 : decode cX7_owned 4 = .ok (.iload_n 2, 1) := by decide +kernel
theorem dX7_owned_5 : decode cX7_owned 5 = .ok (.bipush 64, 2) := by decide +kernel
theorem dX7_owned_7 : decode cX7_owned 7 = .ok (.if_icmp .ge 40, 3) := by decide +kernel
theorem dX7_owned_10 : decode cX7_owned 10 = .ok (.iload_n 1, 1) := by decide +kernel
theorem dX7_owned_11 : decode cX7_owned 11 = .ok (.aload_n 0, 1) := by decide +kernel
theorem dX7_owned_12 : decode cX7_owned 12 = .ok (.getfield 25, 3) := by decide +kernel
theorem dX7_owned_15 : decode cX7_owned 15 = .ok (.iload_n 2, 1) := by decide +kernel
theorem dX7_owned_16 : decode cX7_owned 16 = .ok (.iaload, 1) := by decide +kernel
theorem dX7_owned_17 : decode cX7_owned 17 = .ok (.iload_n 2, 1) := by decide +kernel
theorem dX7_owned_18 : decode cX7_owned 18 = .ok (.if_icmp .ne 20, 3) := by decide +kernel
theorem dX7_owned_21 : decode cX7_owned 21 = .ok (.aload_n 0, 1) := by decide +kernel
theorem dX7_owned_22 : decode cX7_owned 22 = .ok (.getfield 7, 3) := by decide +kernel
theorem dX7_owned_25 : decode cX7_owned 25 = .ok (.bipush 64, 2) := by decide +kernel
theorem dX7_owned_27 : decode cX7_owned 27 = .ok (.iload_n 2, 1) := by decide +kernel
theorem dX7_owned_28 : decode cX7_owned 28 = .ok (.iadd, 1) := by decide +kernel
theorem dX7_owned_29 : decode cX7_owned 29 = .ok (.iaload, 1) := by decide +kernel
theorem dX7_owned_30 : decode cX7_owned 30 = .ok (.iconst (-1), 1) := by decide +kernel
theorem dX7_owned_31 : decode cX7_owned 31 = .ok (.if_icmp .eq 7, 3) := by decide +kernel
theorem dX7_owned_34 : decode cX7_owned 34 = .ok (.iconst 1, 1) := by decide +kernel
theorem dX7_owned_35 : decode cX7_owned 35 = .ok (.goto 4, 3) := by decide +kernel
theorem dX7_owned_38 : decode cX7_owned 38 = .ok (.iconst 0, 1) := by decide +kernel
theorem dX7_owned_39 : decode cX7_owned 39 = .ok (.iadd, 1) := by decide +kernel
theorem dX7_owned_40 : decode cX7_owned 40 = .ok (.istore_n 1, 1) := by decide +kernel
theorem dX7_owned_41 : decode cX7_owned 41 = .ok (.iinc 2 1, 3) := by decide +kernel
theorem dX7_owned_44 : decode cX7_owned 44 = .ok (.goto (-40), 3) := by decide +kernel
theorem dX7_owned_47 : decode cX7_owned 47 = .ok (.iload_n 1, 1) := by decide +kernel
theorem dX7_owned_48 : decode cX7_owned 48 = .ok (.ireturn, 1) := by decide +kernel
theorem dX7_cuts_0 : decode cX7_cuts 0 = .ok (.iconst 0, 1) := by decide +kernel
theorem dX7_cuts_1 : decode cX7_cuts 1 = .ok (.istore_n 1, 1) := by decide +kernel
theorem dX7_cuts_2 : decode cX7_cuts 2 = .ok (.iconst 0, 1) := by decide +kernel
theorem dX7_cuts_3 : decode cX7_cuts 3 = .ok (.istore_n 2, 1) := by decide +kernel
theorem dX7_cuts_4 : decode cX7_cuts 4 = .ok (.iload_n 2, 1) := by decide +kernel
theorem dX7_cuts_5 : decode cX7_cuts 5 = .ok (.sipush 144, 3) := by decide +kernel
theorem dX7_cuts_8 : decode cX7_cuts 8 = .ok (.if_icmp .ge 22, 3) := by decide +kernel
theorem dX7_cuts_11 : decode cX7_cuts 11 = .ok (.iload_n 1, 1) := by decide +kernel
theorem dX7_cuts_12 : decode cX7_cuts 12 = .ok (.aload_n 0, 1) := by decide +kernel
theorem dX7_cuts_13 : decode cX7_cuts 13 = .ok (.getfield 7, 3) := by decide +kernel
theorem dX7_cuts_16 : decode cX7_cuts 16 = .ok (.sipush 128, 3) := by decide +kernel
theorem dX7_cuts_19 : decode cX7_cuts 19 = .ok (.iload_n 2, 1) := by decide +kernel
theorem dX7_cuts_20 : decode cX7_cuts 20 = .ok (.iadd, 1) := by decide +kernel
theorem dX7_cuts_21 : decode cX7_cuts 21 = .ok (.iaload, 1) := by decide +kernel
theorem dX7_cuts_22 : decode cX7_cuts 22 = .ok (.iadd, 1) := by decide +kernel
theorem dX7_cuts_23 : decode cX7_cuts 23 = .ok (.istore_n 1, 1) := by decide +kernel
theorem dX7_cuts_24 : decode cX7_cuts 24 = .ok (.iinc 2 1, 3) := by decide +kernel
theorem dX7_cuts_27 : decode cX7_cuts 27 = .ok (.goto (-23), 3) := by decide +kernel
theorem dX7_cuts_30 : decode cX7_cuts 30 = .ok (.iload_n 1, 1) := by decide +kernel
theorem dX7_cuts_31 : decode cX7_cuts 31 = .ok (.ireturn, 1) := by decide +kernel
theorem dX7_greatest_0 : decode cX7_greatest 0 = .ok (.iconst 0, 1) := by decide +kernel
theorem dX7_greatest_1 : decode cX7_greatest 1 = .ok (.istore_n 1, 1) := by decide +kernel
theorem dX7_greatest_2 : decode cX7_greatest 2 = .ok (.iconst 0, 1) := by decide +kernel
theorem dX7_greatest_3 : decode cX7_greatest 3 = .ok (.istore_n 2, 1) := by decide +kernel
theorem dX7_greatest_4 : decode cX7_greatest 4 = .ok (.iload_n 2, 1) := by decide +kernel
theorem dX7_greatest_5 : decode cX7_greatest 5 = .ok (.bipush 64, 2) := by decide +kernel
theorem dX7_greatest_7 : decode cX7_greatest 7 = .ok (.if_icmp .ge 40, 3) := by decide +kernel
theorem dX7_greatest_10 : decode cX7_greatest 10 = .ok (.aload_n 0, 1) := by decide +kernel
theorem dX7_greatest_11 : decode cX7_greatest 11 = .ok (.getfield 25, 3) := by decide +kernel
theorem dX7_greatest_14 : decode cX7_greatest 14 = .ok (.iload_n 2, 1) := by decide +kernel
theorem dX7_greatest_15 : decode cX7_greatest 15 = .ok (.iaload, 1) := by decide +kernel
theorem dX7_greatest_16 : decode cX7_greatest 16 = .ok (.iload_n 2, 1) := by decide +kernel
theorem dX7_greatest_17 : decode cX7_greatest 17 = .ok (.if_icmp .ne 11, 3) := by decide +kernel
theorem dX7_greatest_20 : decode cX7_greatest 20 = .ok (.aload_n 0, 1) := by decide +kernel
theorem dX7_greatest_21 : decode cX7_greatest 21 = .ok (.iload_n 2, 1) := by decide +kernel
theorem dX7_greatest_22 : decode cX7_greatest 22 = .ok (.invokevirtual 82, 3) := by decide +kernel
theorem dX7_greatest_25 : decode cX7_greatest 25 = .ok (.goto 4, 3) := by decide +kernel
theorem dX7_greatest_28 : decode cX7_greatest 28 = .ok (.iconst 0, 1) := by decide +kernel
theorem dX7_greatest_29 : decode cX7_greatest 29 = .ok (.istore_n 3, 1) := by decide +kernel
theorem dX7_greatest_30 : decode cX7_greatest 30 = .ok (.iload_n 3, 1) := by decide +kernel
theorem dX7_greatest_31 : decode cX7_greatest 31 = .ok (.iload_n 1, 1) := by decide +kernel
theorem dX7_greatest_32 : decode cX7_greatest 32 = .ok (.if_icmp .le 7, 3) := by decide +kernel
theorem dX7_greatest_35 : decode cX7_greatest 35 = .ok (.iload_n 3, 1) := by decide +kernel
theorem dX7_greatest_36 : decode cX7_greatest 36 = .ok (.goto 4, 3) := by decide +kernel
theorem dX7_greatest_39 : decode cX7_greatest 39 = .ok (.iload_n 1, 1) := by decide +kernel
theorem dX7_greatest_40 : decode cX7_greatest 40 = .ok (.istore_n 1, 1) := by decide +kernel
theorem dX7_greatest_41 : decode cX7_greatest 41 = .ok (.iinc 2 1, 3) := by decide +kernel
theorem dX7_greatest_44 : decode cX7_greatest 44 = .ok (.goto (-40), 3) := by decide +kernel
theorem dX7_greatest_47 : decode cX7_greatest 47 = .ok (.iload_n 1, 1) := by decide +kernel
theorem dX7_greatest_48 : decode cX7_greatest 48 = .ok (.ireturn, 1) := by decide +kernel
theorem dX7_counts_0 : decode cX7_counts 0 = .ok (.iload_n 1, 1) := by decide +kernel
theorem dX7_counts_1 : decode cX7_counts 1 = .ok (.tableswitch 158 0 10 #[59, 64, 69, 74, 79, 84, 93, 102, 111, 144, 153], 59) := by decide +kernel
theorem dX7_counts_60 : decode cX7_counts 60 = .ok (.aload_n 0, 1) := by decide +kernel
theorem dX7_counts_61 : decode cX7_counts 61 = .ok (.invokevirtual 144, 3) := by decide +kernel
theorem dX7_counts_64 : decode cX7_counts 64 = .ok (.ireturn, 1) := by decide +kernel
theorem dX7_counts_65 : decode cX7_counts 65 = .ok (.aload_n 0, 1) := by decide +kernel
theorem dX7_counts_66 : decode cX7_counts 66 = .ok (.invokevirtual 177, 3) := by decide +kernel
theorem dX7_counts_69 : decode cX7_counts 69 = .ok (.ireturn, 1) := by decide +kernel
theorem dX7_counts_70 : decode cX7_counts 70 = .ok (.aload_n 0, 1) := by decide +kernel
theorem dX7_counts_71 : decode cX7_counts 71 = .ok (.invokevirtual 180, 3) := by decide +kernel
theorem dX7_counts_74 : decode cX7_counts 74 = .ok (.ireturn, 1) := by decide +kernel
theorem dX7_counts_75 : decode cX7_counts 75 = .ok (.aload_n 0, 1) := by decide +kernel
theorem dX7_counts_76 : decode cX7_counts 76 = .ok (.invokevirtual 183, 3) := by decide +kernel
theorem dX7_counts_79 : decode cX7_counts 79 = .ok (.ireturn, 1) := by decide +kernel
theorem dX7_counts_80 : decode cX7_counts 80 = .ok (.aload_n 0, 1) := by decide +kernel
theorem dX7_counts_81 : decode cX7_counts 81 = .ok (.invokevirtual 186, 3) := by decide +kernel
theorem dX7_counts_84 : decode cX7_counts 84 = .ok (.ireturn, 1) := by decide +kernel
theorem dX7_counts_85 : decode cX7_counts 85 = .ok (.aload_n 0, 1) := by decide +kernel
theorem dX7_counts_86 : decode cX7_counts 86 = .ok (.getfield 7, 3) := by decide +kernel
theorem dX7_counts_89 : decode cX7_counts 89 = .ok (.sipush 437, 3) := by decide +kernel
theorem dX7_counts_92 : decode cX7_counts 92 = .ok (.iaload, 1) := by decide +kernel
theorem dX7_counts_93 : decode cX7_counts 93 = .ok (.ireturn, 1) := by decide +kernel
theorem dX7_counts_94 : decode cX7_counts 94 = .ok (.aload_n 0, 1) := by decide +kernel
theorem dX7_counts_95 : decode cX7_counts 95 = .ok (.getfield 7, 3) := by decide +kernel
theorem dX7_counts_98 : decode cX7_counts 98 = .ok (.sipush 438, 3) := by decide +kernel
theorem dX7_counts_101 : decode cX7_counts 101 = .ok (.iaload, 1) := by decide +kernel
theorem dX7_counts_102 : decode cX7_counts 102 = .ok (.ireturn, 1) := by decide +kernel
theorem dX7_counts_103 : decode cX7_counts 103 = .ok (.aload_n 0, 1) := by decide +kernel
theorem dX7_counts_104 : decode cX7_counts 104 = .ok (.getfield 7, 3) := by decide +kernel
theorem dX7_counts_107 : decode cX7_counts 107 = .ok (.sipush 439, 3) := by decide +kernel
theorem dX7_counts_110 : decode cX7_counts 110 = .ok (.iaload, 1) := by decide +kernel
theorem dX7_counts_111 : decode cX7_counts 111 = .ok (.ireturn, 1) := by decide +kernel
theorem dX7_counts_112 : decode cX7_counts 112 = .ok (.aload_n 0, 1) := by decide +kernel
theorem dX7_counts_113 : decode cX7_counts 113 = .ok (.getfield 7, 3) := by decide +kernel
theorem dX7_counts_116 : decode cX7_counts 116 = .ok (.iconst 0, 1) := by decide +kernel
theorem dX7_counts_117 : decode cX7_counts 117 = .ok (.iconst 2, 1) := by decide +kernel
theorem dX7_counts_118 : decode cX7_counts 118 = .ok (.invokestatic 35, 3) := by decide +kernel
theorem dX7_counts_121 : decode cX7_counts 121 = .ok (.iaload, 1) := by decide +kernel
theorem dX7_counts_122 : decode cX7_counts 122 = .ok (.aload_n 0, 1) := by decide +kernel
theorem dX7_counts_123 : decode cX7_counts 123 = .ok (.getfield 7, 3) := by decide +kernel
theorem dX7_counts_126 : decode cX7_counts 126 = .ok (.iconst 1, 1) := by decide +kernel
theorem dX7_counts_127 : decode cX7_counts 127 = .ok (.iconst 2, 1) := by decide +kernel
theorem dX7_counts_128 : decode cX7_counts 128 = .ok (.invokestatic 35, 3) := by decide +kernel
theorem dX7_counts_131 : decode cX7_counts 131 = .ok (.iaload, 1) := by decide +kernel
theorem dX7_counts_132 : decode cX7_counts 132 = .ok (.iadd, 1) := by decide +kernel
theorem dX7_counts_133 : decode cX7_counts 133 = .ok (.aload_n 0, 1) := by decide +kernel
theorem dX7_counts_134 : decode cX7_counts 134 = .ok (.getfield 7, 3) := by decide +kernel
theorem dX7_counts_137 : decode cX7_counts 137 = .ok (.iconst 2, 1) := by decide +kernel
theorem dX7_counts_138 : decode cX7_counts 138 = .ok (.iconst 2, 1) := by decide +kernel
theorem dX7_counts_139 : decode cX7_counts 139 = .ok (.invokestatic 35, 3) := by decide +kernel
theorem dX7_counts_142 : decode cX7_counts 142 = .ok (.iaload, 1) := by decide +kernel
theorem dX7_counts_143 : decode cX7_counts 143 = .ok (.iadd, 1) := by decide +kernel
theorem dX7_counts_144 : decode cX7_counts 144 = .ok (.ireturn, 1) := by decide +kernel
theorem dX7_counts_145 : decode cX7_counts 145 = .ok (.aload_n 0, 1) := by decide +kernel
theorem dX7_counts_146 : decode cX7_counts 146 = .ok (.getfield 7, 3) := by decide +kernel
theorem dX7_counts_149 : decode cX7_counts 149 = .ok (.sipush 440, 3) := by decide +kernel
theorem dX7_counts_152 : decode cX7_counts 152 = .ok (.iaload, 1) := by decide +kernel
theorem dX7_counts_153 : decode cX7_counts 153 = .ok (.ireturn, 1) := by decide +kernel
theorem dX7_counts_154 : decode cX7_counts 154 = .ok (.aload_n 0, 1) := by decide +kernel
theorem dX7_counts_155 : decode cX7_counts 155 = .ok (.invokevirtual 189, 3) := by decide +kernel
theorem dX7_counts_158 : decode cX7_counts 158 = .ok (.ireturn, 1) := by decide +kernel
theorem dX7_counts_159 : decode cX7_counts 159 = .ok (.aload_n 0, 1) := by decide +kernel
theorem dX7_counts_160 : decode cX7_counts 160 = .ok (.getfield 47, 3) := by decide +kernel
theorem dX7_counts_163 : decode cX7_counts 163 = .ok (.ireturn, 1) := by decide +kernel
theorem dX7_count_0 : decode cX7_count 0 = .ok (.aload_n 0, 1) := by decide +kernel
theorem dX7_count_1 : decode cX7_count 1 = .ok (.iload_n 1, 1) := by decide +kernel
theorem dX7_count_2 : decode cX7_count 2 = .ok (.iconst 0, 1) := by decide +kernel
theorem dX7_count_3 : decode cX7_count 3 = .ok (.bipush 11, 2) := by decide +kernel
theorem dX7_count_5 : decode cX7_count 5 = .ok (.invokestatic 43, 3) := by decide +kernel
theorem dX7_count_8 : decode cX7_count 8 = .ok (.ifCond .eq 7, 3) := by decide +kernel
theorem dX7_count_11 : decode cX7_count 11 = .ok (.iconst 0, 1) := by decide +kernel
theorem dX7_count_12 : decode cX7_count 12 = .ok (.goto 4, 3) := by decide +kernel
theorem dX7_count_15 : decode cX7_count 15 = .ok (.iconst 1, 1) := by decide +kernel
theorem dX7_count_16 : decode cX7_count 16 = .ok (.invokevirtual 102, 3) := by decide +kernel
theorem dX7_count_19 : decode cX7_count 19 = .ok (.ifCond .eq 5, 3) := by decide +kernel
theorem dX7_count_22 : decode cX7_count 22 = .ok (.iconst 0, 1) := by decide +kernel
theorem dX7_count_23 : decode cX7_count 23 = .ok (.ireturn, 1) := by decide +kernel
theorem dX7_count_24 : decode cX7_count 24 = .ok (.aload_n 0, 1) := by decide +kernel
theorem dX7_count_25 : decode cX7_count 25 = .ok (.invokevirtual 79, 3) := by decide +kernel
theorem dX7_count_28 : decode cX7_count 28 = .ok (.aload_n 0, 1) := by decide +kernel
theorem dX7_count_29 : decode cX7_count 29 = .ok (.iload_n 1, 1) := by decide +kernel
theorem dX7_count_30 : decode cX7_count 30 = .ok (.invokevirtual 192, 3) := by decide +kernel
theorem dX7_count_33 : decode cX7_count 33 = .ok (.ireturn, 1) := by decide +kernel
theorem dX7_setting_0 : decode cX7_setting 0 = .ok (.aload_n 0, 1) := by decide +kernel
theorem dX7_setting_1 : decode cX7_setting 1 = .ok (.iload_n 1, 1) := by decide +kernel
theorem dX7_setting_2 : decode cX7_setting 2 = .ok (.invokestatic 118, 3) := by decide +kernel
theorem dX7_setting_5 : decode cX7_setting 5 = .ok (.ifCond .eq 7, 3) := by decide +kernel
theorem dX7_setting_8 : decode cX7_setting 8 = .ok (.iconst 0, 1) := by decide +kernel
theorem dX7_setting_9 : decode cX7_setting 9 = .ok (.goto 4, 3) := by decide +kernel
theorem dX7_setting_12 : decode cX7_setting 12 = .ok (.iconst 1, 1) := by decide +kernel
theorem dX7_setting_13 : decode cX7_setting 13 = .ok (.invokevirtual 102, 3) := by decide +kernel
theorem dX7_setting_16 : decode cX7_setting 16 = .ok (.ifCond .eq 5, 3) := by decide +kernel
theorem dX7_setting_19 : decode cX7_setting 19 = .ok (.iconst 0, 1) := by decide +kernel
theorem dX7_setting_20 : decode cX7_setting 20 = .ok (.ireturn, 1) := by decide +kernel
theorem dX7_setting_21 : decode cX7_setting 21 = .ok (.aload_n 0, 1) := by decide +kernel
theorem dX7_setting_22 : decode cX7_setting 22 = .ok (.getfield 7, 3) := by decide +kernel
theorem dX7_setting_25 : decode cX7_setting 25 = .ok (.sipush 434, 3) := by decide +kernel
theorem dX7_setting_28 : decode cX7_setting 28 = .ok (.iload_n 1, 1) := by decide +kernel
theorem dX7_setting_29 : decode cX7_setting 29 = .ok (.iadd, 1) := by decide +kernel
theorem dX7_setting_30 : decode cX7_setting 30 = .ok (.iaload, 1) := by decide +kernel
theorem dX7_setting_31 : decode cX7_setting 31 = .ok (.ireturn, 1) := by decide +kernel
theorem dX7_why_0 : decode cX7_why 0 = .ok (.aload_n 0, 1) := by decide +kernel
theorem dX7_why_1 : decode cX7_why 1 = .ok (.iload_n 1, 1) := by decide +kernel
theorem dX7_why_2 : decode cX7_why 2 = .ok (.invokestatic 99, 3) := by decide +kernel
theorem dX7_why_5 : decode cX7_why 5 = .ok (.ifCond .ne 7, 3) := by decide +kernel
theorem dX7_why_8 : decode cX7_why 8 = .ok (.iconst 1, 1) := by decide +kernel
theorem dX7_why_9 : decode cX7_why 9 = .ok (.goto 17, 3) := by decide +kernel
theorem dX7_why_12 : decode cX7_why 12 = .ok (.iload_n 2, 1) := by decide +kernel
theorem dX7_why_13 : decode cX7_why 13 = .ok (.iconst 0, 1) := by decide +kernel
theorem dX7_why_14 : decode cX7_why 14 = .ok (.iconst 3, 1) := by decide +kernel
theorem dX7_why_15 : decode cX7_why 15 = .ok (.invokestatic 43, 3) := by decide +kernel
theorem dX7_why_18 : decode cX7_why 18 = .ok (.ifCond .eq 7, 3) := by decide +kernel
theorem dX7_why_21 : decode cX7_why 21 = .ok (.iconst 0, 1) := by decide +kernel
theorem dX7_why_22 : decode cX7_why 22 = .ok (.goto 4, 3) := by decide +kernel
theorem dX7_why_25 : decode cX7_why 25 = .ok (.iconst 2, 1) := by decide +kernel
theorem dX7_why_26 : decode cX7_why 26 = .ok (.invokevirtual 102, 3) := by decide +kernel
theorem dX7_why_29 : decode cX7_why 29 = .ok (.ifCond .eq 5, 3) := by decide +kernel
theorem dX7_why_32 : decode cX7_why 32 = .ok (.iconst 0, 1) := by decide +kernel
theorem dX7_why_33 : decode cX7_why 33 = .ok (.ireturn, 1) := by decide +kernel
theorem dX7_why_34 : decode cX7_why 34 = .ok (.aload_n 0, 1) := by decide +kernel
theorem dX7_why_35 : decode cX7_why 35 = .ok (.iload_n 1, 1) := by decide +kernel
theorem dX7_why_36 : decode cX7_why 36 = .ok (.iload_n 2, 1) := by decide +kernel
theorem dX7_why_37 : decode cX7_why 37 = .ok (.invokevirtual 93, 3) := by decide +kernel
theorem dX7_why_40 : decode cX7_why 40 = .ok (.ireturn, 1) := by decide +kernel
theorem dX7_ifGlided_0 : decode cX7_ifGlided 0 = .ok (.aload_n 0, 1) := by decide +kernel
theorem dX7_ifGlided_1 : decode cX7_ifGlided 1 = .ok (.iload_n 1, 1) := by decide +kernel
theorem dX7_ifGlided_2 : decode cX7_ifGlided 2 = .ok (.invokestatic 99, 3) := by decide +kernel
theorem dX7_ifGlided_5 : decode cX7_ifGlided 5 = .ok (.ifCond .ne 7, 3) := by decide +kernel
theorem dX7_ifGlided_8 : decode cX7_ifGlided 8 = .ok (.iconst 1, 1) := by decide +kernel
theorem dX7_ifGlided_9 : decode cX7_ifGlided 9 = .ok (.goto 37, 3) := by decide +kernel
theorem dX7_ifGlided_12 : decode cX7_ifGlided 12 = .ok (.iload_n 2, 1) := by decide +kernel
theorem dX7_ifGlided_13 : decode cX7_ifGlided 13 = .ok (.iconst 0, 1) := by decide +kernel
theorem dX7_ifGlided_14 : decode cX7_ifGlided 14 = .ok (.iconst 3, 1) := by decide +kernel
theorem dX7_ifGlided_15 : decode cX7_ifGlided 15 = .ok (.invokestatic 43, 3) := by decide +kernel
theorem dX7_ifGlided_18 : decode cX7_ifGlided 18 = .ok (.ifCond .eq 27, 3) := by decide +kernel
theorem dX7_ifGlided_21 : decode cX7_ifGlided 21 = .ok (.iload_n 3, 1) := by decide +kernel
theorem dX7_ifGlided_22 : decode cX7_ifGlided 22 = .ok (.iconst 1, 1) := by decide +kernel
theorem dX7_ifGlided_23 : decode cX7_ifGlided 23 = .ok (.bipush 8, 2) := by decide +kernel
theorem dX7_ifGlided_25 : decode cX7_ifGlided 25 = .ok (.invokestatic 43, 3) := by decide +kernel
theorem dX7_ifGlided_28 : decode cX7_ifGlided 28 = .ok (.ifCond .eq 17, 3) := by decide +kernel
theorem dX7_ifGlided_31 : decode cX7_ifGlided 31 = .ok (.iload 4, 2) := by decide +kernel
theorem dX7_ifGlided_33 : decode cX7_ifGlided 33 = .ok (.iconst 0, 1) := by decide +kernel
theorem dX7_ifGlided_34 : decode cX7_ifGlided 34 = .ok (.iconst 3, 1) := by decide +kernel
theorem dX7_ifGlided_35 : decode cX7_ifGlided 35 = .ok (.invokestatic 43, 3) := by decide +kernel
theorem dX7_ifGlided_38 : decode cX7_ifGlided 38 = .ok (.ifCond .eq 7, 3) := by decide +kernel
theorem dX7_ifGlided_41 : decode cX7_ifGlided 41 = .ok (.iconst 0, 1) := by decide +kernel
theorem dX7_ifGlided_42 : decode cX7_ifGlided 42 = .ok (.goto 4, 3) := by decide +kernel
theorem dX7_ifGlided_45 : decode cX7_ifGlided 45 = .ok (.iconst 2, 1) := by decide +kernel
theorem dX7_ifGlided_46 : decode cX7_ifGlided 46 = .ok (.invokevirtual 102, 3) := by decide +kernel
theorem dX7_ifGlided_49 : decode cX7_ifGlided 49 = .ok (.ifCond .eq 5, 3) := by decide +kernel
theorem dX7_ifGlided_52 : decode cX7_ifGlided 52 = .ok (.iconst 0, 1) := by decide +kernel
theorem dX7_ifGlided_53 : decode cX7_ifGlided 53 = .ok (.ireturn, 1) := by decide +kernel
theorem dX7_ifGlided_54 : decode cX7_ifGlided 54 = .ok (.aload_n 0, 1) := by decide +kernel
theorem dX7_ifGlided_55 : decode cX7_ifGlided 55 = .ok (.invokevirtual 147, 3) := by decide +kernel
theorem dX7_ifGlided_58 : decode cX7_ifGlided 58 = .ok (.aload_n 0, 1) := by decide +kernel
theorem dX7_ifGlided_59 : decode cX7_ifGlided 59 = .ok (.iload_n 1, 1) := by decide +kernel
theorem dX7_ifGlided_60 : decode cX7_ifGlided 60 = .ok (.invokevirtual 162, 3) := by decide +kernel
theorem dX7_ifGlided_63 : decode cX7_ifGlided 63 = .ok (.istore 5, 2) := by decide +kernel
theorem dX7_ifGlided_65 : decode cX7_ifGlided 65 = .ok (.aload_n 0, 1) := by decide +kernel
theorem dX7_ifGlided_66 : decode cX7_ifGlided 66 = .ok (.getfield 7, 3) := by decide +kernel
theorem dX7_ifGlided_69 : decode cX7_ifGlided 69 = .ok (.iload_n 1, 1) := by decide +kernel
theorem dX7_ifGlided_70 : decode cX7_ifGlided 70 = .ok (.iconst 4, 1) := by decide +kernel
theorem dX7_ifGlided_71 : decode cX7_ifGlided 71 = .ok (.invokestatic 35, 3) := by decide +kernel
theorem dX7_ifGlided_74 : decode cX7_ifGlided 74 = .ok (.iaload, 1) := by decide +kernel
theorem dX7_ifGlided_75 : decode cX7_ifGlided 75 = .ok (.istore 6, 2) := by decide +kernel
theorem dX7_ifGlided_77 : decode cX7_ifGlided 77 = .ok (.aload_n 0, 1) := by decide +kernel
theorem dX7_ifGlided_78 : decode cX7_ifGlided 78 = .ok (.iload_n 1, 1) := by decide +kernel
theorem dX7_ifGlided_79 : decode cX7_ifGlided 79 = .ok (.iload_n 2, 1) := by decide +kernel
theorem dX7_ifGlided_80 : decode cX7_ifGlided 80 = .ok (.iload_n 3, 1) := by decide +kernel
theorem dX7_ifGlided_81 : decode cX7_ifGlided 81 = .ok (.invokevirtual 108, 3) := by decide +kernel
theorem dX7_ifGlided_84 : decode cX7_ifGlided 84 = .ok (.istore 7, 2) := by decide +kernel
theorem dX7_ifGlided_86 : decode cX7_ifGlided 86 = .ok (.aload_n 0, 1) := by decide +kernel
theorem dX7_ifGlided_87 : decode cX7_ifGlided 87 = .ok (.invokevirtual 79, 3) := by decide +kernel
theorem dX7_ifGlided_90 : decode cX7_ifGlided 90 = .ok (.iload 4, 2) := by decide +kernel
theorem dX7_ifGlided_92 : decode cX7_ifGlided 92 = .ok (.ifCond .ne 8, 3) := by decide +kernel
theorem dX7_ifGlided_95 : decode cX7_ifGlided 95 = .ok (.iload 7, 2) := by decide +kernel
theorem dX7_ifGlided_97 : decode cX7_ifGlided 97 = .ok (.goto 46, 3) := by decide +kernel
theorem dX7_ifGlided_100 : decode cX7_ifGlided 100 = .ok (.iload 4, 2) := by decide +kernel
theorem dX7_ifGlided_102 : decode cX7_ifGlided 102 = .ok (.iconst 1, 1) := by decide +kernel
theorem dX7_ifGlided_103 : decode cX7_ifGlided 103 = .ok (.if_icmp .ne 14, 3) := by decide +kernel
theorem dX7_ifGlided_106 : decode cX7_ifGlided 106 = .ok (.aload_n 0, 1) := by decide +kernel
theorem dX7_ifGlided_107 : decode cX7_ifGlided 107 = .ok (.iload_n 1, 1) := by decide +kernel
theorem dX7_ifGlided_108 : decode cX7_ifGlided 108 = .ok (.invokevirtual 162, 3) := by decide +kernel
theorem dX7_ifGlided_111 : decode cX7_ifGlided 111 = .ok (.iload 5, 2) := by decide +kernel
theorem dX7_ifGlided_113 : decode cX7_ifGlided 113 = .ok (.isub, 1) := by decide +kernel
theorem dX7_ifGlided_114 : decode cX7_ifGlided 114 = .ok (.goto 29, 3) := by decide +kernel
theorem dX7_ifGlided_117 : decode cX7_ifGlided 117 = .ok (.iload 4, 2) := by decide +kernel
theorem dX7_ifGlided_119 : decode cX7_ifGlided 119 = .ok (.iconst 2, 1) := by decide +kernel
theorem dX7_ifGlided_120 : decode cX7_ifGlided 120 = .ok (.if_icmp .ne 19, 3) := by decide +kernel
theorem dX7_ifGlided_123 : decode cX7_ifGlided 123 = .ok (.aload_n 0, 1) := by decide +kernel
theorem dX7_ifGlided_124 : decode cX7_ifGlided 124 = .ok (.getfield 7, 3) := by decide +kernel
theorem dX7_ifGlided_127 : decode cX7_ifGlided 127 = .ok (.iload_n 1, 1) := by decide +kernel
theorem dX7_ifGlided_128 : decode cX7_ifGlided 128 = .ok (.iconst 4, 1) := by decide +kernel
theorem dX7_ifGlided_129 : decode cX7_ifGlided 129 = .ok (.invokestatic 35, 3) := by decide +kernel
theorem dX7_ifGlided_132 : decode cX7_ifGlided 132 = .ok (.iaload, 1) := by decide +kernel
theorem dX7_ifGlided_133 : decode cX7_ifGlided 133 = .ok (.iload 6, 2) := by decide +kernel
theorem dX7_ifGlided_135 : decode cX7_ifGlided 135 = .ok (.isub, 1) := by decide +kernel
theorem dX7_ifGlided_136 : decode cX7_ifGlided 136 = .ok (.goto 7, 3) := by decide +kernel
theorem dX7_ifGlided_139 : decode cX7_ifGlided 139 = .ok (.aload_n 0, 1) := by decide +kernel
theorem dX7_ifGlided_140 : decode cX7_ifGlided 140 = .ok (.invokevirtual 177, 3) := by decide +kernel
theorem dX7_ifGlided_143 : decode cX7_ifGlided 143 = .ok (.istore 8, 2) := by decide +kernel
theorem dX7_ifGlided_145 : decode cX7_ifGlided 145 = .ok (.aload_n 0, 1) := by decide +kernel
theorem dX7_ifGlided_146 : decode cX7_ifGlided 146 = .ok (.invokevirtual 150, 3) := by decide +kernel
theorem dX7_ifGlided_149 : decode cX7_ifGlided 149 = .ok (.iload 8, 2) := by decide +kernel
theorem dX7_ifGlided_151 : decode cX7_ifGlided 151 = .ok (.ireturn, 1) := by decide +kernel
theorem dX7_bestOf_0 : decode cX7_bestOf 0 = .ok (.iconst (-1), 1) := by decide +kernel
theorem dX7_bestOf_1 : decode cX7_bestOf 1 = .ok (.istore_n 2, 1) := by decide +kernel
theorem dX7_bestOf_2 : decode cX7_bestOf 2 = .ok (.iconst 0, 1) := by decide +kernel
theorem dX7_bestOf_3 : decode cX7_bestOf 3 = .ok (.istore_n 3, 1) := by decide +kernel
theorem dX7_bestOf_4 : decode cX7_bestOf 4 = .ok (.aload_n 0, 1) := by decide +kernel
theorem dX7_bestOf_5 : decode cX7_bestOf 5 = .ok (.iload_n 1, 1) := by decide +kernel
theorem dX7_bestOf_6 : decode cX7_bestOf 6 = .ok (.invokevirtual 162, 3) := by decide +kernel
theorem dX7_bestOf_9 : decode cX7_bestOf 9 = .ok (.istore 4, 2) := by decide +kernel
theorem dX7_bestOf_11 : decode cX7_bestOf 11 = .ok (.aload_n 0, 1) := by decide +kernel
theorem dX7_bestOf_12 : decode cX7_bestOf 12 = .ok (.invokevirtual 147, 3) := by decide +kernel
theorem dX7_bestOf_15 : decode cX7_bestOf 15 = .ok (.iconst 0, 1) := by decide +kernel
theorem dX7_bestOf_16 : decode cX7_bestOf 16 = .ok (.istore 5, 2) := by decide +kernel
theorem dX7_bestOf_18 : decode cX7_bestOf 18 = .ok (.iload 5, 2) := by decide +kernel
theorem dX7_bestOf_20 : decode cX7_bestOf 20 = .ok (.iconst 4, 1) := by decide +kernel
theorem dX7_bestOf_21 : decode cX7_bestOf 21 = .ok (.if_icmp .ge 79, 3) := by decide +kernel
theorem dX7_bestOf_24 : decode cX7_bestOf 24 = .ok (.iconst 1, 1) := by decide +kernel
theorem dX7_bestOf_25 : decode cX7_bestOf 25 = .ok (.istore 6, 2) := by decide +kernel
theorem dX7_bestOf_27 : decode cX7_bestOf 27 = .ok (.iload 6, 2) := by decide +kernel
theorem dX7_bestOf_29 : decode cX7_bestOf 29 = .ok (.bipush 8, 2) := by decide +kernel
theorem dX7_bestOf_31 : decode cX7_bestOf 31 = .ok (.if_icmp .gt 59, 3) := by decide +kernel
theorem dX7_bestOf_34 : decode cX7_bestOf 34 = .ok (.aload_n 0, 1) := by decide +kernel
theorem dX7_bestOf_35 : decode cX7_bestOf 35 = .ok (.iload_n 1, 1) := by decide +kernel
theorem dX7_bestOf_36 : decode cX7_bestOf 36 = .ok (.iload 5, 2) := by decide +kernel
theorem dX7_bestOf_38 : decode cX7_bestOf 38 = .ok (.invokevirtual 93, 3) := by decide +kernel
theorem dX7_bestOf_41 : decode cX7_bestOf 41 = .ok (.ifCond .ne 49, 3) := by decide +kernel
theorem dX7_bestOf_44 : decode cX7_bestOf 44 = .ok (.aload_n 0, 1) := by decide +kernel
theorem dX7_bestOf_45 : decode cX7_bestOf 45 = .ok (.iload_n 1, 1) := by decide +kernel
theorem dX7_bestOf_46 : decode cX7_bestOf 46 = .ok (.iload 5, 2) := by decide +kernel
theorem dX7_bestOf_48 : decode cX7_bestOf 48 = .ok (.invokevirtual 96, 3) := by decide +kernel
theorem dX7_bestOf_51 : decode cX7_bestOf 51 = .ok (.aload_n 0, 1) := by decide +kernel
theorem dX7_bestOf_52 : decode cX7_bestOf 52 = .ok (.iload_n 1, 1) := by decide +kernel
theorem dX7_bestOf_53 : decode cX7_bestOf 53 = .ok (.invokevirtual 162, 3) := by decide +kernel
theorem dX7_bestOf_56 : decode cX7_bestOf 56 = .ok (.iload 4, 2) := by decide +kernel
theorem dX7_bestOf_58 : decode cX7_bestOf 58 = .ok (.isub, 1) := by decide +kernel
theorem dX7_bestOf_59 : decode cX7_bestOf 59 = .ok (.istore 7, 2) := by decide +kernel
theorem dX7_bestOf_61 : decode cX7_bestOf 61 = .ok (.iload_n 2, 1) := by decide +kernel
theorem dX7_bestOf_62 : decode cX7_bestOf 62 = .ok (.iconst (-1), 1) := by decide +kernel
theorem dX7_bestOf_63 : decode cX7_bestOf 63 = .ok (.if_icmp .eq 9, 3) := by decide +kernel
theorem dX7_bestOf_66 : decode cX7_bestOf 66 = .ok (.iload 7, 2) := by decide +kernel
theorem dX7_bestOf_68 : decode cX7_bestOf 68 = .ok (.iload_n 3, 1) := by decide +kernel
theorem dX7_bestOf_69 : decode cX7_bestOf 69 = .ok (.if_icmp .le 15, 3) := by decide +kernel
theorem dX7_bestOf_72 : decode cX7_bestOf 72 = .ok (.bipush 10, 2) := by decide +kernel
theorem dX7_bestOf_74 : decode cX7_bestOf 74 = .ok (.iload 5, 2) := by decide +kernel
theorem dX7_bestOf_76 : decode cX7_bestOf 76 = .ok (.imul, 1) := by decide +kernel
theorem dX7_bestOf_77 : decode cX7_bestOf 77 = .ok (.iload 6, 2) := by decide +kernel
theorem dX7_bestOf_79 : decode cX7_bestOf 79 = .ok (.iadd, 1) := by decide +kernel
theorem dX7_bestOf_80 : decode cX7_bestOf 80 = .ok (.istore_n 2, 1) := by decide +kernel
theorem dX7_bestOf_81 : decode cX7_bestOf 81 = .ok (.iload 7, 2) := by decide +kernel
theorem dX7_bestOf_83 : decode cX7_bestOf 83 = .ok (.istore_n 3, 1) := by decide +kernel
theorem dX7_bestOf_84 : decode cX7_bestOf 84 = .ok (.iinc 6 1, 3) := by decide +kernel
theorem dX7_bestOf_87 : decode cX7_bestOf 87 = .ok (.goto (-60), 3) := by decide +kernel
theorem dX7_bestOf_90 : decode cX7_bestOf 90 = .ok (.aload_n 0, 1) := by decide +kernel
theorem dX7_bestOf_91 : decode cX7_bestOf 91 = .ok (.invokevirtual 150, 3) := by decide +kernel
theorem dX7_bestOf_94 : decode cX7_bestOf 94 = .ok (.iinc 5 1, 3) := by decide +kernel
theorem dX7_bestOf_97 : decode cX7_bestOf 97 = .ok (.goto (-79), 3) := by decide +kernel
theorem dX7_bestOf_100 : decode cX7_bestOf 100 = .ok (.iload_n 2, 1) := by decide +kernel
theorem dX7_bestOf_101 : decode cX7_bestOf 101 = .ok (.ireturn, 1) := by decide +kernel
theorem dX7_best_0 : decode cX7_best 0 = .ok (.aload_n 0, 1) := by decide +kernel
theorem dX7_best_1 : decode cX7_best 1 = .ok (.iload_n 1, 1) := by decide +kernel
theorem dX7_best_2 : decode cX7_best 2 = .ok (.invokestatic 99, 3) := by decide +kernel
theorem dX7_best_5 : decode cX7_best 5 = .ok (.ifCond .eq 7, 3) := by decide +kernel
theorem dX7_best_8 : decode cX7_best 8 = .ok (.iconst 0, 1) := by decide +kernel
theorem dX7_best_9 : decode cX7_best 9 = .ok (.goto 4, 3) := by decide +kernel
theorem dX7_best_12 : decode cX7_best 12 = .ok (.iconst 1, 1) := by decide +kernel
theorem dX7_best_13 : decode cX7_best 13 = .ok (.invokevirtual 102, 3) := by decide +kernel
theorem dX7_best_16 : decode cX7_best 16 = .ok (.ifCond .eq 5, 3) := by decide +kernel
theorem dX7_best_19 : decode cX7_best 19 = .ok (.iconst 0, 1) := by decide +kernel
theorem dX7_best_20 : decode cX7_best 20 = .ok (.ireturn, 1) := by decide +kernel
theorem dX7_best_21 : decode cX7_best 21 = .ok (.aload_n 0, 1) := by decide +kernel
theorem dX7_best_22 : decode cX7_best 22 = .ok (.iload_n 1, 1) := by decide +kernel
theorem dX7_best_23 : decode cX7_best 23 = .ok (.invokevirtual 195, 3) := by decide +kernel
theorem dX7_best_26 : decode cX7_best 26 = .ok (.ireturn, 1) := by decide +kernel
theorem dX7_calm_0 : decode cX7_calm 0 = .ok (.aload_n 0, 1) := by decide +kernel
theorem dX7_calm_1 : decode cX7_calm 1 = .ok (.iconst 0, 1) := by decide +kernel
theorem dX7_calm_2 : decode cX7_calm 2 = .ok (.putfield 39, 3) := by decide +kernel
theorem dX7_calm_5 : decode cX7_calm 5 = .ok (.aload_n 0, 1) := by decide +kernel
theorem dX7_calm_6 : decode cX7_calm 6 = .ok (.iconst (-1), 1) := by decide +kernel
theorem dX7_calm_7 : decode cX7_calm 7 = .ok (.invokevirtual 153, 3) := by decide +kernel
theorem dX7_calm_10 : decode cX7_calm 10 = .ok (.ireturn, 1) := by decide +kernel
theorem dX7_ownedCells_0 : decode cX7_ownedCells 0 = .ok (.aload_n 0, 1) := by decide +kernel
theorem dX7_ownedCells_1 : decode cX7_ownedCells 1 = .ok (.iconst 0, 1) := by decide +kernel
theorem dX7_ownedCells_2 : decode cX7_ownedCells 2 = .ok (.invokevirtual 162, 3) := by decide +kernel
theorem dX7_ownedCells_5 : decode cX7_ownedCells 5 = .ok (.aload_n 0, 1) := by decide +kernel
theorem dX7_ownedCells_6 : decode cX7_ownedCells 6 = .ok (.iconst 1, 1) := by decide +kernel
theorem dX7_ownedCells_7 : decode cX7_ownedCells 7 = .ok (.invokevirtual 162, 3) := by decide +kernel
theorem dX7_ownedCells_10 : decode cX7_ownedCells 10 = .ok (.iadd, 1) := by decide +kernel
theorem dX7_ownedCells_11 : decode cX7_ownedCells 11 = .ok (.aload_n 0, 1) := by decide +kernel
theorem dX7_ownedCells_12 : decode cX7_ownedCells 12 = .ok (.iconst 2, 1) := by decide +kernel
theorem dX7_ownedCells_13 : decode cX7_ownedCells 13 = .ok (.invokevirtual 162, 3) := by decide +kernel
theorem dX7_ownedCells_16 : decode cX7_ownedCells 16 = .ok (.iadd, 1) := by decide +kernel
theorem dX7_ownedCells_17 : decode cX7_ownedCells 17 = .ok (.ireturn, 1) := by decide +kernel
theorem dX7_share_0 : decode cX7_share 0 = .ok (.aload_n 0, 1) := by decide +kernel
theorem dX7_share_1 : decode cX7_share 1 = .ok (.invokevirtual 144, 3) := by decide +kernel
theorem dX7_share_4 : decode cX7_share 4 = .ok (.ifCond .ne 7, 3) := by decide +kernel
theorem dX7_share_7 : decode cX7_share 7 = .ok (.dconst 0, 1) := by decide +kernel
theorem dX7_share_8 : decode cX7_share 8 = .ok (.goto 14, 3) := by decide +kernel
theorem dX7_share_11 : decode cX7_share 11 = .ok (.aload_n 0, 1) := by decide +kernel
theorem dX7_share_12 : decode cX7_share 12 = .ok (.invokevirtual 198, 3) := by decide +kernel
theorem dX7_share_15 : decode cX7_share 15 = .ok (.i2d, 1) := by decide +kernel
theorem dX7_share_16 : decode cX7_share 16 = .ok (.aload_n 0, 1) := by decide +kernel
theorem dX7_share_17 : decode cX7_share 17 = .ok (.invokevirtual 144, 3) := by decide +kernel
theorem dX7_share_20 : decode cX7_share 20 = .ok (.i2d, 1) := by decide +kernel
theorem dX7_share_21 : decode cX7_share 21 = .ok (.ddiv, 1) := by decide +kernel
theorem dX7_share_22 : decode cX7_share 22 = .ok (.dreturn, 1) := by decide +kernel
theorem dX7_ownedShare_0 : decode cX7_ownedShare 0 = .ok (.aload_n 0, 1) := by decide +kernel
theorem dX7_ownedShare_1 : decode cX7_ownedShare 1 = .ok (.iconst 0, 1) := by decide +kernel
theorem dX7_ownedShare_2 : decode cX7_ownedShare 2 = .ok (.putfield 39, 3) := by decide +kernel
theorem dX7_ownedShare_5 : decode cX7_ownedShare 5 = .ok (.aload_n 0, 1) := by decide +kernel
theorem dX7_ownedShare_6 : decode cX7_ownedShare 6 = .ok (.invokevirtual 201, 3) := by decide +kernel
theorem dX7_ownedShare_9 : decode cX7_ownedShare 9 = .ok (.dreturn, 1) := by decide +kernel
theorem dX7_mean_0 : decode cX7_mean 0 = .ok (.aload_n 0, 1) := by decide +kernel
theorem dX7_mean_1 : decode cX7_mean 1 = .ok (.invokevirtual 144, 3) := by decide +kernel
theorem dX7_mean_4 : decode cX7_mean 4 = .ok (.ifCond .ne 7, 3) := by decide +kernel
theorem dX7_mean_7 : decode cX7_mean 7 = .ok (.fconst 0, 1) := by decide +kernel
theorem dX7_mean_8 : decode cX7_mean 8 = .ok (.goto 14, 3) := by decide +kernel
theorem dX7_mean_11 : decode cX7_mean 11 = .ok (.aload_n 0, 1) := by decide +kernel
theorem dX7_mean_12 : decode cX7_mean 12 = .ok (.invokevirtual 144, 3) := by decide +kernel
theorem dX7_mean_15 : decode cX7_mean 15 = .ok (.i2f, 1) := by decide +kernel
theorem dX7_mean_16 : decode cX7_mean 16 = .ok (.aload_n 0, 1) := by decide +kernel
theorem dX7_mean_17 : decode cX7_mean 17 = .ok (.invokevirtual 177, 3) := by decide +kernel
theorem dX7_mean_20 : decode cX7_mean 20 = .ok (.i2f, 1) := by decide +kernel
theorem dX7_mean_21 : decode cX7_mean 21 = .ok (.fdiv, 1) := by decide +kernel
theorem dX7_mean_22 : decode cX7_mean 22 = .ok (.freturn, 1) := by decide +kernel
theorem dX7_meanRink_0 : decode cX7_meanRink 0 = .ok (.aload_n 0, 1) := by decide +kernel
theorem dX7_meanRink_1 : decode cX7_meanRink 1 = .ok (.iconst 0, 1) := by decide +kernel
theorem dX7_meanRink_2 : decode cX7_meanRink 2 = .ok (.putfield 39, 3) := by decide +kernel
theorem dX7_meanRink_5 : decode cX7_meanRink 5 = .ok (.aload_n 0, 1) := by decide +kernel
theorem dX7_meanRink_6 : decode cX7_meanRink 6 = .ok (.invokevirtual 79, 3) := by decide +kernel
theorem dX7_meanRink_9 : decode cX7_meanRink 9 = .ok (.aload_n 0, 1) := by decide +kernel
theorem dX7_meanRink_10 : decode cX7_meanRink 10 = .ok (.invokevirtual 205, 3) := by decide +kernel
theorem dX7_meanRink_13 : decode cX7_meanRink 13 = .ok (.freturn, 1) := by decide +kernel
theorem dX7_digest_0 : decode cX7_digest 0 = .ok (.aload_n 0, 1) := by decide +kernel
theorem dX7_digest_1 : decode cX7_digest 1 = .ok (.iconst 0, 1) := by decide +kernel
theorem dX7_digest_2 : decode cX7_digest 2 = .ok (.putfield 39, 3) := by decide +kernel
theorem dX7_digest_5 : decode cX7_digest 5 = .ok (.ldc2_w 209, 3) := by decide +kernel
theorem dX7_digest_8 : decode cX7_digest 8 = .ok (.lstore_n 1, 1) := by decide +kernel
theorem dX7_digest_9 : decode cX7_digest 9 = .ok (.aload_n 0, 1) := by decide +kernel
theorem dX7_digest_10 : decode cX7_digest 10 = .ok (.invokevirtual 79, 3) := by decide +kernel
theorem dX7_digest_13 : decode cX7_digest 13 = .ok (.iconst 0, 1) := by decide +kernel
theorem dX7_digest_14 : decode cX7_digest 14 = .ok (.istore_n 3, 1) := by decide +kernel
theorem dX7_digest_15 : decode cX7_digest 15 = .ok (.iload_n 3, 1) := by decide +kernel
theorem dX7_digest_16 : decode cX7_digest 16 = .ok (.bipush 12, 2) := by decide +kernel
theorem dX7_digest_18 : decode cX7_digest 18 = .ok (.if_icmp .ge 22, 3) := by decide +kernel
theorem dX7_digest_21 : decode cX7_digest 21 = .ok (.ldc2_w 211, 3) := by decide +kernel
theorem dX7_digest_24 : decode cX7_digest 24 = .ok (.lload_n 1, 1) := by decide +kernel
theorem dX7_digest_25 : decode cX7_digest 25 = .ok (.lmul, 1) := by decide +kernel
theorem dX7_digest_26 : decode cX7_digest 26 = .ok (.aload_n 0, 1) := by decide +kernel
theorem dX7_digest_27 : decode cX7_digest 27 = .ok (.iload_n 3, 1) := by decide +kernel
theorem dX7_digest_28 : decode cX7_digest 28 = .ok (.invokevirtual 192, 3) := by decide +kernel
theorem dX7_digest_31 : decode cX7_digest 31 = .ok (.i2l, 1) := by decide +kernel
theorem dX7_digest_32 : decode cX7_digest 32 = .ok (.ladd, 1) := by decide +kernel
theorem dX7_digest_33 : decode cX7_digest 33 = .ok (.lstore_n 1, 1) := by decide +kernel
theorem dX7_digest_34 : decode cX7_digest 34 = .ok (.iinc 3 1, 3) := by decide +kernel
theorem dX7_digest_37 : decode cX7_digest 37 = .ok (.goto (-22), 3) := by decide +kernel
theorem dX7_digest_40 : decode cX7_digest 40 = .ok (.iconst 0, 1) := by decide +kernel
theorem dX7_digest_41 : decode cX7_digest 41 = .ok (.istore_n 3, 1) := by decide +kernel
theorem dX7_digest_42 : decode cX7_digest 42 = .ok (.iload_n 3, 1) := by decide +kernel
theorem dX7_digest_43 : decode cX7_digest 43 = .ok (.iconst 3, 1) := by decide +kernel
theorem dX7_digest_44 : decode cX7_digest 44 = .ok (.if_icmp .ge 27, 3) := by decide +kernel
theorem dX7_digest_47 : decode cX7_digest 47 = .ok (.ldc2_w 211, 3) := by decide +kernel
theorem dX7_digest_50 : decode cX7_digest 50 = .ok (.lload_n 1, 1) := by decide +kernel
theorem dX7_digest_51 : decode cX7_digest 51 = .ok (.lmul, 1) := by decide +kernel
theorem dX7_digest_52 : decode cX7_digest 52 = .ok (.aload_n 0, 1) := by decide +kernel
theorem dX7_digest_53 : decode cX7_digest 53 = .ok (.getfield 7, 3) := by decide +kernel
theorem dX7_digest_56 : decode cX7_digest 56 = .ok (.sipush 434, 3) := by decide +kernel
theorem dX7_digest_59 : decode cX7_digest 59 = .ok (.iload_n 3, 1) := by decide +kernel
theorem dX7_digest_60 : decode cX7_digest 60 = .ok (.iadd, 1) := by decide +kernel
theorem dX7_digest_61 : decode cX7_digest 61 = .ok (.iaload, 1) := by decide +kernel
theorem dX7_digest_62 : decode cX7_digest 62 = .ok (.i2l, 1) := by decide +kernel
theorem dX7_digest_63 : decode cX7_digest 63 = .ok (.ladd, 1) := by decide +kernel
theorem dX7_digest_64 : decode cX7_digest 64 = .ok (.lstore_n 1, 1) := by decide +kernel
theorem dX7_digest_65 : decode cX7_digest 65 = .ok (.iinc 3 1, 3) := by decide +kernel
theorem dX7_digest_68 : decode cX7_digest 68 = .ok (.goto (-26), 3) := by decide +kernel
theorem dX7_digest_71 : decode cX7_digest 71 = .ok (.iconst 0, 1) := by decide +kernel
theorem dX7_digest_72 : decode cX7_digest 72 = .ok (.istore_n 3, 1) := by decide +kernel
theorem dX7_digest_73 : decode cX7_digest 73 = .ok (.iload_n 3, 1) := by decide +kernel
theorem dX7_digest_74 : decode cX7_digest 74 = .ok (.bipush 64, 2) := by decide +kernel
theorem dX7_digest_76 : decode cX7_digest 76 = .ok (.if_icmp .ge 40, 3) := by decide +kernel
theorem dX7_digest_79 : decode cX7_digest 79 = .ok (.iconst 0, 1) := by decide +kernel
theorem dX7_digest_80 : decode cX7_digest 80 = .ok (.istore 4, 2) := by decide +kernel
theorem dX7_digest_82 : decode cX7_digest 82 = .ok (.iload 4, 2) := by decide +kernel
theorem dX7_digest_84 : decode cX7_digest 84 = .ok (.bipush 6, 2) := by decide +kernel
theorem dX7_digest_86 : decode cX7_digest 86 = .ok (.if_icmp .ge 24, 3) := by decide +kernel
theorem dX7_digest_89 : decode cX7_digest 89 = .ok (.ldc2_w 211, 3) := by decide +kernel
theorem dX7_digest_92 : decode cX7_digest 92 = .ok (.lload_n 1, 1) := by decide +kernel
theorem dX7_digest_93 : decode cX7_digest 93 = .ok (.lmul, 1) := by decide +kernel
theorem dX7_digest_94 : decode cX7_digest 94 = .ok (.aload_n 0, 1) := by decide +kernel
theorem dX7_digest_95 : decode cX7_digest 95 = .ok (.iload_n 3, 1) := by decide +kernel
theorem dX7_digest_96 : decode cX7_digest 96 = .ok (.iload 4, 2) := by decide +kernel
theorem dX7_digest_98 : decode cX7_digest 98 = .ok (.invokevirtual 156, 3) := by decide +kernel
theorem dX7_digest_101 : decode cX7_digest 101 = .ok (.i2l, 1) := by decide +kernel
theorem dX7_digest_102 : decode cX7_digest 102 = .ok (.ladd, 1) := by decide +kernel
theorem dX7_digest_103 : decode cX7_digest 103 = .ok (.lstore_n 1, 1) := by decide +kernel
theorem dX7_digest_104 : decode cX7_digest 104 = .ok (.iinc 4 1, 3) := by decide +kernel
theorem dX7_digest_107 : decode cX7_digest 107 = .ok (.goto (-25), 3) := by decide +kernel
theorem dX7_digest_110 : decode cX7_digest 110 = .ok (.iinc 3 1, 3) := by decide +kernel
theorem dX7_digest_113 : decode cX7_digest 113 = .ok (.goto (-40), 3) := by decide +kernel
theorem dX7_digest_116 : decode cX7_digest 116 = .ok (.iconst 0, 1) := by decide +kernel
theorem dX7_digest_117 : decode cX7_digest 117 = .ok (.istore_n 3, 1) := by decide +kernel
theorem dX7_digest_118 : decode cX7_digest 118 = .ok (.iload_n 3, 1) := by decide +kernel
theorem dX7_digest_119 : decode cX7_digest 119 = .ok (.bipush 81, 2) := by decide +kernel
theorem dX7_digest_121 : decode cX7_digest 121 = .ok (.if_icmp .ge 75, 3) := by decide +kernel
theorem dX7_digest_124 : decode cX7_digest 124 = .ok (.iconst 1, 1) := by decide +kernel
theorem dX7_digest_125 : decode cX7_digest 125 = .ok (.istore 4, 2) := by decide +kernel
theorem dX7_digest_127 : decode cX7_digest 127 = .ok (.iload 4, 2) := by decide +kernel
theorem dX7_digest_129 : decode cX7_digest 129 = .ok (.iconst 3, 1) := by decide +kernel
theorem dX7_digest_130 : decode cX7_digest 130 = .ok (.if_icmp .ge 60, 3) := by decide +kernel
theorem dX7_digest_133 : decode cX7_digest 133 = .ok (.iload_n 3, 1) := by decide +kernel
theorem dX7_digest_134 : decode cX7_digest 134 = .ok (.bipush 9, 2) := by decide +kernel
theorem dX7_digest_136 : decode cX7_digest 136 = .ok (.irem, 1) := by decide +kernel
theorem dX7_digest_137 : decode cX7_digest 137 = .ok (.iload_n 3, 1) := by decide +kernel
theorem dX7_digest_138 : decode cX7_digest 138 = .ok (.bipush 9, 2) := by decide +kernel
theorem dX7_digest_140 : decode cX7_digest 140 = .ok (.idiv, 1) := by decide +kernel
theorem dX7_digest_141 : decode cX7_digest 141 = .ok (.iload 4, 2) := by decide +kernel
theorem dX7_digest_143 : decode cX7_digest 143 = .ok (.invokestatic 72, 3) := by decide +kernel
theorem dX7_digest_146 : decode cX7_digest 146 = .ok (.istore 5, 2) := by decide +kernel
theorem dX7_digest_148 : decode cX7_digest 148 = .ok (.iconst 0, 1) := by decide +kernel
theorem dX7_digest_149 : decode cX7_digest 149 = .ok (.istore 6, 2) := by decide +kernel
theorem dX7_digest_151 : decode cX7_digest 151 = .ok (.iload 6, 2) := by decide +kernel
theorem dX7_digest_153 : decode cX7_digest 153 = .ok (.iconst 3, 1) := by decide +kernel
theorem dX7_digest_154 : decode cX7_digest 154 = .ok (.if_icmp .ge 30, 3) := by decide +kernel
theorem dX7_digest_157 : decode cX7_digest 157 = .ok (.iload 5, 2) := by decide +kernel
theorem dX7_digest_159 : decode cX7_digest 159 = .ok (.ifCond .lt 25, 3) := by decide +kernel
theorem dX7_digest_162 : decode cX7_digest 162 = .ok (.ldc2_w 211, 3) := by decide +kernel
theorem dX7_digest_165 : decode cX7_digest 165 = .ok (.lload_n 1, 1) := by decide +kernel
theorem dX7_digest_166 : decode cX7_digest 166 = .ok (.lmul, 1) := by decide +kernel
theorem dX7_digest_167 : decode cX7_digest 167 = .ok (.aload_n 0, 1) := by decide +kernel
theorem dX7_digest_168 : decode cX7_digest 168 = .ok (.iload 5, 2) := by decide +kernel
theorem dX7_digest_170 : decode cX7_digest 170 = .ok (.iload 6, 2) := by decide +kernel
theorem dX7_digest_172 : decode cX7_digest 172 = .ok (.invokevirtual 159, 3) := by decide +kernel
theorem dX7_digest_175 : decode cX7_digest 175 = .ok (.i2l, 1) := by decide +kernel
theorem dX7_digest_176 : decode cX7_digest 176 = .ok (.ladd, 1) := by decide +kernel
theorem dX7_digest_177 : decode cX7_digest 177 = .ok (.lstore_n 1, 1) := by decide +kernel
theorem dX7_digest_178 : decode cX7_digest 178 = .ok (.iinc 6 1, 3) := by decide +kernel
theorem dX7_digest_181 : decode cX7_digest 181 = .ok (.goto (-30), 3) := by decide +kernel
theorem dX7_digest_184 : decode cX7_digest 184 = .ok (.iinc 4 1, 3) := by decide +kernel
theorem dX7_digest_187 : decode cX7_digest 187 = .ok (.goto (-60), 3) := by decide +kernel
theorem dX7_digest_190 : decode cX7_digest 190 = .ok (.iinc 3 1, 3) := by decide +kernel
theorem dX7_digest_193 : decode cX7_digest 193 = .ok (.goto (-75), 3) := by decide +kernel
theorem dX7_digest_196 : decode cX7_digest 196 = .ok (.iconst 0, 1) := by decide +kernel
theorem dX7_digest_197 : decode cX7_digest 197 = .ok (.istore_n 3, 1) := by decide +kernel
theorem dX7_digest_198 : decode cX7_digest 198 = .ok (.iload_n 3, 1) := by decide +kernel
theorem dX7_digest_199 : decode cX7_digest 199 = .ok (.iconst 3, 1) := by decide +kernel
theorem dX7_digest_200 : decode cX7_digest 200 = .ok (.if_icmp .ge 87, 3) := by decide +kernel
theorem dX7_digest_203 : decode cX7_digest 203 = .ok (.aload_n 0, 1) := by decide +kernel
theorem dX7_digest_204 : decode cX7_digest 204 = .ok (.invokevirtual 79, 3) := by decide +kernel
theorem dX7_digest_207 : decode cX7_digest 207 = .ok (.iconst 0, 1) := by decide +kernel
theorem dX7_digest_208 : decode cX7_digest 208 = .ok (.istore 4, 2) := by decide +kernel
theorem dX7_digest_210 : decode cX7_digest 210 = .ok (.iload 4, 2) := by decide +kernel
theorem dX7_digest_212 : decode cX7_digest 212 = .ok (.bipush 9, 2) := by decide +kernel
theorem dX7_digest_214 : decode cX7_digest 214 = .ok (.if_icmp .ge 24, 3) := by decide +kernel
theorem dX7_digest_217 : decode cX7_digest 217 = .ok (.ldc2_w 211, 3) := by decide +kernel
theorem dX7_digest_220 : decode cX7_digest 220 = .ok (.lload_n 1, 1) := by decide +kernel
theorem dX7_digest_221 : decode cX7_digest 221 = .ok (.lmul, 1) := by decide +kernel
theorem dX7_digest_222 : decode cX7_digest 222 = .ok (.aload_n 0, 1) := by decide +kernel
theorem dX7_digest_223 : decode cX7_digest 223 = .ok (.iload_n 3, 1) := by decide +kernel
theorem dX7_digest_224 : decode cX7_digest 224 = .ok (.iload 4, 2) := by decide +kernel
theorem dX7_digest_226 : decode cX7_digest 226 = .ok (.invokevirtual 168, 3) := by decide +kernel
theorem dX7_digest_229 : decode cX7_digest 229 = .ok (.i2l, 1) := by decide +kernel
theorem dX7_digest_230 : decode cX7_digest 230 = .ok (.ladd, 1) := by decide +kernel
theorem dX7_digest_231 : decode cX7_digest 231 = .ok (.lstore_n 1, 1) := by decide +kernel
theorem dX7_digest_232 : decode cX7_digest 232 = .ok (.iinc 4 1, 3) := by decide +kernel
theorem dX7_digest_235 : decode cX7_digest 235 = .ok (.goto (-25), 3) := by decide +kernel
theorem dX7_digest_238 : decode cX7_digest 238 = .ok (.iconst 0, 1) := by decide +kernel
theorem dX7_digest_239 : decode cX7_digest 239 = .ok (.istore 4, 2) := by decide +kernel
theorem dX7_digest_241 : decode cX7_digest 241 = .ok (.iload 4, 2) := by decide +kernel
theorem dX7_digest_243 : decode cX7_digest 243 = .ok (.iconst 4, 1) := by decide +kernel
theorem dX7_digest_244 : decode cX7_digest 244 = .ok (.if_icmp .ge 24, 3) := by decide +kernel
theorem dX7_digest_247 : decode cX7_digest 247 = .ok (.ldc2_w 211, 3) := by decide +kernel
theorem dX7_digest_250 : decode cX7_digest 250 = .ok (.lload_n 1, 1) := by decide +kernel
theorem dX7_digest_251 : decode cX7_digest 251 = .ok (.lmul, 1) := by decide +kernel
theorem dX7_digest_252 : decode cX7_digest 252 = .ok (.aload_n 0, 1) := by decide +kernel
theorem dX7_digest_253 : decode cX7_digest 253 = .ok (.iload_n 3, 1) := by decide +kernel
theorem dX7_digest_254 : decode cX7_digest 254 = .ok (.iload 4, 2) := by decide +kernel
theorem dX7_digest_256 : decode cX7_digest 256 = .ok (.invokevirtual 93, 3) := by decide +kernel
theorem dX7_digest_259 : decode cX7_digest 259 = .ok (.i2l, 1) := by decide +kernel
theorem dX7_digest_260 : decode cX7_digest 260 = .ok (.ladd, 1) := by decide +kernel
theorem dX7_digest_261 : decode cX7_digest 261 = .ok (.lstore_n 1, 1) := by decide +kernel
theorem dX7_digest_262 : decode cX7_digest 262 = .ok (.iinc 4 1, 3) := by decide +kernel
theorem dX7_digest_265 : decode cX7_digest 265 = .ok (.goto (-24), 3) := by decide +kernel
theorem dX7_digest_268 : decode cX7_digest 268 = .ok (.ldc2_w 211, 3) := by decide +kernel
theorem dX7_digest_271 : decode cX7_digest 271 = .ok (.lload_n 1, 1) := by decide +kernel
theorem dX7_digest_272 : decode cX7_digest 272 = .ok (.lmul, 1) := by decide +kernel
theorem dX7_digest_273 : decode cX7_digest 273 = .ok (.aload_n 0, 1) := by decide +kernel
theorem dX7_digest_274 : decode cX7_digest 274 = .ok (.iload_n 3, 1) := by decide +kernel
theorem dX7_digest_275 : decode cX7_digest 275 = .ok (.invokevirtual 195, 3) := by decide +kernel
theorem dX7_digest_278 : decode cX7_digest 278 = .ok (.i2l, 1) := by decide +kernel
theorem dX7_digest_279 : decode cX7_digest 279 = .ok (.ladd, 1) := by decide +kernel
theorem dX7_digest_280 : decode cX7_digest 280 = .ok (.lstore_n 1, 1) := by decide +kernel
theorem dX7_digest_281 : decode cX7_digest 281 = .ok (.iinc 3 1, 3) := by decide +kernel
theorem dX7_digest_284 : decode cX7_digest 284 = .ok (.goto (-86), 3) := by decide +kernel
theorem dX7_digest_287 : decode cX7_digest 287 = .ok (.aload_n 0, 1) := by decide +kernel
theorem dX7_digest_288 : decode cX7_digest 288 = .ok (.invokevirtual 79, 3) := by decide +kernel
theorem dX7_digest_291 : decode cX7_digest 291 = .ok (.iconst 0, 1) := by decide +kernel
theorem dX7_digest_292 : decode cX7_digest 292 = .ok (.istore_n 3, 1) := by decide +kernel
theorem dX7_digest_293 : decode cX7_digest 293 = .ok (.iload_n 3, 1) := by decide +kernel
theorem dX7_digest_294 : decode cX7_digest 294 = .ok (.bipush 64, 2) := by decide +kernel
theorem dX7_digest_296 : decode cX7_digest 296 = .ok (.if_icmp .ge 49, 3) := by decide +kernel
theorem dX7_digest_299 : decode cX7_digest 299 = .ok (.iconst 0, 1) := by decide +kernel
theorem dX7_digest_300 : decode cX7_digest 300 = .ok (.istore 4, 2) := by decide +kernel
theorem dX7_digest_302 : decode cX7_digest 302 = .ok (.iload 4, 2) := by decide +kernel
theorem dX7_digest_304 : decode cX7_digest 304 = .ok (.iconst 3, 1) := by decide +kernel
theorem dX7_digest_305 : decode cX7_digest 305 = .ok (.if_icmp .ge 34, 3) := by decide +kernel
theorem dX7_digest_308 : decode cX7_digest 308 = .ok (.aload_n 0, 1) := by decide +kernel
theorem dX7_digest_309 : decode cX7_digest 309 = .ok (.getfield 25, 3) := by decide +kernel
theorem dX7_digest_312 : decode cX7_digest 312 = .ok (.iload_n 3, 1) := by decide +kernel
theorem dX7_digest_313 : decode cX7_digest 313 = .ok (.iaload, 1) := by decide +kernel
theorem dX7_digest_314 : decode cX7_digest 314 = .ok (.iload_n 3, 1) := by decide +kernel
theorem dX7_digest_315 : decode cX7_digest 315 = .ok (.if_icmp .ne 24, 3) := by decide +kernel
theorem dX7_digest_318 : decode cX7_digest 318 = .ok (.ldc2_w 211, 3) := by decide +kernel
theorem dX7_digest_321 : decode cX7_digest 321 = .ok (.lload_n 1, 1) := by decide +kernel
theorem dX7_digest_322 : decode cX7_digest 322 = .ok (.lmul, 1) := by decide +kernel
theorem dX7_digest_323 : decode cX7_digest 323 = .ok (.aload_n 0, 1) := by decide +kernel
theorem dX7_digest_324 : decode cX7_digest 324 = .ok (.iload_n 3, 1) := by decide +kernel
theorem dX7_digest_325 : decode cX7_digest 325 = .ok (.iload 4, 2) := by decide +kernel
theorem dX7_digest_327 : decode cX7_digest 327 = .ok (.invokevirtual 174, 3) := by decide +kernel
theorem dX7_digest_330 : decode cX7_digest 330 = .ok (.i2l, 1) := by decide +kernel
theorem dX7_digest_331 : decode cX7_digest 331 = .ok (.ladd, 1) := by decide +kernel
theorem dX7_digest_332 : decode cX7_digest 332 = .ok (.lstore_n 1, 1) := by decide +kernel
theorem dX7_digest_333 : decode cX7_digest 333 = .ok (.iinc 4 1, 3) := by decide +kernel
theorem dX7_digest_336 : decode cX7_digest 336 = .ok (.goto (-34), 3) := by decide +kernel
theorem dX7_digest_339 : decode cX7_digest 339 = .ok (.iinc 3 1, 3) := by decide +kernel
theorem dX7_digest_342 : decode cX7_digest 342 = .ok (.goto (-49), 3) := by decide +kernel
theorem dX7_digest_345 : decode cX7_digest 345 = .ok (.ldc2_w 211, 3) := by decide +kernel
theorem dX7_digest_348 : decode cX7_digest 348 = .ok (.lload_n 1, 1) := by decide +kernel
theorem dX7_digest_349 : decode cX7_digest 349 = .ok (.lmul, 1) := by decide +kernel
theorem dX7_digest_350 : decode cX7_digest 350 = .ok (.aload_n 0, 1) := by decide +kernel
theorem dX7_digest_351 : decode cX7_digest 351 = .ok (.iconst (-1), 1) := by decide +kernel
theorem dX7_digest_352 : decode cX7_digest 352 = .ok (.invokevirtual 153, 3) := by decide +kernel
theorem dX7_digest_355 : decode cX7_digest 355 = .ok (.i2l, 1) := by decide +kernel
theorem dX7_digest_356 : decode cX7_digest 356 = .ok (.ladd, 1) := by decide +kernel
theorem dX7_digest_357 : decode cX7_digest 357 = .ok (.lstore_n 1, 1) := by decide +kernel
theorem dX7_digest_358 : decode cX7_digest 358 = .ok (.ldc2_w 211, 3) := by decide +kernel
theorem dX7_digest_361 : decode cX7_digest 361 = .ok (.lload_n 1, 1) := by decide +kernel
theorem dX7_digest_362 : decode cX7_digest 362 = .ok (.lmul, 1) := by decide +kernel
theorem dX7_digest_363 : decode cX7_digest 363 = .ok (.aload_n 0, 1) := by decide +kernel
theorem dX7_digest_364 : decode cX7_digest 364 = .ok (.invokevirtual 201, 3) := by decide +kernel
theorem dX7_digest_367 : decode cX7_digest 367 = .ok (.invokestatic 213, 3) := by decide +kernel
theorem dX7_digest_370 : decode cX7_digest 370 = .ok (.ladd, 1) := by decide +kernel
theorem dX7_digest_371 : decode cX7_digest 371 = .ok (.lstore_n 1, 1) := by decide +kernel
theorem dX7_digest_372 : decode cX7_digest 372 = .ok (.ldc2_w 211, 3) := by decide +kernel
theorem dX7_digest_375 : decode cX7_digest 375 = .ok (.lload_n 1, 1) := by decide +kernel
theorem dX7_digest_376 : decode cX7_digest 376 = .ok (.lmul, 1) := by decide +kernel
theorem dX7_digest_377 : decode cX7_digest 377 = .ok (.aload_n 0, 1) := by decide +kernel
theorem dX7_digest_378 : decode cX7_digest 378 = .ok (.invokevirtual 205, 3) := by decide +kernel
theorem dX7_digest_381 : decode cX7_digest 381 = .ok (.invokestatic 219, 3) := by decide +kernel
theorem dX7_digest_384 : decode cX7_digest 384 = .ok (.i2l, 1) := by decide +kernel
theorem dX7_digest_385 : decode cX7_digest 385 = .ok (.ladd, 1) := by decide +kernel
theorem dX7_digest_386 : decode cX7_digest 386 = .ok (.lstore_n 1, 1) := by decide +kernel
theorem dX7_digest_387 : decode cX7_digest 387 = .ok (.ldc2_w 211, 3) := by decide +kernel
theorem dX7_digest_390 : decode cX7_digest 390 = .ok (.lload_n 1, 1) := by decide +kernel
theorem dX7_digest_391 : decode cX7_digest 391 = .ok (.lmul, 1) := by decide +kernel
theorem dX7_digest_392 : decode cX7_digest 392 = .ok (.aload_n 0, 1) := by decide +kernel
theorem dX7_digest_393 : decode cX7_digest 393 = .ok (.getfield 140, 3) := by decide +kernel
theorem dX7_digest_396 : decode cX7_digest 396 = .ok (.ifCond .eq 7, 3) := by decide +kernel
theorem dX7_digest_399 : decode cX7_digest 399 = .ok (.iconst 1, 1) := by decide +kernel
theorem dX7_digest_400 : decode cX7_digest 400 = .ok (.goto 4, 3) := by decide +kernel
theorem dX7_digest_403 : decode cX7_digest 403 = .ok (.iconst 0, 1) := by decide +kernel
theorem dX7_digest_404 : decode cX7_digest 404 = .ok (.i2l, 1) := by decide +kernel
theorem dX7_digest_405 : decode cX7_digest 405 = .ok (.ladd, 1) := by decide +kernel
theorem dX7_digest_406 : decode cX7_digest 406 = .ok (.lstore_n 1, 1) := by decide +kernel
theorem dX7_digest_407 : decode cX7_digest 407 = .ok (.ldc2_w 211, 3) := by decide +kernel
theorem dX7_digest_410 : decode cX7_digest 410 = .ok (.lload_n 1, 1) := by decide +kernel
theorem dX7_digest_411 : decode cX7_digest 411 = .ok (.lmul, 1) := by decide +kernel
theorem dX7_digest_412 : decode cX7_digest 412 = .ok (.aload_n 0, 1) := by decide +kernel
theorem dX7_digest_413 : decode cX7_digest 413 = .ok (.getfield 121, 3) := by decide +kernel
theorem dX7_digest_416 : decode cX7_digest 416 = .ok (.i2l, 1) := by decide +kernel
theorem dX7_digest_417 : decode cX7_digest 417 = .ok (.ladd, 1) := by decide +kernel
theorem dX7_digest_418 : decode cX7_digest 418 = .ok (.lstore_n 1, 1) := by decide +kernel
theorem dX7_digest_419 : decode cX7_digest 419 = .ok (.iconst 0, 1) := by decide +kernel
theorem dX7_digest_420 : decode cX7_digest 420 = .ok (.istore_n 3, 1) := by decide +kernel
theorem dX7_digest_421 : decode cX7_digest 421 = .ok (.iload_n 3, 1) := by decide +kernel
theorem dX7_digest_422 : decode cX7_digest 422 = .ok (.aload_n 0, 1) := by decide +kernel
theorem dX7_digest_423 : decode cX7_digest 423 = .ok (.getfield 121, 3) := by decide +kernel
theorem dX7_digest_426 : decode cX7_digest 426 = .ok (.if_icmp .ge 23, 3) := by decide +kernel
theorem dX7_digest_429 : decode cX7_digest 429 = .ok (.ldc2_w 211, 3) := by decide +kernel
theorem dX7_digest_432 : decode cX7_digest 432 = .ok (.lload_n 1, 1) := by decide +kernel
theorem dX7_digest_433 : decode cX7_digest 433 = .ok (.lmul, 1) := by decide +kernel
theorem dX7_digest_434 : decode cX7_digest 434 = .ok (.aload_n 0, 1) := by decide +kernel
theorem dX7_digest_435 : decode cX7_digest 435 = .ok (.getfield 22, 3) := by decide +kernel
theorem dX7_digest_438 : decode cX7_digest 438 = .ok (.iload_n 3, 1) := by decide +kernel
theorem dX7_digest_439 : decode cX7_digest 439 = .ok (.iaload, 1) := by decide +kernel
theorem dX7_digest_440 : decode cX7_digest 440 = .ok (.i2l, 1) := by decide +kernel
theorem dX7_digest_441 : decode cX7_digest 441 = .ok (.ladd, 1) := by decide +kernel
theorem dX7_digest_442 : decode cX7_digest 442 = .ok (.lstore_n 1, 1) := by decide +kernel
theorem dX7_digest_443 : decode cX7_digest 443 = .ok (.iinc 3 1, 3) := by decide +kernel
theorem dX7_digest_446 : decode cX7_digest 446 = .ok (.goto (-25), 3) := by decide +kernel
theorem dX7_digest_449 : decode cX7_digest 449 = .ok (.lload_n 1, 1) := by decide +kernel
theorem dX7_digest_450 : decode cX7_digest 450 = .ok (.lreturn, 1) := by decide +kernel
