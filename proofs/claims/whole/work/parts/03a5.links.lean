/-! ===== links: by program (wip/tools/gen_rows.py) ===== -/
theorem fl_0_11 : xfind xFL 0 11 = some (0, 0, 204) := by decide +kernel
theorem fl_0_15 : xfind xFL 0 15 = some (0, 1, 206) := by decide +kernel
theorem fl_2_11 : xfind xFL 2 11 = some (1, 0, 136) := by decide +kernel
theorem fl_2_17 : xfind xFL 2 17 = some (1, 1, 139) := by decide +kernel
theorem fl_2_20 : xfind xFL 2 20 = some (1, 2, 141) := by decide +kernel
theorem fl_2_23 : xfind xFL 2 23 = some (1, 3, 143) := by decide +kernel
theorem fl_2_27 : xfind xFL 2 27 = some (1, 4, 145) := by decide +kernel
theorem fl_2_35 : xfind xFL 2 35 = some (1, 5, 147) := by decide +kernel
theorem fl_2_39 : xfind xFL 2 39 = some (1, 6, 149) := by decide +kernel
theorem fl_2_43 : xfind xFL 2 43 = some (1, 7, 151) := by decide +kernel
theorem fl_2_46 : xfind xFL 2 46 = some (1, 8, 153) := by decide +kernel
theorem fl_2_49 : xfind xFL 2 49 = some (1, 9, 155) := by decide +kernel
theorem fl_2_69 : xfind xFL 2 69 = some (4, 0, 102) := by decide +kernel
theorem fl_2_72 : xfind xFL 2 72 = some (4, 1, 105) := by decide +kernel
theorem fl_2_100 : xfind xFL 2 100 = some (4, 2, 108) := by decide +kernel
theorem fl_2_131 : xfind xFL 2 131 = some (4, 6, 119) := by decide +kernel
theorem fl_2_134 : xfind xFL 2 134 = some (4, 4, 113) := by decide +kernel
theorem fl_2_137 : xfind xFL 2 137 = some (4, 5, 116) := by decide +kernel
theorem fl_3_9 : xfind xFL 3 9 = some (2, 0, 219) := by decide +kernel
theorem fl_3_27 : xfind xFL 3 27 = some (1, 0, 137) := by decide +kernel
theorem fl_4_11 : xfind xFL 4 11 = some (3, 0, 187) := by decide +kernel
theorem fl_4_16 : xfind xFL 4 16 = some (3, 1, 188) := by decide +kernel
theorem fl_4_20 : xfind xFL 4 20 = some (3, 2, 189) := by decide +kernel
theorem fl_5_9 : xfind xFL 5 9 = some (4, 0, 101) := by decide +kernel
theorem fl_5_15 : xfind xFL 5 15 = some (4, 1, 104) := by decide +kernel
theorem fl_5_18 : xfind xFL 5 18 = some (4, 2, 107) := by decide +kernel
theorem fl_5_21 : xfind xFL 5 21 = some (4, 3, 110) := by decide +kernel
theorem fl_5_24 : xfind xFL 5 24 = some (4, 4, 112) := by decide +kernel
theorem fl_5_27 : xfind xFL 5 27 = some (4, 5, 115) := by decide +kernel
theorem fl_5_30 : xfind xFL 5 30 = some (4, 6, 118) := by decide +kernel
theorem fl_6_10 : xfind xFL 6 10 = some (5, 0, 223) := by decide +kernel
theorem fl_6_16 : xfind xFL 6 16 = some (5, 1, 224) := by decide +kernel
theorem fl_6_19 : xfind xFL 6 19 = some (5, 2, 225) := by decide +kernel
theorem fl_6_25 : xfind xFL 6 25 = some (5, 3, 226) := by decide +kernel
theorem fl_6_32 : xfind xFL 6 32 = some (5, 4, 227) := by decide +kernel
theorem fl_6_39 : xfind xFL 6 39 = some (5, 5, 228) := by decide +kernel
theorem fl_6_43 : xfind xFL 6 43 = some (5, 6, 229) := by decide +kernel
theorem fl_6_106 : xfind xFL 6 106 = some (1, 9, 156) := by decide +kernel
theorem fl_6_112 : xfind xFL 6 112 = some (1, 5, 148) := by decide +kernel
theorem fl_6_116 : xfind xFL 6 116 = some (4, 2, 109) := by decide +kernel
theorem fl_6_135 : xfind xFL 6 135 = some (1, 4, 146) := by decide +kernel
theorem fl_6_151 : xfind xFL 6 151 = some (0, 1, 207) := by decide +kernel
theorem fl_6_174 : xfind xFL 6 174 = some (3, 2, 190) := by decide +kernel
theorem fl_6_230 : xfind xFL 6 230 = some (4, 4, 114) := by decide +kernel
theorem fl_6_289 : xfind xFL 6 289 = some (1, 0, 138) := by decide +kernel
theorem fl_6_298 : xfind xFL 6 298 = some (1, 3, 144) := by decide +kernel
theorem fl_6_307 : xfind xFL 6 307 = some (4, 0, 103) := by decide +kernel
theorem fl_6_310 : xfind xFL 6 310 = some (4, 1, 106) := by decide +kernel
theorem fl_6_319 : xfind xFL 6 319 = some (4, 3, 111) := by decide +kernel
theorem fl_6_322 : xfind xFL 6 322 = some (4, 5, 117) := by decide +kernel
theorem fl_6_331 : xfind xFL 6 331 = some (1, 1, 140) := by decide +kernel
theorem fl_6_334 : xfind xFL 6 334 = some (1, 2, 142) := by decide +kernel
theorem fl_6_337 : xfind xFL 6 337 = some (1, 6, 150) := by decide +kernel
theorem fl_6_340 : xfind xFL 6 340 = some (1, 7, 152) := by decide +kernel
theorem fl_6_343 : xfind xFL 6 343 = some (1, 8, 154) := by decide +kernel
theorem fl_6_359 : xfind xFL 6 359 = some (0, 0, 205) := by decide +kernel
theorem fl_7_7 : xfind xFL 7 7 = some (6, 0, 874) := by decide +kernel
theorem fl_7_13 : xfind xFL 7 13 = some (6, 1, 875) := by decide +kernel
theorem fl_7_16 : xfind xFL 7 16 = some (6, 2, 876) := by decide +kernel
theorem fl_7_19 : xfind xFL 7 19 = some (6, 4, 878) := by decide +kernel
theorem fl_7_22 : xfind xFL 7 22 = some (6, 6, 880) := by decide +kernel
theorem fl_7_25 : xfind xFL 7 25 = some (6, 9, 883) := by decide +kernel
theorem fl_7_28 : xfind xFL 7 28 = some (6, 10, 884) := by decide +kernel
theorem fl_7_31 : xfind xFL 7 31 = some (6, 11, 885) := by decide +kernel
theorem fl_7_39 : xfind xFL 7 39 = some (6, 8, 882) := by decide +kernel
theorem fl_7_47 : xfind xFL 7 47 = some (6, 3, 877) := by decide +kernel
theorem fl_7_121 : xfind xFL 7 121 = some (6, 7, 881) := by decide +kernel
theorem fl_7_130 : xfind xFL 7 130 = some (6, 12, 886) := by decide +kernel
theorem fl_7_140 : xfind xFL 7 140 = some (6, 5, 879) := by decide +kernel
set_option maxRecDepth 100000 in
theorem cl_0_3 : xfind xCL 0 3 = some (4, 0, 0, 203, 85, 86, 0) := rfl
set_option maxRecDepth 100000 in
theorem cl_0_19 : xfind xCL 0 19 = some (0, 21, 2, 308, 309, 64, 0) := rfl
set_option maxRecDepth 100000 in
theorem cl_0_23 : xfind xCL 0 23 = some (1, 10, 0, 767, 265, 266, 61) := rfl
set_option maxRecDepth 100000 in
theorem cl_0_29 : xfind xCL 0 29 = some (0, 22, 1, 311, 312, 64, 0) := rfl
set_option maxRecDepth 100000 in
theorem cl_0_33 : xfind xCL 0 33 = some (1, 88, 3, 768, 675, 676, 61) := rfl
set_option maxRecDepth 100000 in
theorem cl_1_9 : xfind xCL 1 9 = some (0, 60, 2, 469, 470, 73, 0) := rfl
set_option maxRecDepth 100000 in
theorem cl_1_15 : xfind xCL 1 15 = some (0, 61, 2, 472, 473, 73, 0) := rfl
set_option maxRecDepth 100000 in
theorem cl_1_18 : xfind xCL 1 18 = some (0, 40, 1, 387, 388, 73, 0) := rfl
set_option maxRecDepth 100000 in
theorem cl_1_22 : xfind xCL 1 22 = some (3, 41, 2, 390, 391, 60, 0) := rfl
set_option maxRecDepth 100000 in
theorem cl_1_26 : xfind xCL 1 26 = some (0, 39, 1, 384, 385, 73, 0) := rfl
set_option maxRecDepth 100000 in
theorem cl_1_30 : xfind xCL 1 30 = some (0, 42, 1, 393, 394, 73, 0) := rfl
set_option maxRecDepth 100000 in
theorem cl_2_3 : xfind xCL 2 3 = some (4, 0, 0, 92, 85, 86, 0) := rfl
set_option maxRecDepth 100000 in
theorem cl_2_32 : xfind xCL 2 32 = some (2, 2, 2, 97, 98, 62, 0) := rfl
set_option maxRecDepth 100000 in
theorem cl_2_52 : xfind xCL 2 52 = some (5, 0, 5, 257, 259, 258, 0) := rfl
set_option maxRecDepth 100000 in
theorem cl_2_58 : xfind xCL 2 58 = some (1, 9, 1, 260, 261, 262, 62) := rfl
set_option maxRecDepth 100000 in
theorem cl_2_62 : xfind xCL 2 62 = some (1, 68, 2, 678, 504, 505, 61) := rfl
set_option maxRecDepth 100000 in
theorem cl_2_66 : xfind xCL 2 66 = some (1, 74, 2, 679, 530, 531, 61) := rfl
set_option maxRecDepth 100000 in
theorem cl_2_75 : xfind xCL 2 75 = some (0, 59, 3, 507, 467, 73, 0) := rfl
set_option maxRecDepth 100000 in
theorem cl_2_81 : xfind xCL 2 81 = some (1, 69, 1, 508, 509, 510, 62) := rfl
set_option maxRecDepth 100000 in
theorem cl_2_85 : xfind xCL 2 85 = some (1, 70, 1, 512, 513, 514, 62) := rfl
set_option maxRecDepth 100000 in
theorem cl_2_88 : xfind xCL 2 88 = some (1, 71, 2, 516, 518, 11, 61) := rfl
set_option maxRecDepth 100000 in
theorem cl_2_92 : xfind xCL 2 92 = some (0, 38, 1, 520, 382, 73, 0) := rfl
set_option maxRecDepth 100000 in
theorem cl_2_96 : xfind xCL 2 96 = some (1, 72, 2, 521, 523, 12, 61) := rfl
set_option maxRecDepth 100000 in
theorem cl_2_103 : xfind xCL 2 103 = some (1, 75, 2, 533, 535, 14, 61) := rfl
set_option maxRecDepth 100000 in
theorem cl_2_107 : xfind xCL 2 107 = some (1, 76, 1, 537, 538, 539, 62) := rfl
set_option maxRecDepth 100000 in
theorem cl_2_111 : xfind xCL 2 111 = some (1, 16, 1, 286, 287, 288, 61) := rfl
set_option maxRecDepth 100000 in
theorem cl_2_115 : xfind xCL 2 115 = some (0, 17, 1, 290, 291, 74, 0) := rfl
set_option maxRecDepth 100000 in
theorem cl_2_121 : xfind xCL 2 121 = some (1, 43, 1, 543, 398, 399, 61) := rfl
set_option maxRecDepth 100000 in
theorem cl_2_125 : xfind xCL 2 125 = some (1, 77, 1, 544, 546, 15, 61) := rfl
set_option maxRecDepth 100000 in
theorem cl_2_128 : xfind xCL 2 128 = some (1, 78, 2, 548, 550, 16, 61) := rfl
set_option maxRecDepth 100000 in
theorem cl_2_140 : xfind xCL 2 140 = some (0, 40, 1, 401, 388, 73, 0) := rfl
set_option maxRecDepth 100000 in
theorem cl_2_143 : xfind xCL 2 143 = some (0, 42, 1, 402, 394, 73, 0) := rfl
set_option maxRecDepth 100000 in
theorem cl_2_146 : xfind xCL 2 146 = some (0, 39, 1, 552, 385, 73, 0) := rfl
set_option maxRecDepth 100000 in
theorem cl_2_149 : xfind xCL 2 149 = some (1, 34, 1, 358, 359, 360, 61) := rfl
set_option maxRecDepth 100000 in
theorem cl_2_153 : xfind xCL 2 153 = some (1, 55, 1, 498, 450, 451, 61) := rfl
set_option maxRecDepth 100000 in
theorem cl_2_156 : xfind xCL 2 156 = some (3, 45, 1, 553, 408, 60, 0) := rfl
set_option maxRecDepth 100000 in
theorem cl_2_159 : xfind xCL 2 159 = some (3, 11, 2, 268, 269, 60, 0) := rfl
set_option maxRecDepth 100000 in
theorem cl_2_163 : xfind xCL 2 163 = some (3, 12, 1, 362, 273, 60, 0) := rfl
set_option maxRecDepth 100000 in
theorem cl_2_166 : xfind xCL 2 166 = some (3, 14, 1, 363, 279, 60, 0) := rfl
set_option maxRecDepth 100000 in
theorem cl_2_169 : xfind xCL 2 169 = some (3, 13, 1, 364, 276, 60, 0) := rfl
set_option maxRecDepth 100000 in
theorem cl_2_172 : xfind xCL 2 172 = some (3, 15, 1, 365, 283, 60, 0) := rfl
set_option maxRecDepth 100000 in
theorem cl_2_175 : xfind xCL 2 175 = some (3, 33, 1, 355, 356, 60, 0) := rfl
set_option maxRecDepth 100000 in
theorem cl_2_178 : xfind xCL 2 178 = some (1, 32, 1, 351, 353, 1, 61) := rfl
set_option maxRecDepth 100000 in
theorem cl_2_181 : xfind xCL 2 181 = some (1, 29, 0, 339, 341, 0, 61) := rfl
set_option maxRecDepth 100000 in
theorem cl_2_185 : xfind xCL 2 185 = some (8, 0, 2, 436, 419, 420, 0) := rfl
set_option maxRecDepth 100000 in
theorem cl_3_3 : xfind xCL 3 3 = some (4, 0, 0, 218, 85, 86, 0) := rfl
set_option maxRecDepth 100000 in
theorem cl_3_15 : xfind xCL 3 15 = some (1, 24, 0, 380, 320, 321, 61) := rfl
set_option maxRecDepth 100000 in
theorem cl_3_21 : xfind xCL 3 21 = some (0, 38, 1, 381, 382, 73, 0) := rfl
set_option maxRecDepth 100000 in
theorem cl_3_31 : xfind xCL 3 31 = some (0, 17, 1, 396, 291, 74, 0) := rfl
set_option maxRecDepth 100000 in
theorem cl_3_37 : xfind xCL 3 37 = some (1, 43, 1, 397, 398, 399, 61) := rfl
set_option maxRecDepth 100000 in
theorem cl_3_41 : xfind xCL 3 41 = some (1, 44, 1, 403, 405, 3, 65) := rfl
set_option maxRecDepth 100000 in
theorem cl_3_45 : xfind xCL 3 45 = some (3, 45, 1, 407, 408, 60, 0) := rfl
set_option maxRecDepth 100000 in
theorem cl_3_48 : xfind xCL 3 48 = some (1, 46, 1, 412, 414, 4, 65) := rfl
set_option maxRecDepth 100000 in
theorem cl_3_52 : xfind xCL 3 52 = some (3, 33, 1, 416, 356, 60, 0) := rfl
set_option maxRecDepth 100000 in
theorem cl_3_58 : xfind xCL 3 58 = some (8, 0, 2, 418, 419, 420, 0) := rfl
set_option maxRecDepth 100000 in
theorem cl_3_64 : xfind xCL 3 64 = some (9, 0, 2, 421, 422, 423, 0) := rfl
set_option maxRecDepth 100000 in
theorem cl_4_1 : xfind xCL 4 1 = some (4, 0, 0, 183, 85, 86, 0) := rfl
set_option maxRecDepth 100000 in
theorem cl_4_15 : xfind xCL 4 15 = some (2, 1, 0, 186, 90, 61, 0) := rfl
set_option maxRecDepth 100000 in
theorem cl_4_23 : xfind xCL 4 23 = some (1, 8, 1, 253, 254, 255, 61) := rfl
set_option maxRecDepth 100000 in
theorem cl_5_3 : xfind xCL 5 3 = some (4, 0, 0, 100, 85, 86, 0) := rfl
set_option maxRecDepth 100000 in
theorem cl_5_34 : xfind xCL 5 34 = some (0, 17, 1, 493, 291, 74, 0) := rfl
set_option maxRecDepth 100000 in
theorem cl_5_40 : xfind xCL 5 40 = some (1, 69, 1, 541, 509, 510, 62) := rfl
set_option maxRecDepth 100000 in
theorem cl_5_44 : xfind xCL 5 44 = some (1, 70, 1, 542, 513, 514, 62) := rfl
set_option maxRecDepth 100000 in
theorem cl_6_1 : xfind xCL 6 1 = some (4, 0, 0, 84, 85, 86, 0) := rfl
set_option maxRecDepth 100000 in
theorem cl_6_9 : xfind xCL 6 9 = some (2, 1, 0, 89, 90, 61, 0) := rfl
set_option maxRecDepth 100000 in
theorem cl_6_24 : xfind xCL 6 24 = some (2, 3, 0, 180, 181, 63, 0) := rfl
set_option maxRecDepth 100000 in
theorem cl_6_31 : xfind xCL 6 31 = some (2, 4, 0, 200, 201, 64, 0) := rfl
set_option maxRecDepth 100000 in
theorem cl_6_38 : xfind xCL 6 38 = some (2, 5, 0, 215, 216, 65, 0) := rfl
set_option maxRecDepth 100000 in
theorem cl_6_47 : xfind xCL 6 47 = some (0, 85, 1, 581, 582, 60, 0) := rfl
set_option maxRecDepth 100000 in
theorem cl_6_58 : xfind xCL 6 58 = some (0, 86, 1, 652, 653, 60, 0) := rfl
set_option maxRecDepth 100000 in
theorem cl_6_61 : xfind xCL 6 61 = some (0, 87, 1, 655, 656, 60, 0) := rfl
set_option maxRecDepth 100000 in
theorem cl_6_69 : xfind xCL 6 69 = some (1, 7, 1, 249, 250, 251, 63) := rfl
set_option maxRecDepth 100000 in
theorem cl_6_73 : xfind xCL 6 73 = some (1, 88, 3, 674, 675, 676, 61) := rfl
set_option maxRecDepth 100000 in
theorem cl_6_77 : xfind xCL 6 77 = some (1, 10, 0, 264, 265, 266, 61) := rfl
set_option maxRecDepth 100000 in
theorem cl_6_81 : xfind xCL 6 81 = some (0, 41, 2, 688, 391, 60, 0) := rfl
set_option maxRecDepth 100000 in
theorem cl_6_87 : xfind xCL 6 87 = some (1, 54, 1, 445, 446, 447, 61) := rfl
set_option maxRecDepth 100000 in
theorem cl_6_96 : xfind xCL 6 96 = some (1, 55, 1, 449, 450, 451, 61) := rfl
set_option maxRecDepth 100000 in
theorem cl_6_100 : xfind xCL 6 100 = some (1, 16, 1, 706, 287, 288, 61) := rfl
set_option maxRecDepth 100000 in
theorem cl_6_121 : xfind xCL 6 121 = some (0, 95, 1, 723, 724, 60, 0) := rfl
set_option maxRecDepth 100000 in
theorem cl_6_126 : xfind xCL 6 126 = some (0, 96, 1, 727, 728, 60, 0) := rfl
set_option maxRecDepth 100000 in
theorem cl_6_130 : xfind xCL 6 130 = some (0, 97, 1, 730, 731, 60, 0) := rfl
set_option maxRecDepth 100000 in
theorem cl_6_141 : xfind xCL 6 141 = some (1, 100, 0, 742, 743, 744, 64) := rfl
set_option maxRecDepth 100000 in
theorem cl_6_147 : xfind xCL 6 147 = some (1, 101, 1, 747, 748, 749, 64) := rfl
set_option maxRecDepth 100000 in
theorem cl_6_154 : xfind xCL 6 154 = some (1, 20, 0, 304, 305, 306, 64) := rfl
set_option maxRecDepth 100000 in
theorem cl_6_157 : xfind xCL 6 157 = some (1, 104, 0, 758, 759, 760, 64) := rfl
set_option maxRecDepth 100000 in
theorem cl_6_162 : xfind xCL 6 162 = some (1, 105, 1, 763, 764, 765, 64) := rfl
set_option maxRecDepth 100000 in
theorem cl_6_166 : xfind xCL 6 166 = some (1, 8, 1, 318, 254, 255, 61) := rfl
set_option maxRecDepth 100000 in
theorem cl_6_169 : xfind xCL 6 169 = some (1, 24, 0, 319, 320, 321, 61) := rfl
set_option maxRecDepth 100000 in
theorem cl_6_179 : xfind xCL 6 179 = some (1, 110, 1, 785, 786, 787, 63) := rfl
set_option maxRecDepth 100000 in
theorem cl_6_184 : xfind xCL 6 184 = some (1, 53, 2, 441, 443, 6, 60) := rfl
set_option maxRecDepth 100000 in
theorem cl_6_188 : xfind xCL 6 188 = some (0, 59, 3, 466, 467, 73, 0) := rfl
set_option maxRecDepth 100000 in
theorem cl_6_193 : xfind xCL 6 193 = some (0, 115, 2, 804, 805, 60, 0) := rfl
set_option maxRecDepth 100000 in
theorem cl_6_201 : xfind xCL 6 201 = some (1, 62, 2, 475, 477, 8, 60) := rfl
set_option maxRecDepth 100000 in
theorem cl_6_205 : xfind xCL 6 205 = some (1, 64, 2, 485, 487, 10, 60) := rfl
set_option maxRecDepth 100000 in
theorem cl_6_210 : xfind xCL 6 210 = some (1, 120, 1, 824, 825, 826, 61) := rfl
set_option maxRecDepth 100000 in
theorem cl_6_214 : xfind xCL 6 214 = some (1, 80, 2, 558, 560, 18, 60) := rfl
set_option maxRecDepth 100000 in
theorem cl_6_217 : xfind xCL 6 217 = some (1, 36, 1, 372, 374, 2, 60) := rfl
set_option maxRecDepth 100000 in
theorem cl_6_222 : xfind xCL 6 222 = some (1, 68, 2, 503, 504, 505, 61) := rfl
set_option maxRecDepth 100000 in
theorem cl_6_227 : xfind xCL 6 227 = some (1, 65, 0, 489, 490, 491, 62) := rfl
set_option maxRecDepth 100000 in
theorem cl_6_233 : xfind xCL 6 233 = some (1, 31, 0, 347, 348, 349, 61) := rfl
set_option maxRecDepth 100000 in
theorem cl_6_236 : xfind xCL 6 236 = some (1, 73, 1, 525, 527, 13, 60) := rfl
set_option maxRecDepth 100000 in
theorem cl_6_239 : xfind xCL 6 239 = some (1, 26, 0, 327, 328, 329, 61) := rfl
set_option maxRecDepth 100000 in
theorem cl_6_242 : xfind xCL 6 242 = some (1, 28, 0, 335, 336, 337, 61) := rfl
set_option maxRecDepth 100000 in
theorem cl_6_247 : xfind xCL 6 247 = some (1, 52, 1, 437, 439, 5, 60) := rfl
set_option maxRecDepth 100000 in
theorem cl_6_251 : xfind xCL 6 251 = some (1, 58, 1, 462, 464, 7, 60) := rfl
set_option maxRecDepth 100000 in
theorem cl_6_254 : xfind xCL 6 254 = some (1, 63, 1, 481, 483, 9, 60) := rfl
set_option maxRecDepth 100000 in
theorem cl_6_257 : xfind xCL 6 257 = some (1, 79, 1, 554, 556, 17, 60) := rfl
set_option maxRecDepth 100000 in
theorem cl_6_260 : xfind xCL 6 260 = some (1, 27, 0, 562, 332, 333, 60) := rfl
set_option maxRecDepth 100000 in
theorem cl_6_264 : xfind xCL 6 264 = some (0, 81, 3, 563, 564, 60, 0) := rfl
set_option maxRecDepth 100000 in
theorem cl_6_268 : xfind xCL 6 268 = some (1, 30, 0, 567, 344, 345, 60) := rfl
set_option maxRecDepth 100000 in
theorem cl_6_272 : xfind xCL 6 272 = some (1, 82, 1, 568, 570, 19, 60) := rfl
set_option maxRecDepth 100000 in
theorem cl_6_275 : xfind xCL 6 275 = some (1, 34, 1, 453, 359, 360, 61) := rfl
set_option maxRecDepth 100000 in
theorem cl_6_278 : xfind xCL 6 278 = some (0, 45, 1, 454, 408, 60, 0) := rfl
set_option maxRecDepth 100000 in
theorem cl_6_281 : xfind xCL 6 281 = some (0, 17, 1, 411, 291, 74, 0) := rfl
set_option maxRecDepth 100000 in
theorem cl_6_286 : xfind xCL 6 286 = some (0, 56, 1, 455, 456, 60, 0) := rfl
set_option maxRecDepth 100000 in
theorem cl_6_295 : xfind xCL 6 295 = some (1, 57, 1, 458, 459, 460, 61) := rfl
set_option maxRecDepth 100000 in
theorem cl_6_301 : xfind xCL 6 301 = some (1, 43, 1, 479, 398, 399, 61) := rfl
set_option maxRecDepth 100000 in
theorem cl_6_304 : xfind xCL 6 304 = some (0, 38, 1, 480, 382, 73, 0) := rfl
set_option maxRecDepth 100000 in
theorem cl_6_313 : xfind xCL 6 313 = some (1, 66, 1, 494, 495, 496, 61) := rfl
set_option maxRecDepth 100000 in
theorem cl_6_316 : xfind xCL 6 316 = some (1, 67, 1, 499, 500, 501, 61) := rfl
set_option maxRecDepth 100000 in
theorem cl_6_325 : xfind xCL 6 325 = some (1, 37, 1, 376, 377, 378, 65) := rfl
set_option maxRecDepth 100000 in
theorem cl_6_328 : xfind xCL 6 328 = some (1, 49, 0, 424, 425, 426, 61) := rfl
set_option maxRecDepth 100000 in
theorem cl_6_346 : xfind xCL 6 346 = some (1, 50, 0, 428, 429, 430, 61) := rfl
set_option maxRecDepth 100000 in
theorem cl_6_349 : xfind xCL 6 349 = some (1, 51, 0, 432, 433, 434, 61) := rfl
set_option maxRecDepth 100000 in
theorem cl_6_352 : xfind xCL 6 352 = some (1, 74, 2, 529, 530, 531, 61) := rfl
set_option maxRecDepth 100000 in
theorem cl_6_356 : xfind xCL 6 356 = some (0, 33, 1, 410, 356, 60, 0) := rfl
set_option maxRecDepth 100000 in
theorem cl_6_368 : xfind xCL 6 368 = some (0, 13, 1, 275, 276, 60, 0) := rfl
set_option maxRecDepth 100000 in
theorem cl_6_371 : xfind xCL 6 371 = some (0, 14, 1, 278, 279, 60, 0) := rfl
set_option maxRecDepth 100000 in
theorem cl_6_374 : xfind xCL 6 374 = some (0, 12, 1, 272, 273, 60, 0) := rfl
set_option maxRecDepth 100000 in
theorem cl_6_377 : xfind xCL 6 377 = some (0, 15, 1, 282, 283, 60, 0) := rfl
set_option maxRecDepth 100000 in
theorem cl_7_1 : xfind xCL 7 1 = some (4, 0, 0, 870, 85, 86, 0) := rfl
set_option maxRecDepth 100000 in
theorem cl_7_35 : xfind xCL 7 35 = some (0, 132, 2, 871, 872, 66, 0) := rfl
set_option maxRecDepth 100000 in
theorem cl_7_43 : xfind xCL 7 43 = some (0, 136, 3, 926, 927, 66, 0) := rfl
set_option maxRecDepth 100000 in
theorem cl_7_50 : xfind xCL 7 50 = some (0, 145, 2, 958, 959, 66, 0) := rfl
set_option maxRecDepth 100000 in
theorem cl_7_54 : xfind xCL 7 54 = some (0, 144, 2, 955, 956, 66, 0) := rfl
set_option maxRecDepth 100000 in
theorem cl_7_57 : xfind xCL 7 57 = some (0, 143, 2, 952, 953, 66, 0) := rfl
set_option maxRecDepth 100000 in
theorem cl_7_61 : xfind xCL 7 61 = some (1, 146, 1, 961, 963, 26, 66) := rfl
set_option maxRecDepth 100000 in
theorem cl_7_65 : xfind xCL 7 65 = some (1, 142, 1, 948, 950, 25, 66) := rfl
set_option maxRecDepth 100000 in
theorem cl_7_69 : xfind xCL 7 69 = some (1, 150, 1, 977, 979, 30, 66) := rfl
set_option maxRecDepth 100000 in
theorem cl_7_72 : xfind xCL 7 72 = some (0, 141, 3, 945, 946, 66, 0) := rfl
set_option maxRecDepth 100000 in
theorem cl_7_76 : xfind xCL 7 76 = some (1, 147, 2, 965, 967, 27, 66) := rfl
set_option maxRecDepth 100000 in
theorem cl_7_79 : xfind xCL 7 79 = some (1, 152, 0, 985, 987, 32, 66) := rfl
set_option maxRecDepth 100000 in
theorem cl_7_82 : xfind xCL 7 82 = some (1, 153, 1, 989, 991, 33, 66) := rfl
set_option maxRecDepth 100000 in
theorem cl_7_85 : xfind xCL 7 85 = some (1, 149, 1, 973, 975, 29, 66) := rfl
set_option maxRecDepth 100000 in
theorem cl_7_89 : xfind xCL 7 89 = some (1, 151, 2, 981, 983, 31, 66) := rfl
set_option maxRecDepth 100000 in
theorem cl_7_93 : xfind xCL 7 93 = some (1, 140, 2, 941, 943, 24, 66) := rfl
set_option maxRecDepth 100000 in
theorem cl_7_96 : xfind xCL 7 96 = some (1, 148, 2, 969, 971, 28, 66) := rfl
set_option maxRecDepth 100000 in
theorem cl_7_99 : xfind xCL 7 99 = some (0, 135, 1, 923, 924, 66, 0) := rfl
set_option maxRecDepth 100000 in
theorem cl_7_102 : xfind xCL 7 102 = some (1, 137, 1, 929, 931, 21, 66) := rfl
set_option maxRecDepth 100000 in
theorem cl_7_105 : xfind xCL 7 105 = some (1, 138, 0, 933, 935, 22, 66) := rfl
set_option maxRecDepth 100000 in
theorem cl_7_108 : xfind xCL 7 108 = some (1, 139, 3, 937, 939, 23, 66) := rfl
set_option maxRecDepth 100000 in
theorem cl_7_111 : xfind xCL 7 111 = some (1, 156, 1, 1001, 1003, 35, 66) := rfl
set_option maxRecDepth 100000 in
theorem cl_7_114 : xfind xCL 7 114 = some (1, 155, 0, 997, 999, 34, 66) := rfl
set_option maxRecDepth 100000 in
theorem cl_7_118 : xfind xCL 7 118 = some (0, 160, 1, 1017, 1018, 66, 0) := rfl
set_option maxRecDepth 100000 in
theorem cl_7_124 : xfind xCL 7 124 = some (0, 166, 1, 1039, 1040, 66, 0) := rfl
set_option maxRecDepth 100000 in
theorem cl_7_127 : xfind xCL 7 127 = some (0, 165, 2, 1036, 1037, 66, 0) := rfl
set_option maxRecDepth 100000 in
theorem cl_7_133 : xfind xCL 7 133 = some (1, 164, 0, 1032, 1034, 36, 66) := rfl
set_option maxRecDepth 100000 in
theorem cl_7_136 : xfind xCL 7 136 = some (1, 168, 0, 1046, 1048, 37, 66) := rfl
set_option maxRecDepth 100000 in
theorem cl_7_144 : xfind xCL 7 144 = some (1, 170, 0, 1054, 1056, 38, 66) := rfl
set_option maxRecDepth 100000 in
theorem cl_7_147 : xfind xCL 7 147 = some (1, 176, 0, 1078, 1080, 41, 66) := rfl
set_option maxRecDepth 100000 in
theorem cl_7_150 : xfind xCL 7 150 = some (1, 177, 0, 1082, 1084, 42, 66) := rfl
set_option maxRecDepth 100000 in
theorem cl_7_153 : xfind xCL 7 153 = some (1, 175, 1, 1074, 1076, 40, 66) := rfl
set_option maxRecDepth 100000 in
theorem cl_7_156 : xfind xCL 7 156 = some (1, 174, 2, 1070, 1072, 39, 66) := rfl
set_option maxRecDepth 100000 in
theorem cl_7_159 : xfind xCL 7 159 = some (1, 179, 2, 1090, 1092, 43, 66) := rfl
set_option maxRecDepth 100000 in
theorem cl_7_162 : xfind xCL 7 162 = some (1, 182, 1, 1102, 1104, 45, 66) := rfl
set_option maxRecDepth 100000 in
theorem cl_7_165 : xfind xCL 7 165 = some (1, 183, 2, 1106, 1108, 46, 66) := rfl
set_option maxRecDepth 100000 in
theorem cl_7_168 : xfind xCL 7 168 = some (1, 181, 2, 1098, 1100, 44, 66) := rfl
set_option maxRecDepth 100000 in
theorem cl_7_171 : xfind xCL 7 171 = some (1, 185, 1, 1114, 1116, 47, 66) := rfl
set_option maxRecDepth 100000 in
theorem cl_7_174 : xfind xCL 7 174 = some (1, 186, 2, 1118, 1120, 48, 66) := rfl
set_option maxRecDepth 100000 in
theorem cl_7_177 : xfind xCL 7 177 = some (1, 189, 0, 1130, 1132, 50, 66) := rfl
set_option maxRecDepth 100000 in
theorem cl_7_180 : xfind xCL 7 180 = some (1, 190, 0, 1134, 1136, 51, 66) := rfl
set_option maxRecDepth 100000 in
theorem cl_7_183 : xfind xCL 7 183 = some (1, 191, 0, 1138, 1140, 52, 66) := rfl
set_option maxRecDepth 100000 in
theorem cl_7_186 : xfind xCL 7 186 = some (1, 192, 0, 1142, 1144, 53, 66) := rfl
set_option maxRecDepth 100000 in
theorem cl_7_189 : xfind xCL 7 189 = some (1, 193, 0, 1146, 1148, 54, 66) := rfl
set_option maxRecDepth 100000 in
theorem cl_7_192 : xfind xCL 7 192 = some (1, 188, 1, 1126, 1128, 49, 66) := rfl
set_option maxRecDepth 100000 in
theorem cl_7_195 : xfind xCL 7 195 = some (1, 198, 1, 1166, 1168, 55, 66) := rfl
set_option maxRecDepth 100000 in
theorem cl_7_198 : xfind xCL 7 198 = some (1, 202, 0, 1182, 1184, 57, 66) := rfl
set_option maxRecDepth 100000 in
theorem cl_7_201 : xfind xCL 7 201 = some (1, 201, 0, 1178, 1180, 56, 66) := rfl
set_option maxRecDepth 100000 in
theorem cl_7_205 : xfind xCL 7 205 = some (1, 204, 0, 1190, 1192, 58, 66) := rfl
set_option maxRecDepth 100000 in
theorem cl_7_213 : xfind xCL 7 213 = some (0, 206, 1, 1200, 1201, 77, 0) := rfl
set_option maxRecDepth 100000 in
theorem cl_7_219 : xfind xCL 7 219 = some (0, 208, 1, 1210, 1211, 78, 0) := rfl
set_option maxRecDepth 100000 in
theorem cl_11_122 : xfind xCL 11 122 = some (0, 207, 1, 1203, 1204, 77, 0) := rfl
set_option maxRecDepth 100000 in
theorem cl_11_134 : xfind xCL 11 134 = some (6, 0, 1, 1206, 1208, 1207, 0) := rfl
set_option maxRecDepth 100000 in
theorem cl_12_59 : xfind xCL 12 59 = some (0, 209, 1, 1213, 1214, 78, 0) := rfl
set_option maxRecDepth 100000 in
theorem cl_12_74 : xfind xCL 12 74 = some (7, 0, 1, 1216, 1218, 1217, 0) := rfl
theorem ty_0_0 : xty 0 0 = some (.array .int) := by decide +kernel
theorem ty_0_1 : xty 0 1 = some .int := by decide +kernel
theorem ty_1_0 : xty 1 0 = some .long := by decide +kernel
theorem ty_1_1 : xty 1 1 = some .long := by decide +kernel
theorem ty_1_2 : xty 1 2 = some .long := by decide +kernel
theorem ty_1_3 : xty 1 3 = some (.array .int) := by decide +kernel
theorem ty_1_4 : xty 1 4 = some (.array .int) := by decide +kernel
theorem ty_1_5 : xty 1 5 = some (.array (.object "CarvedRinks$Skater")) := by decide +kernel
theorem ty_1_6 : xty 1 6 = some .int := by decide +kernel
theorem ty_1_7 : xty 1 7 = some .int := by decide +kernel
theorem ty_1_8 : xty 1 8 = some .int := by decide +kernel
theorem ty_1_9 : xty 1 9 = some .int := by decide +kernel
theorem ty_2_0 : xty 2 0 = some (.array .int) := by decide +kernel
theorem ty_3_0 : xty 3 0 = some (.array (.object "CarvedRinks$Pond")) := by decide +kernel
theorem ty_3_1 : xty 3 1 = some .int := by decide +kernel
theorem ty_3_2 : xty 3 2 = some .int := by decide +kernel
theorem ty_4_0 : xty 4 0 = some .int := by decide +kernel
theorem ty_4_1 : xty 4 1 = some .int := by decide +kernel
theorem ty_4_2 : xty 4 2 = some .int := by decide +kernel
theorem ty_4_3 : xty 4 3 = some .int := by decide +kernel
theorem ty_4_4 : xty 4 4 = some .int := by decide +kernel
theorem ty_4_5 : xty 4 5 = some .int := by decide +kernel
theorem ty_4_6 : xty 4 6 = some .long := by decide +kernel
theorem ty_5_0 : xty 5 0 = some (.object "CarvedRinks$Pond") := by decide +kernel
theorem ty_5_1 : xty 5 1 = some (.object "CarvedRinks$Pond") := by decide +kernel
theorem ty_5_2 : xty 5 2 = some (.object "CarvedRinks$Pond") := by decide +kernel
theorem ty_5_3 : xty 5 3 = some (.object "CarvedRinks$SavedPonds") := by decide +kernel
theorem ty_5_4 : xty 5 4 = some (.object "CarvedRinks$GlideText") := by decide +kernel
theorem ty_5_5 : xty 5 5 = some (.object "CarvedRinks$RinkJoiner") := by decide +kernel
theorem ty_5_6 : xty 5 6 = some .boolean := by decide +kernel
theorem ty_6_0 : xty 6 0 = some (.array .int) := by decide +kernel
theorem ty_6_1 : xty 6 1 = some (.array .int) := by decide +kernel
theorem ty_6_2 : xty 6 2 = some (.array .int) := by decide +kernel
theorem ty_6_3 : xty 6 3 = some .int := by decide +kernel
theorem ty_6_4 : xty 6 4 = some (.array .int) := by decide +kernel
theorem ty_6_5 : xty 6 5 = some .boolean := by decide +kernel
theorem ty_6_6 : xty 6 6 = some (.array .int) := by decide +kernel
theorem ty_6_7 : xty 6 7 = some .int := by decide +kernel
theorem ty_6_8 : xty 6 8 = some .int := by decide +kernel
theorem ty_6_9 : xty 6 9 = some (.array .int) := by decide +kernel
theorem ty_6_10 : xty 6 10 = some (.array .int) := by decide +kernel
theorem ty_6_11 : xty 6 11 = some (.array .boolean) := by decide +kernel
theorem ty_6_12 : xty 6 12 = some .int := by decide +kernel
theorem kl_2_9 : xfind xKL 2 9 = some (.long (-1), 93) := rfl
theorem kl_3_56 : xfind xKL 3 56 = some (.long (-1), 417) := rfl
theorem kl_6_243 : xfind xKL 6 243 = some (.long (3727), 370) := rfl
theorem kl_6_245 : xfind xKL 6 245 = some (.long (31), 371) := rfl
theorem kl_6_293 : xfind xKL 6 293 = some (.long (-1), 271) := rfl
theorem kl_6_362 : xfind xKL 6 362 = some (.double (4611686018427387904), 566) := rfl
theorem kl_6_364 : xfind xKL 6 364 = some (.long (-72340172838076674), 285) := rfl
theorem kl_6_366 : xfind xKL 6 366 = some (.long (9187201950435737471), 281) := rfl
theorem kl_7_209 : xfind xKL 7 209 = some (.long (3727), 1198) := rfl
theorem kl_7_211 : xfind xKL 7 211 = some (.long (31), 1199) := rfl
theorem kl_9_314 : xfind xKL 9 314 = some (.long (6148914691236517205), 293) := rfl
theorem kl_9_316 : xfind xKL 9 316 = some (.long (3689348814741910323), 294) := rfl
theorem kl_9_318 : xfind xKL 9 318 = some (.long (1085102592571150095), 295) := rfl
theorem kl_11_137 : xfind xKL 11 137 = some (.long (9221120237041090560), 1209) := rfl
theorem kl_12_77 : xfind xKL 12 77 = some (.int (2143289344), 1219) := rfl
theorem nl_2_30 : xfind xNL 2 30 = some (4, 94) := by decide +kernel
theorem nl_4_9 : xfind xNL 4 9 = some (1, 184) := by decide +kernel
theorem nl_6_7 : xfind xNL 6 7 = some (1, 87) := by decide +kernel
theorem nl_6_22 : xfind xNL 6 22 = some (3, 178) := by decide +kernel
theorem nl_6_29 : xfind xNL 6 29 = some (0, 198) := by decide +kernel
theorem nl_6_36 : xfind xNL 6 36 = some (2, 213) := by decide +kernel
theorem xl_6_51 : xfind xXL 6 51 = some (0, 584) := by decide +kernel
theorem xl_6_64 : xfind xXL 6 64 = some (1, 658) := by decide +kernel
theorem xl_6_91 : xfind xXL 6 91 = some (2, 690) := by decide +kernel
