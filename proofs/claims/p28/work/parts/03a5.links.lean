/-! ===== links: by program (wip/tools/gen_rows.py) ===== -/
theorem fl_0_11 : xfind xFL 0 11 = some (0, 0, 163) := by decide +kernel
theorem fl_0_15 : xfind xFL 0 15 = some (0, 1, 165) := by decide +kernel
theorem fl_2_11 : xfind xFL 2 11 = some (1, 0, 95) := by decide +kernel
theorem fl_2_17 : xfind xFL 2 17 = some (1, 1, 98) := by decide +kernel
theorem fl_2_20 : xfind xFL 2 20 = some (1, 2, 100) := by decide +kernel
theorem fl_2_23 : xfind xFL 2 23 = some (1, 3, 102) := by decide +kernel
theorem fl_2_27 : xfind xFL 2 27 = some (1, 4, 104) := by decide +kernel
theorem fl_2_35 : xfind xFL 2 35 = some (1, 5, 106) := by decide +kernel
theorem fl_2_39 : xfind xFL 2 39 = some (1, 6, 108) := by decide +kernel
theorem fl_2_43 : xfind xFL 2 43 = some (1, 7, 110) := by decide +kernel
theorem fl_2_46 : xfind xFL 2 46 = some (1, 8, 112) := by decide +kernel
theorem fl_2_49 : xfind xFL 2 49 = some (1, 9, 114) := by decide +kernel
theorem fl_2_69 : xfind xFL 2 69 = some (4, 0, 61) := by decide +kernel
theorem fl_2_72 : xfind xFL 2 72 = some (4, 1, 64) := by decide +kernel
theorem fl_2_100 : xfind xFL 2 100 = some (4, 2, 67) := by decide +kernel
theorem fl_2_131 : xfind xFL 2 131 = some (4, 6, 78) := by decide +kernel
theorem fl_2_134 : xfind xFL 2 134 = some (4, 4, 72) := by decide +kernel
theorem fl_2_137 : xfind xFL 2 137 = some (4, 5, 75) := by decide +kernel
theorem fl_3_9 : xfind xFL 3 9 = some (2, 0, 178) := by decide +kernel
theorem fl_3_27 : xfind xFL 3 27 = some (1, 0, 96) := by decide +kernel
theorem fl_4_11 : xfind xFL 4 11 = some (3, 0, 146) := by decide +kernel
theorem fl_4_16 : xfind xFL 4 16 = some (3, 1, 147) := by decide +kernel
theorem fl_4_20 : xfind xFL 4 20 = some (3, 2, 148) := by decide +kernel
theorem fl_5_9 : xfind xFL 5 9 = some (4, 0, 60) := by decide +kernel
theorem fl_5_15 : xfind xFL 5 15 = some (4, 1, 63) := by decide +kernel
theorem fl_5_18 : xfind xFL 5 18 = some (4, 2, 66) := by decide +kernel
theorem fl_5_21 : xfind xFL 5 21 = some (4, 3, 69) := by decide +kernel
theorem fl_5_24 : xfind xFL 5 24 = some (4, 4, 71) := by decide +kernel
theorem fl_5_27 : xfind xFL 5 27 = some (4, 5, 74) := by decide +kernel
theorem fl_5_30 : xfind xFL 5 30 = some (4, 6, 77) := by decide +kernel
theorem fl_6_10 : xfind xFL 6 10 = some (5, 0, 182) := by decide +kernel
theorem fl_6_16 : xfind xFL 6 16 = some (5, 1, 183) := by decide +kernel
theorem fl_6_19 : xfind xFL 6 19 = some (5, 2, 184) := by decide +kernel
theorem fl_6_25 : xfind xFL 6 25 = some (5, 3, 185) := by decide +kernel
theorem fl_6_32 : xfind xFL 6 32 = some (5, 4, 186) := by decide +kernel
theorem fl_6_39 : xfind xFL 6 39 = some (5, 5, 187) := by decide +kernel
theorem fl_6_43 : xfind xFL 6 43 = some (5, 6, 188) := by decide +kernel
theorem fl_6_106 : xfind xFL 6 106 = some (1, 9, 115) := by decide +kernel
theorem fl_6_112 : xfind xFL 6 112 = some (1, 5, 107) := by decide +kernel
theorem fl_6_116 : xfind xFL 6 116 = some (4, 2, 68) := by decide +kernel
theorem fl_6_135 : xfind xFL 6 135 = some (1, 4, 105) := by decide +kernel
theorem fl_6_151 : xfind xFL 6 151 = some (0, 1, 166) := by decide +kernel
theorem fl_6_174 : xfind xFL 6 174 = some (3, 2, 149) := by decide +kernel
theorem fl_6_230 : xfind xFL 6 230 = some (4, 4, 73) := by decide +kernel
theorem fl_6_289 : xfind xFL 6 289 = some (1, 0, 97) := by decide +kernel
theorem fl_6_298 : xfind xFL 6 298 = some (1, 3, 103) := by decide +kernel
theorem fl_6_307 : xfind xFL 6 307 = some (4, 0, 62) := by decide +kernel
theorem fl_6_310 : xfind xFL 6 310 = some (4, 1, 65) := by decide +kernel
theorem fl_6_319 : xfind xFL 6 319 = some (4, 3, 70) := by decide +kernel
theorem fl_6_322 : xfind xFL 6 322 = some (4, 5, 76) := by decide +kernel
theorem fl_6_331 : xfind xFL 6 331 = some (1, 1, 99) := by decide +kernel
theorem fl_6_334 : xfind xFL 6 334 = some (1, 2, 101) := by decide +kernel
theorem fl_6_337 : xfind xFL 6 337 = some (1, 6, 109) := by decide +kernel
theorem fl_6_340 : xfind xFL 6 340 = some (1, 7, 111) := by decide +kernel
theorem fl_6_343 : xfind xFL 6 343 = some (1, 8, 113) := by decide +kernel
theorem fl_6_359 : xfind xFL 6 359 = some (0, 0, 164) := by decide +kernel
set_option maxRecDepth 100000 in
theorem cl_0_3 : xfind xCL 0 3 = some (4, 0, 0, 162, 44, 45, 0) := rfl
set_option maxRecDepth 100000 in
theorem cl_0_19 : xfind xCL 0 19 = some (0, 9, 2, 216, 217, 26, 0) := rfl
set_option maxRecDepth 100000 in
theorem cl_0_23 : xfind xCL 0 23 = some (1, 87, 0, 614, 615, 616, 23) := rfl
set_option maxRecDepth 100000 in
theorem cl_0_29 : xfind xCL 0 29 = some (0, 10, 1, 219, 220, 26, 0) := rfl
set_option maxRecDepth 100000 in
theorem cl_0_33 : xfind xCL 0 33 = some (1, 88, 3, 618, 619, 620, 23) := rfl
set_option maxRecDepth 100000 in
theorem cl_1_9 : xfind xCL 1 9 = some (0, 50, 2, 384, 385, 35, 0) := rfl
set_option maxRecDepth 100000 in
theorem cl_1_15 : xfind xCL 1 15 = some (0, 51, 2, 387, 388, 35, 0) := rfl
set_option maxRecDepth 100000 in
theorem cl_1_18 : xfind xCL 1 18 = some (0, 29, 1, 298, 299, 35, 0) := rfl
set_option maxRecDepth 100000 in
theorem cl_1_22 : xfind xCL 1 22 = some (3, 30, 2, 301, 302, 22, 0) := rfl
set_option maxRecDepth 100000 in
theorem cl_1_26 : xfind xCL 1 26 = some (0, 28, 1, 295, 296, 35, 0) := rfl
set_option maxRecDepth 100000 in
theorem cl_1_30 : xfind xCL 1 30 = some (0, 31, 1, 304, 305, 35, 0) := rfl
set_option maxRecDepth 100000 in
theorem cl_2_3 : xfind xCL 2 3 = some (4, 0, 0, 51, 44, 45, 0) := rfl
set_option maxRecDepth 100000 in
theorem cl_2_32 : xfind xCL 2 32 = some (2, 2, 2, 56, 57, 24, 0) := rfl
set_option maxRecDepth 100000 in
theorem cl_2_52 : xfind xCL 2 52 = some (5, 0, 5, 448, 450, 449, 0) := rfl
set_option maxRecDepth 100000 in
theorem cl_2_58 : xfind xCL 2 58 = some (1, 65, 1, 451, 452, 453, 24) := rfl
set_option maxRecDepth 100000 in
theorem cl_2_62 : xfind xCL 2 62 = some (1, 58, 2, 622, 419, 420, 23) := rfl
set_option maxRecDepth 100000 in
theorem cl_2_66 : xfind xCL 2 66 = some (1, 66, 2, 623, 456, 457, 23) := rfl
set_option maxRecDepth 100000 in
theorem cl_2_75 : xfind xCL 2 75 = some (0, 49, 3, 422, 382, 35, 0) := rfl
set_option maxRecDepth 100000 in
theorem cl_2_81 : xfind xCL 2 81 = some (1, 59, 1, 423, 424, 425, 24) := rfl
set_option maxRecDepth 100000 in
theorem cl_2_85 : xfind xCL 2 85 = some (1, 60, 1, 427, 428, 429, 24) := rfl
set_option maxRecDepth 100000 in
theorem cl_2_88 : xfind xCL 2 88 = some (1, 61, 2, 431, 433, 11, 23) := rfl
set_option maxRecDepth 100000 in
theorem cl_2_92 : xfind xCL 2 92 = some (0, 27, 1, 435, 293, 35, 0) := rfl
set_option maxRecDepth 100000 in
theorem cl_2_96 : xfind xCL 2 96 = some (1, 62, 2, 436, 438, 12, 23) := rfl
set_option maxRecDepth 100000 in
theorem cl_2_103 : xfind xCL 2 103 = some (1, 67, 2, 459, 461, 14, 23) := rfl
set_option maxRecDepth 100000 in
theorem cl_2_107 : xfind xCL 2 107 = some (1, 68, 1, 463, 464, 465, 24) := rfl
set_option maxRecDepth 100000 in
theorem cl_2_111 : xfind xCL 2 111 = some (1, 69, 1, 469, 470, 471, 23) := rfl
set_option maxRecDepth 100000 in
theorem cl_2_115 : xfind xCL 2 115 = some (0, 21, 1, 262, 263, 33, 0) := rfl
set_option maxRecDepth 100000 in
theorem cl_2_121 : xfind xCL 2 121 = some (1, 32, 1, 473, 309, 310, 23) := rfl
set_option maxRecDepth 100000 in
theorem cl_2_125 : xfind xCL 2 125 = some (1, 70, 1, 474, 476, 15, 23) := rfl
set_option maxRecDepth 100000 in
theorem cl_2_128 : xfind xCL 2 128 = some (1, 71, 2, 478, 480, 16, 23) := rfl
set_option maxRecDepth 100000 in
theorem cl_2_140 : xfind xCL 2 140 = some (0, 29, 1, 312, 299, 35, 0) := rfl
set_option maxRecDepth 100000 in
theorem cl_2_143 : xfind xCL 2 143 = some (0, 31, 1, 313, 305, 35, 0) := rfl
set_option maxRecDepth 100000 in
theorem cl_2_146 : xfind xCL 2 146 = some (0, 28, 1, 482, 296, 35, 0) := rfl
set_option maxRecDepth 100000 in
theorem cl_2_149 : xfind xCL 2 149 = some (1, 25, 1, 279, 280, 281, 23) := rfl
set_option maxRecDepth 100000 in
theorem cl_2_153 : xfind xCL 2 153 = some (1, 45, 1, 413, 365, 366, 23) := rfl
set_option maxRecDepth 100000 in
theorem cl_2_156 : xfind xCL 2 156 = some (3, 34, 1, 483, 319, 22, 0) := rfl
set_option maxRecDepth 100000 in
theorem cl_2_159 : xfind xCL 2 159 = some (3, 13, 2, 230, 231, 22, 0) := rfl
set_option maxRecDepth 100000 in
theorem cl_2_163 : xfind xCL 2 163 = some (3, 14, 1, 283, 235, 22, 0) := rfl
set_option maxRecDepth 100000 in
theorem cl_2_166 : xfind xCL 2 166 = some (3, 16, 1, 284, 241, 22, 0) := rfl
set_option maxRecDepth 100000 in
theorem cl_2_169 : xfind xCL 2 169 = some (3, 15, 1, 285, 238, 22, 0) := rfl
set_option maxRecDepth 100000 in
theorem cl_2_172 : xfind xCL 2 172 = some (3, 17, 1, 286, 245, 22, 0) := rfl
set_option maxRecDepth 100000 in
theorem cl_2_175 : xfind xCL 2 175 = some (3, 24, 1, 276, 277, 22, 0) := rfl
set_option maxRecDepth 100000 in
theorem cl_2_178 : xfind xCL 2 178 = some (1, 23, 1, 272, 274, 1, 23) := rfl
set_option maxRecDepth 100000 in
theorem cl_2_181 : xfind xCL 2 181 = some (1, 39, 0, 339, 341, 4, 23) := rfl
set_option maxRecDepth 100000 in
theorem cl_2_185 : xfind xCL 2 185 = some (8, 0, 2, 351, 330, 331, 0) := rfl
set_option maxRecDepth 100000 in
theorem cl_3_3 : xfind xCL 3 3 = some (4, 0, 0, 177, 44, 45, 0) := rfl
set_option maxRecDepth 100000 in
theorem cl_3_15 : xfind xCL 3 15 = some (1, 20, 0, 291, 259, 260, 23) := rfl
set_option maxRecDepth 100000 in
theorem cl_3_21 : xfind xCL 3 21 = some (0, 27, 1, 292, 293, 35, 0) := rfl
set_option maxRecDepth 100000 in
theorem cl_3_31 : xfind xCL 3 31 = some (0, 21, 1, 307, 263, 33, 0) := rfl
set_option maxRecDepth 100000 in
theorem cl_3_37 : xfind xCL 3 37 = some (1, 32, 1, 308, 309, 310, 23) := rfl
set_option maxRecDepth 100000 in
theorem cl_3_41 : xfind xCL 3 41 = some (1, 33, 1, 314, 316, 2, 27) := rfl
set_option maxRecDepth 100000 in
theorem cl_3_45 : xfind xCL 3 45 = some (3, 34, 1, 318, 319, 22, 0) := rfl
set_option maxRecDepth 100000 in
theorem cl_3_48 : xfind xCL 3 48 = some (1, 35, 1, 323, 325, 3, 27) := rfl
set_option maxRecDepth 100000 in
theorem cl_3_52 : xfind xCL 3 52 = some (3, 24, 1, 327, 277, 22, 0) := rfl
set_option maxRecDepth 100000 in
theorem cl_3_58 : xfind xCL 3 58 = some (8, 0, 2, 329, 330, 331, 0) := rfl
set_option maxRecDepth 100000 in
theorem cl_3_64 : xfind xCL 3 64 = some (9, 0, 2, 332, 333, 334, 0) := rfl
set_option maxRecDepth 100000 in
theorem cl_4_1 : xfind xCL 4 1 = some (4, 0, 0, 142, 44, 45, 0) := rfl
set_option maxRecDepth 100000 in
theorem cl_4_15 : xfind xCL 4 15 = some (2, 1, 0, 145, 49, 23, 0) := rfl
set_option maxRecDepth 100000 in
theorem cl_4_23 : xfind xCL 4 23 = some (1, 64, 1, 609, 445, 446, 23) := rfl
set_option maxRecDepth 100000 in
theorem cl_5_3 : xfind xCL 5 3 = some (4, 0, 0, 59, 44, 45, 0) := rfl
set_option maxRecDepth 100000 in
theorem cl_5_34 : xfind xCL 5 34 = some (0, 21, 1, 408, 263, 33, 0) := rfl
set_option maxRecDepth 100000 in
theorem cl_5_40 : xfind xCL 5 40 = some (1, 59, 1, 467, 424, 425, 24) := rfl
set_option maxRecDepth 100000 in
theorem cl_5_44 : xfind xCL 5 44 = some (1, 60, 1, 468, 428, 429, 24) := rfl
set_option maxRecDepth 100000 in
theorem cl_6_1 : xfind xCL 6 1 = some (4, 0, 0, 43, 44, 45, 0) := rfl
set_option maxRecDepth 100000 in
theorem cl_6_9 : xfind xCL 6 9 = some (2, 1, 0, 48, 49, 23, 0) := rfl
set_option maxRecDepth 100000 in
theorem cl_6_24 : xfind xCL 6 24 = some (2, 3, 0, 139, 140, 25, 0) := rfl
set_option maxRecDepth 100000 in
theorem cl_6_31 : xfind xCL 6 31 = some (2, 4, 0, 159, 160, 26, 0) := rfl
set_option maxRecDepth 100000 in
theorem cl_6_38 : xfind xCL 6 38 = some (2, 5, 0, 174, 175, 27, 0) := rfl
set_option maxRecDepth 100000 in
theorem cl_6_47 : xfind xCL 6 47 = some (0, 96, 1, 668, 669, 22, 0) := rfl
set_option maxRecDepth 100000 in
theorem cl_6_58 : xfind xCL 6 58 = some (0, 115, 1, 761, 762, 22, 0) := rfl
set_option maxRecDepth 100000 in
theorem cl_6_61 : xfind xCL 6 61 = some (0, 116, 1, 764, 765, 22, 0) := rfl
set_option maxRecDepth 100000 in
theorem cl_6_69 : xfind xCL 6 69 = some (1, 85, 1, 605, 606, 607, 25) := rfl
set_option maxRecDepth 100000 in
theorem cl_6_73 : xfind xCL 6 73 = some (1, 88, 3, 768, 619, 620, 23) := rfl
set_option maxRecDepth 100000 in
theorem cl_6_77 : xfind xCL 6 77 = some (1, 87, 0, 694, 615, 616, 23) := rfl
set_option maxRecDepth 100000 in
theorem cl_6_81 : xfind xCL 6 81 = some (0, 30, 2, 702, 302, 22, 0) := rfl
set_option maxRecDepth 100000 in
theorem cl_6_87 : xfind xCL 6 87 = some (1, 44, 1, 360, 361, 362, 23) := rfl
set_option maxRecDepth 100000 in
theorem cl_6_96 : xfind xCL 6 96 = some (1, 45, 1, 364, 365, 366, 23) := rfl
set_option maxRecDepth 100000 in
theorem cl_6_100 : xfind xCL 6 100 = some (1, 69, 1, 705, 470, 471, 23) := rfl
set_option maxRecDepth 100000 in
theorem cl_6_121 : xfind xCL 6 121 = some (0, 105, 1, 722, 723, 22, 0) := rfl
set_option maxRecDepth 100000 in
theorem cl_6_126 : xfind xCL 6 126 = some (0, 106, 1, 726, 727, 22, 0) := rfl
set_option maxRecDepth 100000 in
theorem cl_6_130 : xfind xCL 6 130 = some (0, 107, 1, 729, 730, 22, 0) := rfl
set_option maxRecDepth 100000 in
theorem cl_6_141 : xfind xCL 6 141 = some (1, 111, 0, 745, 746, 747, 26) := rfl
set_option maxRecDepth 100000 in
theorem cl_6_147 : xfind xCL 6 147 = some (1, 112, 1, 750, 751, 752, 26) := rfl
set_option maxRecDepth 100000 in
theorem cl_6_154 : xfind xCL 6 154 = some (1, 8, 0, 212, 213, 214, 26) := rfl
set_option maxRecDepth 100000 in
theorem cl_6_157 : xfind xCL 6 157 = some (1, 84, 0, 600, 601, 602, 26) := rfl
set_option maxRecDepth 100000 in
theorem cl_6_162 : xfind xCL 6 162 = some (1, 86, 1, 610, 611, 612, 26) := rfl
set_option maxRecDepth 100000 in
theorem cl_6_166 : xfind xCL 6 166 = some (1, 64, 1, 444, 445, 446, 23) := rfl
set_option maxRecDepth 100000 in
theorem cl_6_169 : xfind xCL 6 169 = some (1, 20, 0, 258, 259, 260, 23) := rfl
set_option maxRecDepth 100000 in
theorem cl_6_179 : xfind xCL 6 179 = some (1, 93, 1, 656, 657, 658, 25) := rfl
set_option maxRecDepth 100000 in
theorem cl_6_184 : xfind xCL 6 184 = some (1, 43, 2, 356, 358, 6, 22) := rfl
set_option maxRecDepth 100000 in
theorem cl_6_188 : xfind xCL 6 188 = some (0, 49, 3, 381, 382, 35, 0) := rfl
set_option maxRecDepth 100000 in
theorem cl_6_193 : xfind xCL 6 193 = some (0, 122, 2, 786, 787, 22, 0) := rfl
set_option maxRecDepth 100000 in
theorem cl_6_201 : xfind xCL 6 201 = some (1, 52, 2, 390, 392, 8, 22) := rfl
set_option maxRecDepth 100000 in
theorem cl_6_205 : xfind xCL 6 205 = some (1, 54, 2, 400, 402, 10, 22) := rfl
set_option maxRecDepth 100000 in
theorem cl_6_210 : xfind xCL 6 210 = some (1, 125, 1, 799, 800, 801, 23) := rfl
set_option maxRecDepth 100000 in
theorem cl_6_214 : xfind xCL 6 214 = some (1, 73, 2, 488, 490, 18, 22) := rfl
set_option maxRecDepth 100000 in
theorem cl_6_217 : xfind xCL 6 217 = some (1, 19, 1, 254, 256, 0, 22) := rfl
set_option maxRecDepth 100000 in
theorem cl_6_222 : xfind xCL 6 222 = some (1, 58, 2, 418, 419, 420, 23) := rfl
set_option maxRecDepth 100000 in
theorem cl_6_227 : xfind xCL 6 227 = some (1, 55, 0, 404, 405, 406, 24) := rfl
set_option maxRecDepth 100000 in
theorem cl_6_233 : xfind xCL 6 233 = some (1, 22, 0, 268, 269, 270, 23) := rfl
set_option maxRecDepth 100000 in
theorem cl_6_236 : xfind xCL 6 236 = some (1, 63, 1, 440, 442, 13, 22) := rfl
set_option maxRecDepth 100000 in
theorem cl_6_239 : xfind xCL 6 239 = some (1, 12, 0, 226, 227, 228, 23) := rfl
set_option maxRecDepth 100000 in
theorem cl_6_242 : xfind xCL 6 242 = some (1, 75, 0, 496, 497, 498, 23) := rfl
set_option maxRecDepth 100000 in
theorem cl_6_247 : xfind xCL 6 247 = some (1, 42, 1, 352, 354, 5, 22) := rfl
set_option maxRecDepth 100000 in
theorem cl_6_251 : xfind xCL 6 251 = some (1, 48, 1, 377, 379, 7, 22) := rfl
set_option maxRecDepth 100000 in
theorem cl_6_254 : xfind xCL 6 254 = some (1, 53, 1, 396, 398, 9, 22) := rfl
set_option maxRecDepth 100000 in
theorem cl_6_257 : xfind xCL 6 257 = some (1, 72, 1, 484, 486, 17, 22) := rfl
set_option maxRecDepth 100000 in
theorem cl_6_260 : xfind xCL 6 260 = some (1, 74, 0, 492, 493, 494, 22) := rfl
set_option maxRecDepth 100000 in
theorem cl_6_264 : xfind xCL 6 264 = some (0, 76, 3, 500, 501, 22, 0) := rfl
set_option maxRecDepth 100000 in
theorem cl_6_268 : xfind xCL 6 268 = some (1, 77, 0, 504, 505, 506, 22) := rfl
set_option maxRecDepth 100000 in
theorem cl_6_272 : xfind xCL 6 272 = some (1, 78, 1, 508, 510, 19, 22) := rfl
set_option maxRecDepth 100000 in
theorem cl_6_275 : xfind xCL 6 275 = some (1, 25, 1, 368, 280, 281, 23) := rfl
set_option maxRecDepth 100000 in
theorem cl_6_278 : xfind xCL 6 278 = some (0, 34, 1, 369, 319, 22, 0) := rfl
set_option maxRecDepth 100000 in
theorem cl_6_281 : xfind xCL 6 281 = some (0, 21, 1, 322, 263, 33, 0) := rfl
set_option maxRecDepth 100000 in
theorem cl_6_286 : xfind xCL 6 286 = some (0, 46, 1, 370, 371, 22, 0) := rfl
set_option maxRecDepth 100000 in
theorem cl_6_295 : xfind xCL 6 295 = some (1, 47, 1, 373, 374, 375, 23) := rfl
set_option maxRecDepth 100000 in
theorem cl_6_301 : xfind xCL 6 301 = some (1, 32, 1, 394, 309, 310, 23) := rfl
set_option maxRecDepth 100000 in
theorem cl_6_304 : xfind xCL 6 304 = some (0, 27, 1, 395, 293, 35, 0) := rfl
set_option maxRecDepth 100000 in
theorem cl_6_313 : xfind xCL 6 313 = some (1, 56, 1, 409, 410, 411, 23) := rfl
set_option maxRecDepth 100000 in
theorem cl_6_316 : xfind xCL 6 316 = some (1, 57, 1, 414, 415, 416, 23) := rfl
set_option maxRecDepth 100000 in
theorem cl_6_325 : xfind xCL 6 325 = some (1, 26, 1, 287, 288, 289, 27) := rfl
set_option maxRecDepth 100000 in
theorem cl_6_328 : xfind xCL 6 328 = some (1, 38, 0, 335, 336, 337, 23) := rfl
set_option maxRecDepth 100000 in
theorem cl_6_346 : xfind xCL 6 346 = some (1, 40, 0, 343, 344, 345, 23) := rfl
set_option maxRecDepth 100000 in
theorem cl_6_349 : xfind xCL 6 349 = some (1, 41, 0, 347, 348, 349, 23) := rfl
set_option maxRecDepth 100000 in
theorem cl_6_352 : xfind xCL 6 352 = some (1, 66, 2, 455, 456, 457, 23) := rfl
set_option maxRecDepth 100000 in
theorem cl_6_356 : xfind xCL 6 356 = some (0, 24, 1, 321, 277, 22, 0) := rfl
set_option maxRecDepth 100000 in
theorem cl_6_368 : xfind xCL 6 368 = some (0, 15, 1, 237, 238, 22, 0) := rfl
set_option maxRecDepth 100000 in
theorem cl_6_371 : xfind xCL 6 371 = some (0, 16, 1, 240, 241, 22, 0) := rfl
set_option maxRecDepth 100000 in
theorem cl_6_374 : xfind xCL 6 374 = some (0, 14, 1, 234, 235, 22, 0) := rfl
set_option maxRecDepth 100000 in
theorem cl_6_377 : xfind xCL 6 377 = some (0, 17, 1, 244, 245, 22, 0) := rfl
theorem ty_0_0 : xty 0 0 = some (.array .int) := by decide +kernel
theorem ty_0_1 : xty 0 1 = some .int := by decide +kernel
theorem ty_1_0 : xty 1 0 = some .long := by decide +kernel
theorem ty_1_1 : xty 1 1 = some .long := by decide +kernel
theorem ty_1_2 : xty 1 2 = some .long := by decide +kernel
theorem ty_1_3 : xty 1 3 = some (.array .int) := by decide +kernel
theorem ty_1_4 : xty 1 4 = some (.array .int) := by decide +kernel
theorem ty_1_5 : xty 1 5 = some (.array (.object "CarvedRinks$Skater")) := by decide +kernel
theorem ty_1_6 : xty 1 6 = some .int := by decide +kernel
theorem ty_1_7 : xty 1 7 = some .int := by decide +kernel
theorem ty_1_8 : xty 1 8 = some .int := by decide +kernel
theorem ty_1_9 : xty 1 9 = some .int := by decide +kernel
theorem ty_2_0 : xty 2 0 = some (.array .int) := by decide +kernel
theorem ty_3_0 : xty 3 0 = some (.array (.object "CarvedRinks$Pond")) := by decide +kernel
theorem ty_3_1 : xty 3 1 = some .int := by decide +kernel
theorem ty_3_2 : xty 3 2 = some .int := by decide +kernel
theorem ty_4_0 : xty 4 0 = some .int := by decide +kernel
theorem ty_4_1 : xty 4 1 = some .int := by decide +kernel
theorem ty_4_2 : xty 4 2 = some .int := by decide +kernel
theorem ty_4_3 : xty 4 3 = some .int := by decide +kernel
theorem ty_4_4 : xty 4 4 = some .int := by decide +kernel
theorem ty_4_5 : xty 4 5 = some .int := by decide +kernel
theorem ty_4_6 : xty 4 6 = some .long := by decide +kernel
theorem ty_5_0 : xty 5 0 = some (.object "CarvedRinks$Pond") := by decide +kernel
theorem ty_5_1 : xty 5 1 = some (.object "CarvedRinks$Pond") := by decide +kernel
theorem ty_5_2 : xty 5 2 = some (.object "CarvedRinks$Pond") := by decide +kernel
theorem ty_5_3 : xty 5 3 = some (.object "CarvedRinks$SavedPonds") := by decide +kernel
theorem ty_5_4 : xty 5 4 = some (.object "CarvedRinks$GlideText") := by decide +kernel
theorem ty_5_5 : xty 5 5 = some (.object "CarvedRinks$RinkJoiner") := by decide +kernel
theorem ty_5_6 : xty 5 6 = some .boolean := by decide +kernel
theorem kl_2_9 : xfind xKL 2 9 = some (.long (-1), 52) := rfl
theorem kl_3_56 : xfind xKL 3 56 = some (.long (-1), 328) := rfl
theorem kl_6_243 : xfind xKL 6 243 = some (.long (3727), 252) := rfl
theorem kl_6_245 : xfind xKL 6 245 = some (.long (31), 253) := rfl
theorem kl_6_293 : xfind xKL 6 293 = some (.long (-1), 233) := rfl
theorem kl_6_362 : xfind xKL 6 362 = some (.double (4611686018427387904), 503) := rfl
theorem kl_6_364 : xfind xKL 6 364 = some (.long (-72340172838076674), 247) := rfl
theorem kl_6_366 : xfind xKL 6 366 = some (.long (9187201950435737471), 243) := rfl
theorem kl_9_314 : xfind xKL 9 314 = some (.long (6148914691236517205), 265) := rfl
theorem kl_9_316 : xfind xKL 9 316 = some (.long (3689348814741910323), 266) := rfl
theorem kl_9_318 : xfind xKL 9 318 = some (.long (1085102592571150095), 267) := rfl
theorem nl_2_30 : xfind xNL 2 30 = some (4, 53) := by decide +kernel
theorem nl_4_9 : xfind xNL 4 9 = some (1, 143) := by decide +kernel
theorem nl_6_7 : xfind xNL 6 7 = some (1, 46) := by decide +kernel
theorem nl_6_22 : xfind xNL 6 22 = some (3, 137) := by decide +kernel
theorem nl_6_29 : xfind xNL 6 29 = some (0, 157) := by decide +kernel
theorem nl_6_36 : xfind xNL 6 36 = some (2, 172) := by decide +kernel
theorem xl_6_51 : xfind xXL 6 51 = some (0, 671) := by decide +kernel
theorem xl_6_64 : xfind xXL 6 64 = some (1, 525) := by decide +kernel
theorem xl_6_91 : xfind xXL 6 91 = some (2, 632) := by decide +kernel
