/-! ===== switches: by program (wip/tools/gen_yts.py) ===== -/
theorem yw_X0_placeBehind_1_0 : yts 1 101 0 3 #[31, 57, 71, 89] (nI 0) = some 32 := by decide +kernel
theorem yw_X0_placeBehind_1_1 : yts 1 101 0 3 #[31, 57, 71, 89] (nI 1) = some 58 := by decide +kernel
theorem yw_X0_placeBehind_1_2 : yts 1 101 0 3 #[31, 57, 71, 89] (nI 2) = some 72 := by decide +kernel
theorem yw_X0_placeBehind_1_3 : yts 1 101 0 3 #[31, 57, 71, 89] (nI 3) = some 90 := by decide +kernel
theorem yw_X0_placeBehind_1_4 : yts 1 101 0 3 #[31, 57, 71, 89] (nI 4) = some 102 := by decide +kernel
theorem yw_X1_leading_1_0 : yts 1 59 0 3 #[31, 39, 45, 51] (nI 0) = some 32 := by decide +kernel
theorem yw_X1_leading_1_1 : yts 1 59 0 3 #[31, 39, 45, 51] (nI 1) = some 40 := by decide +kernel
theorem yw_X1_leading_1_2 : yts 1 59 0 3 #[31, 39, 45, 51] (nI 2) = some 46 := by decide +kernel
theorem yw_X1_leading_1_3 : yts 1 59 0 3 #[31, 39, 45, 51] (nI 3) = some 52 := by decide +kernel
theorem yw_X1_leading_1_4 : yts 1 59 0 3 #[31, 39, 45, 51] (nI 4) = some 60 := by decide +kernel
theorem yw_X6_thawingCells_59_0 : yts 59 61 1 3 #[25, 33, 47] (nI 0) = some 120 := by decide +kernel
theorem yw_X6_thawingCells_59_1 : yts 59 61 1 3 #[25, 33, 47] (nI 1) = some 84 := by decide +kernel
theorem yw_X6_thawingCells_59_2 : yts 59 61 1 3 #[25, 33, 47] (nI 2) = some 92 := by decide +kernel
theorem yw_X6_thawingCells_59_3 : yts 59 61 1 3 #[25, 33, 47] (nI 3) = some 106 := by decide +kernel
theorem yw_X6_thawingCells_59_4 : yts 59 61 1 3 #[25, 33, 47] (nI 4) = some 120 := by decide +kernel
theorem yw_X6_stateNumber_1_0 : yts 1 165 0 10 #[59, 67, 75, 87, 95, 117, 125, 133, 141, 149, 157] (nI 0) = some 60 := by decide +kernel
theorem yw_X6_stateNumber_1_1 : yts 1 165 0 10 #[59, 67, 75, 87, 95, 117, 125, 133, 141, 149, 157] (nI 1) = some 68 := by decide +kernel
theorem yw_X6_stateNumber_1_2 : yts 1 165 0 10 #[59, 67, 75, 87, 95, 117, 125, 133, 141, 149, 157] (nI 2) = some 76 := by decide +kernel
theorem yw_X6_stateNumber_1_3 : yts 1 165 0 10 #[59, 67, 75, 87, 95, 117, 125, 133, 141, 149, 157] (nI 3) = some 88 := by decide +kernel
theorem yw_X6_stateNumber_1_4 : yts 1 165 0 10 #[59, 67, 75, 87, 95, 117, 125, 133, 141, 149, 157] (nI 4) = some 96 := by decide +kernel
theorem yw_X6_stateNumber_1_5 : yts 1 165 0 10 #[59, 67, 75, 87, 95, 117, 125, 133, 141, 149, 157] (nI 5) = some 118 := by decide +kernel
theorem yw_X6_stateNumber_1_6 : yts 1 165 0 10 #[59, 67, 75, 87, 95, 117, 125, 133, 141, 149, 157] (nI 6) = some 126 := by decide +kernel
theorem yw_X6_stateNumber_1_7 : yts 1 165 0 10 #[59, 67, 75, 87, 95, 117, 125, 133, 141, 149, 157] (nI 7) = some 134 := by decide +kernel
theorem yw_X6_stateNumber_1_8 : yts 1 165 0 10 #[59, 67, 75, 87, 95, 117, 125, 133, 141, 149, 157] (nI 8) = some 142 := by decide +kernel
theorem yw_X6_stateNumber_1_9 : yts 1 165 0 10 #[59, 67, 75, 87, 95, 117, 125, 133, 141, 149, 157] (nI 9) = some 150 := by decide +kernel
theorem yw_X6_stateNumber_1_10 : yts 1 165 0 10 #[59, 67, 75, 87, 95, 117, 125, 133, 141, 149, 157] (nI 10) = some 158 := by decide +kernel
theorem yw_X6_stateNumber_1_11 : yts 1 165 0 10 #[59, 67, 75, 87, 95, 117, 125, 133, 141, 149, 157] (nI 11) = some 166 := by decide +kernel
theorem yw_X6_cellNumber_1_0 : yts 1 120 0 4 #[35, 52, 61, 88, 100] (nI 0) = some 36 := by decide +kernel
theorem yw_X6_cellNumber_1_1 : yts 1 120 0 4 #[35, 52, 61, 88, 100] (nI 1) = some 53 := by decide +kernel
theorem yw_X6_cellNumber_1_2 : yts 1 120 0 4 #[35, 52, 61, 88, 100] (nI 2) = some 62 := by decide +kernel
theorem yw_X6_cellNumber_1_3 : yts 1 120 0 4 #[35, 52, 61, 88, 100] (nI 3) = some 89 := by decide +kernel
theorem yw_X6_cellNumber_1_4 : yts 1 120 0 4 #[35, 52, 61, 88, 100] (nI 4) = some 101 := by decide +kernel
theorem yw_X6_cellNumber_1_5 : yts 1 120 0 4 #[35, 52, 61, 88, 100] (nI 5) = some 121 := by decide +kernel
theorem yw_X6_skaterNumber_11_0 : yts 11 93 0 7 #[45, 50, 55, 60, 65, 74, 83, 88] (nI 0) = some 56 := by decide +kernel
theorem yw_X6_skaterNumber_11_1 : yts 11 93 0 7 #[45, 50, 55, 60, 65, 74, 83, 88] (nI 1) = some 61 := by decide +kernel
theorem yw_X6_skaterNumber_11_2 : yts 11 93 0 7 #[45, 50, 55, 60, 65, 74, 83, 88] (nI 2) = some 66 := by decide +kernel
theorem yw_X6_skaterNumber_11_3 : yts 11 93 0 7 #[45, 50, 55, 60, 65, 74, 83, 88] (nI 3) = some 71 := by decide +kernel
theorem yw_X6_skaterNumber_11_4 : yts 11 93 0 7 #[45, 50, 55, 60, 65, 74, 83, 88] (nI 4) = some 76 := by decide +kernel
theorem yw_X6_skaterNumber_11_5 : yts 11 93 0 7 #[45, 50, 55, 60, 65, 74, 83, 88] (nI 5) = some 85 := by decide +kernel
theorem yw_X6_skaterNumber_11_6 : yts 11 93 0 7 #[45, 50, 55, 60, 65, 74, 83, 88] (nI 6) = some 94 := by decide +kernel
theorem yw_X6_skaterNumber_11_7 : yts 11 93 0 7 #[45, 50, 55, 60, 65, 74, 83, 88] (nI 7) = some 99 := by decide +kernel
theorem yw_X6_skaterNumber_11_8 : yts 11 93 0 7 #[45, 50, 55, 60, 65, 74, 83, 88] (nI 8) = some 104 := by decide +kernel
theorem yw_X6_ifGlided_77_0 : yts 77 82 0 2 #[27, 30, 56] (nI 0) = some 104 := by decide +kernel
theorem yw_X6_ifGlided_77_1 : yts 77 82 0 2 #[27, 30, 56] (nI 1) = some 107 := by decide +kernel
theorem yw_X6_ifGlided_77_2 : yts 77 82 0 2 #[27, 30, 56] (nI 2) = some 133 := by decide +kernel
theorem yw_X6_ifGlided_77_3 : yts 77 82 0 2 #[27, 30, 56] (nI 3) = some 159 := by decide +kernel
