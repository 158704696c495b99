theorem dL_cell_0 : decode cL_cell 0 = .ok (.iload_n 1, 1) := by decide +kernel
theorem dL_cell_1 : decode cL_cell 1 = .ok (.aload_n 0, 1) := by decide +kernel
theorem dL_cell_2 : decode cL_cell 2 = .ok (.arraylength, 1) := by decide +kernel
theorem dL_cell_3 : decode cL_cell 3 = .ok (.if_icmp .ge 9, 3) := by decide +kernel
theorem dL_cell_6 : decode cL_cell 6 = .ok (.aload_n 0, 1) := by decide +kernel
theorem dL_cell_7 : decode cL_cell 7 = .ok (.iload_n 1, 1) := by decide +kernel
theorem dL_cell_8 : decode cL_cell 8 = .ok (.iaload, 1) := by decide +kernel
theorem dL_cell_9 : decode cL_cell 9 = .ok (.goto 13, 3) := by decide +kernel
theorem dL_cell_12 : decode cL_cell 12 = .ok (.ldc 7, 2) := by decide +kernel
theorem dL_cell_14 : decode cL_cell 14 = .ok (.iload_n 1, 1) := by decide +kernel
theorem dL_cell_15 : decode cL_cell 15 = .ok (.bipush 17, 2) := by decide +kernel
theorem dL_cell_17 : decode cL_cell 17 = .ok (.iadd, 1) := by decide +kernel
theorem dL_cell_18 : decode cL_cell 18 = .ok (.imul, 1) := by decide +kernel
theorem dL_cell_19 : decode cL_cell 19 = .ok (.bipush 43, 2) := by decide +kernel
theorem dL_cell_21 : decode cL_cell 21 = .ok (.iadd, 1) := by decide +kernel
theorem dL_cell_22 : decode cL_cell 22 = .ok (.ldc 8, 2) := by decide +kernel
theorem dL_cell_24 : decode cL_cell 24 = .ok (.iand, 1) := by decide +kernel
theorem dL_cell_25 : decode cL_cell 25 = .ok (.ireturn, 1) := by decide +kernel
theorem dL_glide_0 : decode cL_glide 0 = .ok (.aload_n 0, 1) := by decide +kernel
theorem dL_glide_1 : decode cL_glide 1 = .ok (.iload_n 1, 1) := by decide +kernel
theorem dL_glide_2 : decode cL_glide 2 = .ok (.iload_n 2, 1) := by decide +kernel
theorem dL_glide_3 : decode cL_glide 3 = .ok (.iload_n 3, 1) := by decide +kernel
theorem dL_glide_4 : decode cL_glide 4 = .ok (.invokevirtual 9, 3) := by decide +kernel
theorem dL_glide_7 : decode cL_glide 7 = .ok (.ireturn, 1) := by decide +kernel
theorem dL_glide_8 : decode cL_glide 8 = .ok (.astore 4, 2) := by decide +kernel
theorem dL_glide_10 : decode cL_glide 10 = .ok (.bipush (-3), 2) := by decide +kernel
theorem dL_glide_12 : decode cL_glide 12 = .ok (.ireturn, 1) := by decide +kernel
theorem dL_glide_13 : decode cL_glide 13 = .ok (.astore 4, 2) := by decide +kernel
theorem dL_glide_15 : decode cL_glide 15 = .ok (.bipush (-2), 2) := by decide +kernel
theorem dL_glide_17 : decode cL_glide 17 = .ok (.ireturn, 1) := by decide +kernel
theorem dL_hole_0 : decode cL_hole 0 = .ok (.aload_n 0, 1) := by decide +kernel
theorem dL_hole_1 : decode cL_hole 1 = .ok (.iload_n 1, 1) := by decide +kernel
theorem dL_hole_2 : decode cL_hole 2 = .ok (.iload_n 2, 1) := by decide +kernel
theorem dL_hole_3 : decode cL_hole 3 = .ok (.invokevirtual 19, 3) := by decide +kernel
theorem dL_hole_6 : decode cL_hole 6 = .ok (.ireturn, 1) := by decide +kernel
theorem dL_hole_7 : decode cL_hole 7 = .ok (.astore_n 3, 1) := by decide +kernel
theorem dL_hole_8 : decode cL_hole 8 = .ok (.bipush (-3), 2) := by decide +kernel
theorem dL_hole_10 : decode cL_hole 10 = .ok (.ireturn, 1) := by decide +kernel
theorem dL_hole_11 : decode cL_hole 11 = .ok (.astore_n 3, 1) := by decide +kernel
theorem dL_hole_12 : decode cL_hole 12 = .ok (.bipush (-2), 2) := by decide +kernel
theorem dL_hole_14 : decode cL_hole 14 = .ok (.ireturn, 1) := by decide +kernel
theorem dL_pay_0 : decode cL_pay 0 = .ok (.aload_n 0, 1) := by decide +kernel
theorem dL_pay_1 : decode cL_pay 1 = .ok (.iload_n 1, 1) := by decide +kernel
theorem dL_pay_2 : decode cL_pay 2 = .ok (.iload_n 2, 1) := by decide +kernel
theorem dL_pay_3 : decode cL_pay 3 = .ok (.invokevirtual 25, 3) := by decide +kernel
theorem dL_pay_6 : decode cL_pay 6 = .ok (.ireturn, 1) := by decide +kernel
theorem dL_pay_7 : decode cL_pay 7 = .ok (.astore_n 3, 1) := by decide +kernel
theorem dL_pay_8 : decode cL_pay 8 = .ok (.bipush (-3), 2) := by decide +kernel
theorem dL_pay_10 : decode cL_pay 10 = .ok (.ireturn, 1) := by decide +kernel
theorem dL_pay_11 : decode cL_pay 11 = .ok (.astore_n 3, 1) := by decide +kernel
theorem dL_pay_12 : decode cL_pay 12 = .ok (.bipush (-2), 2) := by decide +kernel
theorem dL_pay_14 : decode cL_pay 14 = .ok (.ireturn, 1) := by decide +kernel
theorem dL_pay_15 : decode cL_pay 15 = .ok (.astore_n 3, 1) := by decide +kernel
theorem dL_pay_16 : decode cL_pay 16 = .ok (.bipush (-4), 2) := by decide +kernel
theorem dL_pay_18 : decode cL_pay 18 = .ok (.ireturn, 1) := by decide +kernel
theorem dL_set_0 : decode cL_set 0 = .ok (.aload_n 0, 1) := by decide +kernel
theorem dL_set_1 : decode cL_set 1 = .ok (.iload_n 1, 1) := by decide +kernel
theorem dL_set_2 : decode cL_set 2 = .ok (.iload_n 2, 1) := by decide +kernel
theorem dL_set_3 : decode cL_set 3 = .ok (.invokevirtual 28, 3) := by decide +kernel
theorem dL_set_6 : decode cL_set 6 = .ok (.ireturn, 1) := by decide +kernel
theorem dL_set_7 : decode cL_set 7 = .ok (.astore_n 3, 1) := by decide +kernel
theorem dL_set_8 : decode cL_set 8 = .ok (.bipush (-3), 2) := by decide +kernel
theorem dL_set_10 : decode cL_set 10 = .ok (.ireturn, 1) := by decide +kernel
theorem dL_set_11 : decode cL_set 11 = .ok (.astore_n 3, 1) := by decide +kernel
theorem dL_set_12 : decode cL_set 12 = .ok (.bipush (-2), 2) := by decide +kernel
theorem dL_set_14 : decode cL_set 14 = .ok (.ireturn, 1) := by decide +kernel
theorem dL_pond_0 : decode cL_pond 0 = .ok (.aload_n 0, 1) := by decide +kernel
theorem dL_pond_1 : decode cL_pond 1 = .ok (.iload_n 1, 1) := by decide +kernel
theorem dL_pond_2 : decode cL_pond 2 = .ok (.iload_n 2, 1) := by decide +kernel
theorem dL_pond_3 : decode cL_pond 3 = .ok (.iload_n 3, 1) := by decide +kernel
theorem dL_pond_4 : decode cL_pond 4 = .ok (.invokevirtual 31, 3) := by decide +kernel
theorem dL_pond_7 : decode cL_pond 7 = .ok (.ireturn, 1) := by decide +kernel
theorem dL_pond_8 : decode cL_pond 8 = .ok (.astore 4, 2) := by decide +kernel
theorem dL_pond_10 : decode cL_pond 10 = .ok (.bipush (-3), 2) := by decide +kernel
theorem dL_pond_12 : decode cL_pond 12 = .ok (.ireturn, 1) := by decide +kernel
theorem dL_pond_13 : decode cL_pond 13 = .ok (.astore 4, 2) := by decide +kernel
theorem dL_pond_15 : decode cL_pond 15 = .ok (.bipush (-2), 2) := by decide +kernel
theorem dL_pond_17 : decode cL_pond 17 = .ok (.ireturn, 1) := by decide +kernel
theorem dL_line_0 : decode cL_line 0 = .ok (.aload_n 0, 1) := by decide +kernel
theorem dL_line_1 : decode cL_line 1 = .ok (.iload_n 1, 1) := by decide +kernel
theorem dL_line_2 : decode cL_line 2 = .ok (.iload_n 2, 1) := by decide +kernel
theorem dL_line_3 : decode cL_line 3 = .ok (.iload_n 3, 1) := by decide +kernel
theorem dL_line_4 : decode cL_line 4 = .ok (.iload 4, 2) := by decide +kernel
theorem dL_line_6 : decode cL_line 6 = .ok (.invokevirtual 34, 3) := by decide +kernel
theorem dL_line_9 : decode cL_line 9 = .ok (.ireturn, 1) := by decide +kernel
theorem dL_line_10 : decode cL_line 10 = .ok (.astore 5, 2) := by decide +kernel
theorem dL_line_12 : decode cL_line 12 = .ok (.bipush (-3), 2) := by decide +kernel
theorem dL_line_14 : decode cL_line 14 = .ok (.ireturn, 1) := by decide +kernel
theorem dL_line_15 : decode cL_line 15 = .ok (.astore 5, 2) := by decide +kernel
theorem dL_line_17 : decode cL_line 17 = .ok (.bipush (-2), 2) := by decide +kernel
theorem dL_line_19 : decode cL_line 19 = .ok (.ireturn, 1) := by decide +kernel
theorem dL_skater_0 : decode cL_skater 0 = .ok (.aload_n 0, 1) := by decide +kernel
theorem dL_skater_1 : decode cL_skater 1 = .ok (.iload_n 1, 1) := by decide +kernel
theorem dL_skater_2 : decode cL_skater 2 = .ok (.iload_n 2, 1) := by decide +kernel
theorem dL_skater_3 : decode cL_skater 3 = .ok (.invokevirtual 38, 3) := by decide +kernel
theorem dL_skater_6 : decode cL_skater 6 = .ok (.ireturn, 1) := by decide +kernel
theorem dL_skater_7 : decode cL_skater 7 = .ok (.astore_n 3, 1) := by decide +kernel
theorem dL_skater_8 : decode cL_skater 8 = .ok (.bipush (-3), 2) := by decide +kernel
theorem dL_skater_10 : decode cL_skater 10 = .ok (.ireturn, 1) := by decide +kernel
theorem dL_skater_11 : decode cL_skater 11 = .ok (.astore_n 3, 1) := by decide +kernel
theorem dL_skater_12 : decode cL_skater 12 = .ok (.bipush (-2), 2) := by decide +kernel
theorem dL_skater_14 : decode cL_skater 14 = .ok (.ireturn, 1) := by decide +kernel
theorem dL_rink_0 : decode cL_rink 0 = .ok (.aload_n 0, 1) := by decide +kernel
theorem dL_rink_1 : decode cL_rink 1 = .ok (.iload_n 1, 1) := by decide +kernel
theorem dL_rink_2 : decode cL_rink 2 = .ok (.iload_n 2, 1) := by decide +kernel
theorem dL_rink_3 : decode cL_rink 3 = .ok (.invokevirtual 41, 3) := by decide +kernel
theorem dL_rink_6 : decode cL_rink 6 = .ok (.ireturn, 1) := by decide +kernel
theorem dL_rink_7 : decode cL_rink 7 = .ok (.astore_n 3, 1) := by decide +kernel
theorem dL_rink_8 : decode cL_rink 8 = .ok (.bipush (-3), 2) := by decide +kernel
theorem dL_rink_10 : decode cL_rink 10 = .ok (.ireturn, 1) := by decide +kernel
theorem dL_rink_11 : decode cL_rink 11 = .ok (.astore_n 3, 1) := by decide +kernel
theorem dL_rink_12 : decode cL_rink 12 = .ok (.bipush (-2), 2) := by decide +kernel
theorem dL_rink_14 : decode cL_rink 14 = .ok (.ireturn, 1) := by decide +kernel
theorem dL_count_0 : decode cL_count 0 = .ok (.aload_n 0, 1) := by decide +kernel
theorem dL_count_1 : decode cL_count 1 = .ok (.iload_n 1, 1) := by decide +kernel
theorem dL_count_2 : decode cL_count 2 = .ok (.invokevirtual 44, 3) := by decide +kernel
theorem dL_count_5 : decode cL_count 5 = .ok (.ireturn, 1) := by decide +kernel
theorem dL_count_6 : decode cL_count 6 = .ok (.astore_n 2, 1) := by decide +kernel
theorem dL_count_7 : decode cL_count 7 = .ok (.bipush (-2), 2) := by decide +kernel
theorem dL_count_9 : decode cL_count 9 = .ok (.ireturn, 1) := by decide +kernel
theorem dL_why_0 : decode cL_why 0 = .ok (.aload_n 0, 1) := by decide +kernel
theorem dL_why_1 : decode cL_why 1 = .ok (.iload_n 1, 1) := by decide +kernel
theorem dL_why_2 : decode cL_why 2 = .ok (.iload_n 2, 1) := by decide +kernel
theorem dL_why_3 : decode cL_why 3 = .ok (.invokevirtual 48, 3) := by decide +kernel
theorem dL_why_6 : decode cL_why 6 = .ok (.ireturn, 1) := by decide +kernel
theorem dL_why_7 : decode cL_why 7 = .ok (.astore_n 3, 1) := by decide +kernel
theorem dL_why_8 : decode cL_why 8 = .ok (.bipush (-3), 2) := by decide +kernel
theorem dL_why_10 : decode cL_why 10 = .ok (.ireturn, 1) := by decide +kernel
theorem dL_why_11 : decode cL_why 11 = .ok (.astore_n 3, 1) := by decide +kernel
theorem dL_why_12 : decode cL_why 12 = .ok (.bipush (-2), 2) := by decide +kernel
theorem dL_why_14 : decode cL_why 14 = .ok (.ireturn, 1) := by decide +kernel
theorem dL_append_0 : decode cL_append 0 = .ok (.aload_n 0, 1) := by decide +kernel
theorem dL_append_1 : decode cL_append 1 = .ok (.iload_n 1, 1) := by decide +kernel
theorem dL_append_2 : decode cL_append 2 = .ok (.invokevirtual 51, 3) := by decide +kernel
theorem dL_append_5 : decode cL_append 5 = .ok (.ireturn, 1) := by decide +kernel
theorem dL_append_6 : decode cL_append 6 = .ok (.astore_n 2, 1) := by decide +kernel
theorem dL_append_7 : decode cL_append 7 = .ok (.bipush (-2), 2) := by decide +kernel
theorem dL_append_9 : decode cL_append 9 = .ok (.ireturn, 1) := by decide +kernel
theorem dL_append_10 : decode cL_append 10 = .ok (.astore_n 2, 1) := by decide +kernel
theorem dL_append_11 : decode cL_append 11 = .ok (.bipush (-3), 2) := by decide +kernel
theorem dL_append_13 : decode cL_append 13 = .ok (.ireturn, 1) := by decide +kernel
theorem dL_play_0 : decode cL_play 0 = .ok (.aload_n 0, 1) := by decide +kernel
theorem dL_play_1 : decode cL_play 1 = .ok (.invokevirtual 54, 3) := by decide +kernel
theorem dL_play_4 : decode cL_play 4 = .ok (.ireturn, 1) := by decide +kernel
theorem dL_play_5 : decode cL_play 5 = .ok (.astore_n 1, 1) := by decide +kernel
theorem dL_play_6 : decode cL_play 6 = .ok (.bipush (-2), 2) := by decide +kernel
theorem dL_play_8 : decode cL_play 8 = .ok (.ireturn, 1) := by decide +kernel
theorem dL_goBack_0 : decode cL_goBack 0 = .ok (.aload_n 0, 1) := by decide +kernel
theorem dL_goBack_1 : decode cL_goBack 1 = .ok (.invokevirtual 58, 3) := by decide +kernel
theorem dL_goBack_4 : decode cL_goBack 4 = .ok (.ireturn, 1) := by decide +kernel
theorem dL_goBack_5 : decode cL_goBack 5 = .ok (.astore_n 1, 1) := by decide +kernel
theorem dL_goBack_6 : decode cL_goBack 6 = .ok (.bipush (-2), 2) := by decide +kernel
theorem dL_goBack_8 : decode cL_goBack 8 = .ok (.ireturn, 1) := by decide +kernel
theorem dL_undo_0 : decode cL_undo 0 = .ok (.aload_n 0, 1) := by decide +kernel
theorem dL_undo_1 : decode cL_undo 1 = .ok (.invokevirtual 61, 3) := by decide +kernel
theorem dL_undo_4 : decode cL_undo 4 = .ok (.ireturn, 1) := by decide +kernel
theorem dL_undo_5 : decode cL_undo 5 = .ok (.astore_n 1, 1) := by decide +kernel
theorem dL_undo_6 : decode cL_undo 6 = .ok (.bipush (-2), 2) := by decide +kernel
theorem dL_undo_8 : decode cL_undo 8 = .ok (.ireturn, 1) := by decide +kernel
theorem dL_setting_0 : decode cL_setting 0 = .ok (.aload_n 0, 1) := by decide +kernel
theorem dL_setting_1 : decode cL_setting 1 = .ok (.iload_n 1, 1) := by decide +kernel
theorem dL_setting_2 : decode cL_setting 2 = .ok (.invokevirtual 64, 3) := by decide +kernel
theorem dL_setting_5 : decode cL_setting 5 = .ok (.ireturn, 1) := by decide +kernel
theorem dL_setting_6 : decode cL_setting 6 = .ok (.astore_n 2, 1) := by decide +kernel
theorem dL_setting_7 : decode cL_setting 7 = .ok (.bipush (-2), 2) := by decide +kernel
theorem dL_setting_9 : decode cL_setting 9 = .ok (.ireturn, 1) := by decide +kernel
theorem dL_ifGlided_0 : decode cL_ifGlided 0 = .ok (.aload_n 0, 1) := by decide +kernel
theorem dL_ifGlided_1 : decode cL_ifGlided 1 = .ok (.iload_n 1, 1) := by decide +kernel
theorem dL_ifGlided_2 : decode cL_ifGlided 2 = .ok (.iload_n 2, 1) := by decide +kernel
theorem dL_ifGlided_3 : decode cL_ifGlided 3 = .ok (.iload_n 3, 1) := by decide +kernel
theorem dL_ifGlided_4 : decode cL_ifGlided 4 = .ok (.iload 4, 2) := by decide +kernel
theorem dL_ifGlided_6 : decode cL_ifGlided 6 = .ok (.invokevirtual 67, 3) := by decide +kernel
theorem dL_ifGlided_9 : decode cL_ifGlided 9 = .ok (.ireturn, 1) := by decide +kernel
theorem dL_ifGlided_10 : decode cL_ifGlided 10 = .ok (.astore 5, 2) := by decide +kernel
theorem dL_ifGlided_12 : decode cL_ifGlided 12 = .ok (.bipush (-103), 2) := by decide +kernel
theorem dL_ifGlided_14 : decode cL_ifGlided 14 = .ok (.ireturn, 1) := by decide +kernel
theorem dL_ifGlided_15 : decode cL_ifGlided 15 = .ok (.astore 5, 2) := by decide +kernel
theorem dL_ifGlided_17 : decode cL_ifGlided 17 = .ok (.bipush (-102), 2) := by decide +kernel
theorem dL_ifGlided_19 : decode cL_ifGlided 19 = .ok (.ireturn, 1) := by decide +kernel
theorem dL_best_0 : decode cL_best 0 = .ok (.aload_n 0, 1) := by decide +kernel
theorem dL_best_1 : decode cL_best 1 = .ok (.iload_n 1, 1) := by decide +kernel
theorem dL_best_2 : decode cL_best 2 = .ok (.invokevirtual 70, 3) := by decide +kernel
theorem dL_best_5 : decode cL_best 5 = .ok (.ireturn, 1) := by decide +kernel
theorem dL_best_6 : decode cL_best 6 = .ok (.astore_n 2, 1) := by decide +kernel
theorem dL_best_7 : decode cL_best 7 = .ok (.bipush (-3), 2) := by decide +kernel
theorem dL_best_9 : decode cL_best 9 = .ok (.ireturn, 1) := by decide +kernel
theorem dL_acts_0 : decode cL_acts 0 = .ok (.iload_n 1, 1) := by decide +kernel
theorem dL_acts_1 : decode cL_acts 1 = .ok (.bipush 32, 2) := by decide +kernel
theorem dL_acts_3 : decode cL_acts 3 = .ok (.idiv, 1) := by decide +kernel
theorem dL_acts_4 : decode cL_acts 4 = .ok (.istore_n 2, 1) := by decide +kernel
theorem dL_acts_5 : decode cL_acts 5 = .ok (.iload_n 1, 1) := by decide +kernel
theorem dL_acts_6 : decode cL_acts 6 = .ok (.bipush 32, 2) := by decide +kernel
theorem dL_acts_8 : decode cL_acts 8 = .ok (.irem, 1) := by decide +kernel
theorem dL_acts_9 : decode cL_acts 9 = .ok (.tableswitch 310 0 13 #[71, 76, 76, 92, 108, 108, 123, 123, 123, 128, 133, 138, 138, 138], 71) := by decide +kernel
theorem dL_acts_80 : decode cL_acts 80 = .ok (.aload_n 0, 1) := by decide +kernel
theorem dL_acts_81 : decode cL_acts 81 = .ok (.invokevirtual 73, 3) := by decide +kernel
theorem dL_acts_84 : decode cL_acts 84 = .ok (.ireturn, 1) := by decide +kernel
theorem dL_acts_85 : decode cL_acts 85 = .ok (.aload_n 0, 1) := by decide +kernel
theorem dL_acts_86 : decode cL_acts 86 = .ok (.iload_n 2, 1) := by decide +kernel
theorem dL_acts_87 : decode cL_acts 87 = .ok (.bipush 8, 2) := by decide +kernel
theorem dL_acts_89 : decode cL_acts 89 = .ok (.irem, 1) := by decide +kernel
theorem dL_acts_90 : decode cL_acts 90 = .ok (.iload_n 2, 1) := by decide +kernel
theorem dL_acts_91 : decode cL_acts 91 = .ok (.bipush 8, 2) := by decide +kernel
theorem dL_acts_93 : decode cL_acts 93 = .ok (.idiv, 1) := by decide +kernel
theorem dL_acts_94 : decode cL_acts 94 = .ok (.bipush 8, 2) := by decide +kernel
theorem dL_acts_96 : decode cL_acts 96 = .ok (.irem, 1) := by decide +kernel
theorem dL_acts_97 : decode cL_acts 97 = .ok (.invokestatic 76, 3) := by decide +kernel
theorem dL_acts_100 : decode cL_acts 100 = .ok (.ireturn, 1) := by decide +kernel
theorem dL_acts_101 : decode cL_acts 101 = .ok (.aload_n 0, 1) := by decide +kernel
theorem dL_acts_102 : decode cL_acts 102 = .ok (.iload_n 2, 1) := by decide +kernel
theorem dL_acts_103 : decode cL_acts 103 = .ok (.iconst 3, 1) := by decide +kernel
theorem dL_acts_104 : decode cL_acts 104 = .ok (.irem, 1) := by decide +kernel
theorem dL_acts_105 : decode cL_acts 105 = .ok (.iconst 1, 1) := by decide +kernel
theorem dL_acts_106 : decode cL_acts 106 = .ok (.iload_n 2, 1) := by decide +kernel
theorem dL_acts_107 : decode cL_acts 107 = .ok (.iconst 4, 1) := by decide +kernel
theorem dL_acts_108 : decode cL_acts 108 = .ok (.idiv, 1) := by decide +kernel
theorem dL_acts_109 : decode cL_acts 109 = .ok (.bipush 99, 2) := by decide +kernel
theorem dL_acts_111 : decode cL_acts 111 = .ok (.irem, 1) := by decide +kernel
theorem dL_acts_112 : decode cL_acts 112 = .ok (.iadd, 1) := by decide +kernel
theorem dL_acts_113 : decode cL_acts 113 = .ok (.invokestatic 81, 3) := by decide +kernel
theorem dL_acts_116 : decode cL_acts 116 = .ok (.ireturn, 1) := by decide +kernel
theorem dL_acts_117 : decode cL_acts 117 = .ok (.aload_n 0, 1) := by decide +kernel
theorem dL_acts_118 : decode cL_acts 118 = .ok (.iload_n 2, 1) := by decide +kernel
theorem dL_acts_119 : decode cL_acts 119 = .ok (.iconst 3, 1) := by decide +kernel
theorem dL_acts_120 : decode cL_acts 120 = .ok (.irem, 1) := by decide +kernel
theorem dL_acts_121 : decode cL_acts 121 = .ok (.iconst 1, 1) := by decide +kernel
theorem dL_acts_122 : decode cL_acts 122 = .ok (.iload_n 2, 1) := by decide +kernel
theorem dL_acts_123 : decode cL_acts 123 = .ok (.iconst 3, 1) := by decide +kernel
theorem dL_acts_124 : decode cL_acts 124 = .ok (.idiv, 1) := by decide +kernel
theorem dL_acts_125 : decode cL_acts 125 = .ok (.iconst 4, 1) := by decide +kernel
theorem dL_acts_126 : decode cL_acts 126 = .ok (.irem, 1) := by decide +kernel
theorem dL_acts_127 : decode cL_acts 127 = .ok (.iadd, 1) := by decide +kernel
theorem dL_acts_128 : decode cL_acts 128 = .ok (.invokestatic 83, 3) := by decide +kernel
theorem dL_acts_131 : decode cL_acts 131 = .ok (.ireturn, 1) := by decide +kernel
theorem dL_acts_132 : decode cL_acts 132 = .ok (.aload_n 0, 1) := by decide +kernel
theorem dL_acts_133 : decode cL_acts 133 = .ok (.invokestatic 85, 3) := by decide +kernel
theorem dL_acts_136 : decode cL_acts 136 = .ok (.ireturn, 1) := by decide +kernel
theorem dL_acts_137 : decode cL_acts 137 = .ok (.aload_n 0, 1) := by decide +kernel
theorem dL_acts_138 : decode cL_acts 138 = .ok (.invokevirtual 88, 3) := by decide +kernel
theorem dL_acts_141 : decode cL_acts 141 = .ok (.ireturn, 1) := by decide +kernel
theorem dL_acts_142 : decode cL_acts 142 = .ok (.aload_n 0, 1) := by decide +kernel
theorem dL_acts_143 : decode cL_acts 143 = .ok (.invokestatic 91, 3) := by decide +kernel
theorem dL_acts_146 : decode cL_acts 146 = .ok (.ireturn, 1) := by decide +kernel
theorem dL_acts_147 : decode cL_acts 147 = .ok (.aload_n 0, 1) := by decide +kernel
theorem dL_acts_148 : decode cL_acts 148 = .ok (.invokevirtual 93, 3) := by decide +kernel
theorem dL_acts_151 : decode cL_acts 151 = .ok (.istore_n 3, 1) := by decide +kernel
theorem dL_acts_152 : decode cL_acts 152 = .ok (.iconst 0, 1) := by decide +kernel
theorem dL_acts_153 : decode cL_acts 153 = .ok (.istore 4, 2) := by decide +kernel
theorem dL_acts_155 : decode cL_acts 155 = .ok (.iload 4, 2) := by decide +kernel
theorem dL_acts_157 : decode cL_acts 157 = .ok (.iconst 1, 1) := by decide +kernel
theorem dL_acts_158 : decode cL_acts 158 = .ok (.iload_n 2, 1) := by decide +kernel
theorem dL_acts_159 : decode cL_acts 159 = .ok (.iconst 4, 1) := by decide +kernel
theorem dL_acts_160 : decode cL_acts 160 = .ok (.irem, 1) := by decide +kernel
theorem dL_acts_161 : decode cL_acts 161 = .ok (.iadd, 1) := by decide +kernel
theorem dL_acts_162 : decode cL_acts 162 = .ok (.if_icmp .ge 134, 3) := by decide +kernel
theorem dL_acts_165 : decode cL_acts 165 = .ok (.iload_n 2, 1) := by decide +kernel
theorem dL_acts_166 : decode cL_acts 166 = .ok (.iconst 4, 1) := by decide +kernel
theorem dL_acts_167 : decode cL_acts 167 = .ok (.idiv, 1) := by decide +kernel
theorem dL_acts_168 : decode cL_acts 168 = .ok (.iconst 4, 1) := by decide +kernel
theorem dL_acts_169 : decode cL_acts 169 = .ok (.iload 4, 2) := by decide +kernel
theorem dL_acts_171 : decode cL_acts 171 = .ok (.imul, 1) := by decide +kernel
theorem dL_acts_172 : decode cL_acts 172 = .ok (.ishr, 1) := by decide +kernel
theorem dL_acts_173 : decode cL_acts 173 = .ok (.istore 5, 2) := by decide +kernel
theorem dL_acts_175 : decode cL_acts 175 = .ok (.iload 4, 2) := by decide +kernel
theorem dL_acts_177 : decode cL_acts 177 = .ok (.ifCond .le 12, 3) := by decide +kernel
theorem dL_acts_180 : decode cL_acts 180 = .ok (.aload_n 0, 1) := by decide +kernel
theorem dL_acts_181 : decode cL_acts 181 = .ok (.bipush 59, 2) := by decide +kernel
theorem dL_acts_183 : decode cL_acts 183 = .ok (.invokestatic 96, 3) := by decide +kernel
theorem dL_acts_186 : decode cL_acts 186 = .ok (.goto 4, 3) := by decide +kernel
theorem dL_acts_189 : decode cL_acts 189 = .ok (.iconst 0, 1) := by decide +kernel
theorem dL_acts_190 : decode cL_acts 190 = .ok (.istore_n 3, 1) := by decide +kernel
theorem dL_acts_191 : decode cL_acts 191 = .ok (.iload 5, 2) := by decide +kernel
theorem dL_acts_193 : decode cL_acts 193 = .ok (.bipush 16, 2) := by decide +kernel
theorem dL_acts_195 : decode cL_acts 195 = .ok (.irem, 1) := by decide +kernel
theorem dL_acts_196 : decode cL_acts 196 = .ok (.bipush 15, 2) := by decide +kernel
theorem dL_acts_198 : decode cL_acts 198 = .ok (.if_icmp .ne 13, 3) := by decide +kernel
theorem dL_acts_201 : decode cL_acts 201 = .ok (.aload_n 0, 1) := by decide +kernel
theorem dL_acts_202 : decode cL_acts 202 = .ok (.bipush 116, 2) := by decide +kernel
theorem dL_acts_204 : decode cL_acts 204 = .ok (.invokestatic 96, 3) := by decide +kernel
theorem dL_acts_207 : decode cL_acts 207 = .ok (.istore_n 3, 1) := by decide +kernel
theorem dL_acts_208 : decode cL_acts 208 = .ok (.goto 82, 3) := by decide +kernel
theorem dL_acts_211 : decode cL_acts 211 = .ok (.aload_n 0, 1) := by decide +kernel
theorem dL_acts_212 : decode cL_acts 212 = .ok (.bipush 48, 2) := by decide +kernel
theorem dL_acts_214 : decode cL_acts 214 = .ok (.iload 5, 2) := by decide +kernel
theorem dL_acts_216 : decode cL_acts 216 = .ok (.iconst 3, 1) := by decide +kernel
theorem dL_acts_217 : decode cL_acts 217 = .ok (.irem, 1) := by decide +kernel
theorem dL_acts_218 : decode cL_acts 218 = .ok (.iadd, 1) := by decide +kernel
theorem dL_acts_219 : decode cL_acts 219 = .ok (.invokestatic 96, 3) := by decide +kernel
theorem dL_acts_222 : decode cL_acts 222 = .ok (.istore_n 3, 1) := by decide +kernel
theorem dL_acts_223 : decode cL_acts 223 = .ok (.aload_n 0, 1) := by decide +kernel
theorem dL_acts_224 : decode cL_acts 224 = .ok (.iload 5, 2) := by decide +kernel
theorem dL_acts_226 : decode cL_acts 226 = .ok (.iconst 4, 1) := by decide +kernel
theorem dL_acts_227 : decode cL_acts 227 = .ok (.idiv, 1) := by decide +kernel
theorem dL_acts_228 : decode cL_acts 228 = .ok (.iconst 4, 1) := by decide +kernel
theorem dL_acts_229 : decode cL_acts 229 = .ok (.irem, 1) := by decide +kernel
theorem dL_acts_230 : decode cL_acts 230 = .ok (.ifCond .ne 8, 3) := by decide +kernel
theorem dL_acts_233 : decode cL_acts 233 = .ok (.bipush 110, 2) := by decide +kernel
theorem dL_acts_235 : decode cL_acts 235 = .ok (.goto 35, 3) := by decide +kernel
theorem dL_acts_238 : decode cL_acts 238 = .ok (.iload 5, 2) := by decide +kernel
theorem dL_acts_240 : decode cL_acts 240 = .ok (.iconst 4, 1) := by decide +kernel
theorem dL_acts_241 : decode cL_acts 241 = .ok (.idiv, 1) := by decide +kernel
theorem dL_acts_242 : decode cL_acts 242 = .ok (.iconst 4, 1) := by decide +kernel
theorem dL_acts_243 : decode cL_acts 243 = .ok (.irem, 1) := by decide +kernel
theorem dL_acts_244 : decode cL_acts 244 = .ok (.iconst 1, 1) := by decide +kernel
theorem dL_acts_245 : decode cL_acts 245 = .ok (.if_icmp .ne 8, 3) := by decide +kernel
theorem dL_acts_248 : decode cL_acts 248 = .ok (.bipush 101, 2) := by decide +kernel
theorem dL_acts_250 : decode cL_acts 250 = .ok (.goto 20, 3) := by decide +kernel
theorem dL_acts_253 : decode cL_acts 253 = .ok (.iload 5, 2) := by decide +kernel
theorem dL_acts_255 : decode cL_acts 255 = .ok (.iconst 4, 1) := by decide +kernel
theorem dL_acts_256 : decode cL_acts 256 = .ok (.idiv, 1) := by decide +kernel
theorem dL_acts_257 : decode cL_acts 257 = .ok (.iconst 4, 1) := by decide +kernel
theorem dL_acts_258 : decode cL_acts 258 = .ok (.irem, 1) := by decide +kernel
theorem dL_acts_259 : decode cL_acts 259 = .ok (.iconst 2, 1) := by decide +kernel
theorem dL_acts_260 : decode cL_acts 260 = .ok (.if_icmp .ne 8, 3) := by decide +kernel
theorem dL_acts_263 : decode cL_acts 263 = .ok (.bipush 115, 2) := by decide +kernel
theorem dL_acts_265 : decode cL_acts 265 = .ok (.goto 5, 3) := by decide +kernel
theorem dL_acts_268 : decode cL_acts 268 = .ok (.bipush 119, 2) := by decide +kernel
theorem dL_acts_270 : decode cL_acts 270 = .ok (.invokestatic 96, 3) := by decide +kernel
theorem dL_acts_273 : decode cL_acts 273 = .ok (.istore_n 3, 1) := by decide +kernel
theorem dL_acts_274 : decode cL_acts 274 = .ok (.aload_n 0, 1) := by decide +kernel
theorem dL_acts_275 : decode cL_acts 275 = .ok (.bipush 49, 2) := by decide +kernel
theorem dL_acts_277 : decode cL_acts 277 = .ok (.iload 5, 2) := by decide +kernel
theorem dL_acts_279 : decode cL_acts 279 = .ok (.bipush 16, 2) := by decide +kernel
theorem dL_acts_281 : decode cL_acts 281 = .ok (.idiv, 1) := by decide +kernel
theorem dL_acts_282 : decode cL_acts 282 = .ok (.bipush 8, 2) := by decide +kernel
theorem dL_acts_284 : decode cL_acts 284 = .ok (.irem, 1) := by decide +kernel
theorem dL_acts_285 : decode cL_acts 285 = .ok (.iadd, 1) := by decide +kernel
theorem dL_acts_286 : decode cL_acts 286 = .ok (.invokestatic 96, 3) := by decide +kernel
theorem dL_acts_289 : decode cL_acts 289 = .ok (.istore_n 3, 1) := by decide +kernel
theorem dL_acts_290 : decode cL_acts 290 = .ok (.iinc 4 1, 3) := by decide +kernel
theorem dL_acts_293 : decode cL_acts 293 = .ok (.goto (-138), 3) := by decide +kernel
theorem dL_acts_296 : decode cL_acts 296 = .ok (.iload_n 3, 1) := by decide +kernel
theorem dL_acts_297 : decode cL_acts 297 = .ok (.iconst 1, 1) := by decide +kernel
theorem dL_acts_298 : decode cL_acts 298 = .ok (.if_icmp .lt 11, 3) := by decide +kernel
theorem dL_acts_301 : decode cL_acts 301 = .ok (.aload_n 0, 1) := by decide +kernel
theorem dL_acts_302 : decode cL_acts 302 = .ok (.invokevirtual 99, 3) := by decide +kernel
theorem dL_acts_305 : decode cL_acts 305 = .ok (.iload_n 3, 1) := by decide +kernel
theorem dL_acts_306 : decode cL_acts 306 = .ok (.if_icmp .eq 8, 3) := by decide +kernel
theorem dL_acts_309 : decode cL_acts 309 = .ok (.bipush (-9), 2) := by decide +kernel
theorem dL_acts_311 : decode cL_acts 311 = .ok (.goto 7, 3) := by decide +kernel
theorem dL_acts_314 : decode cL_acts 314 = .ok (.aload_n 0, 1) := by decide +kernel
theorem dL_acts_315 : decode cL_acts 315 = .ok (.invokestatic 102, 3) := by decide +kernel
theorem dL_acts_318 : decode cL_acts 318 = .ok (.ireturn, 1) := by decide +kernel
theorem dL_acts_319 : decode cL_acts 319 = .ok (.aload_n 0, 1) := by decide +kernel
theorem dL_acts_320 : decode cL_acts 320 = .ok (.iload_n 2, 1) := by decide +kernel
theorem dL_acts_321 : decode cL_acts 321 = .ok (.iconst 3, 1) := by decide +kernel
theorem dL_acts_322 : decode cL_acts 322 = .ok (.irem, 1) := by decide +kernel
theorem dL_acts_323 : decode cL_acts 323 = .ok (.iload_n 2, 1) := by decide +kernel
theorem dL_acts_324 : decode cL_acts 324 = .ok (.iconst 3, 1) := by decide +kernel
theorem dL_acts_325 : decode cL_acts 325 = .ok (.idiv, 1) := by decide +kernel
theorem dL_acts_326 : decode cL_acts 326 = .ok (.iconst 4, 1) := by decide +kernel
theorem dL_acts_327 : decode cL_acts 327 = .ok (.irem, 1) := by decide +kernel
theorem dL_acts_328 : decode cL_acts 328 = .ok (.iconst 1, 1) := by decide +kernel
theorem dL_acts_329 : decode cL_acts 329 = .ok (.iload_n 2, 1) := by decide +kernel
theorem dL_acts_330 : decode cL_acts 330 = .ok (.bipush 12, 2) := by decide +kernel
theorem dL_acts_332 : decode cL_acts 332 = .ok (.idiv, 1) := by decide +kernel
theorem dL_acts_333 : decode cL_acts 333 = .ok (.bipush 8, 2) := by decide +kernel
theorem dL_acts_335 : decode cL_acts 335 = .ok (.irem, 1) := by decide +kernel
theorem dL_acts_336 : decode cL_acts 336 = .ok (.iadd, 1) := by decide +kernel
theorem dL_acts_337 : decode cL_acts 337 = .ok (.invokestatic 104, 3) := by decide +kernel
theorem dL_acts_340 : decode cL_acts 340 = .ok (.ireturn, 1) := by decide +kernel
theorem dL_hangs_0 : decode cL_hangs 0 = .ok (.iconst 0, 1) := by decide +kernel
theorem dL_hangs_1 : decode cL_hangs 1 = .ok (.istore_n 1, 1) := by decide +kernel
theorem dL_hangs_2 : decode cL_hangs 2 = .ok (.iconst 0, 1) := by decide +kernel
theorem dL_hangs_3 : decode cL_hangs 3 = .ok (.istore_n 2, 1) := by decide +kernel
theorem dL_hangs_4 : decode cL_hangs 4 = .ok (.iconst 1, 1) := by decide +kernel
theorem dL_hangs_5 : decode cL_hangs 5 = .ok (.istore_n 3, 1) := by decide +kernel
theorem dL_hangs_6 : decode cL_hangs 6 = .ok (.iconst 0, 1) := by decide +kernel
theorem dL_hangs_7 : decode cL_hangs 7 = .ok (.istore 4, 2) := by decide +kernel
theorem dL_hangs_9 : decode cL_hangs 9 = .ok (.iload 4, 2) := by decide +kernel
theorem dL_hangs_11 : decode cL_hangs 11 = .ok (.bipush 64, 2) := by decide +kernel
theorem dL_hangs_13 : decode cL_hangs 13 = .ok (.if_icmp .ge 335, 3) := by decide +kernel
theorem dL_hangs_16 : decode cL_hangs 16 = .ok (.iload_n 3, 1) := by decide +kernel
theorem dL_hangs_17 : decode cL_hangs 17 = .ok (.ifCond .eq 331, 3) := by decide +kernel
theorem dL_hangs_20 : decode cL_hangs 20 = .ok (.iload 4, 2) := by decide +kernel
theorem dL_hangs_22 : decode cL_hangs 22 = .ok (.bipush 8, 2) := by decide +kernel
theorem dL_hangs_24 : decode cL_hangs 24 = .ok (.irem, 1) := by decide +kernel
theorem dL_hangs_25 : decode cL_hangs 25 = .ok (.istore 5, 2) := by decide +kernel
theorem dL_hangs_27 : decode cL_hangs 27 = .ok (.iload 4, 2) := by decide +kernel
theorem dL_hangs_29 : decode cL_hangs 29 = .ok (.bipush 8, 2) := by decide +kernel
theorem dL_hangs_31 : decode cL_hangs 31 = .ok (.idiv, 1) := by decide +kernel
theorem dL_hangs_32 : decode cL_hangs 32 = .ok (.istore 6, 2) := by decide +kernel
theorem dL_hangs_34 : decode cL_hangs 34 = .ok (.aload_n 0, 1) := by decide +kernel
theorem dL_hangs_35 : decode cL_hangs 35 = .ok (.iload 5, 2) := by decide +kernel
theorem dL_hangs_37 : decode cL_hangs 37 = .ok (.iload 6, 2) := by decide +kernel
theorem dL_hangs_39 : decode cL_hangs 39 = .ok (.iconst 0, 1) := by decide +kernel
theorem dL_hangs_40 : decode cL_hangs 40 = .ok (.invokestatic 107, 3) := by decide +kernel
theorem dL_hangs_43 : decode cL_hangs 43 = .ok (.iconst 1, 1) := by decide +kernel
theorem dL_hangs_44 : decode cL_hangs 44 = .ok (.if_icmp .ne 7, 3) := by decide +kernel
theorem dL_hangs_47 : decode cL_hangs 47 = .ok (.iconst 1, 1) := by decide +kernel
theorem dL_hangs_48 : decode cL_hangs 48 = .ok (.goto 4, 3) := by decide +kernel
theorem dL_hangs_51 : decode cL_hangs 51 = .ok (.iconst 0, 1) := by decide +kernel
theorem dL_hangs_52 : decode cL_hangs 52 = .ok (.istore 7, 2) := by decide +kernel
theorem dL_hangs_54 : decode cL_hangs 54 = .ok (.aload_n 0, 1) := by decide +kernel
theorem dL_hangs_55 : decode cL_hangs 55 = .ok (.iload 5, 2) := by decide +kernel
theorem dL_hangs_57 : decode cL_hangs 57 = .ok (.iload 6, 2) := by decide +kernel
theorem dL_hangs_59 : decode cL_hangs 59 = .ok (.iconst 1, 1) := by decide +kernel
theorem dL_hangs_60 : decode cL_hangs 60 = .ok (.invokestatic 107, 3) := by decide +kernel
theorem dL_hangs_63 : decode cL_hangs 63 = .ok (.istore 8, 2) := by decide +kernel
theorem dL_hangs_65 : decode cL_hangs 65 = .ok (.aload_n 0, 1) := by decide +kernel
theorem dL_hangs_66 : decode cL_hangs 66 = .ok (.iload 5, 2) := by decide +kernel
theorem dL_hangs_68 : decode cL_hangs 68 = .ok (.iload 6, 2) := by decide +kernel
theorem dL_hangs_70 : decode cL_hangs 70 = .ok (.iconst 2, 1) := by decide +kernel
theorem dL_hangs_71 : decode cL_hangs 71 = .ok (.invokestatic 107, 3) := by decide +kernel
theorem dL_hangs_74 : decode cL_hangs 74 = .ok (.istore 9, 2) := by decide +kernel
theorem dL_hangs_76 : decode cL_hangs 76 = .ok (.aload_n 0, 1) := by decide +kernel
theorem dL_hangs_77 : decode cL_hangs 77 = .ok (.iload 5, 2) := by decide +kernel
theorem dL_hangs_79 : decode cL_hangs 79 = .ok (.iload 6, 2) := by decide +kernel
theorem dL_hangs_81 : decode cL_hangs 81 = .ok (.iconst 5, 1) := by decide +kernel
theorem dL_hangs_82 : decode cL_hangs 82 = .ok (.invokestatic 107, 3) := by decide +kernel
theorem dL_hangs_85 : decode cL_hangs 85 = .ok (.istore 10, 2) := by decide +kernel
theorem dL_hangs_87 : decode cL_hangs 87 = .ok (.aload_n 0, 1) := by decide +kernel
theorem dL_hangs_88 : decode cL_hangs 88 = .ok (.iload 5, 2) := by decide +kernel
theorem dL_hangs_90 : decode cL_hangs 90 = .ok (.iload 6, 2) := by decide +kernel
theorem dL_hangs_92 : decode cL_hangs 92 = .ok (.iconst 4, 1) := by decide +kernel
theorem dL_hangs_93 : decode cL_hangs 93 = .ok (.invokestatic 107, 3) := by decide +kernel
theorem dL_hangs_96 : decode cL_hangs 96 = .ok (.ifCond .lt 145, 3) := by decide +kernel
theorem dL_hangs_99 : decode cL_hangs 99 = .ok (.aload_n 0, 1) := by decide +kernel
theorem dL_hangs_100 : decode cL_hangs 100 = .ok (.iload 5, 2) := by decide +kernel
theorem dL_hangs_102 : decode cL_hangs 102 = .ok (.iload 6, 2) := by decide +kernel
theorem dL_hangs_104 : decode cL_hangs 104 = .ok (.iconst 4, 1) := by decide +kernel
theorem dL_hangs_105 : decode cL_hangs 105 = .ok (.invokestatic 107, 3) := by decide +kernel
theorem dL_hangs_108 : decode cL_hangs 108 = .ok (.iconst 4, 1) := by decide +kernel
theorem dL_hangs_109 : decode cL_hangs 109 = .ok (.if_icmp .gt 132, 3) := by decide +kernel
theorem dL_hangs_112 : decode cL_hangs 112 = .ok (.iload 7, 2) := by decide +kernel
theorem dL_hangs_114 : decode cL_hangs 114 = .ok (.ifCond .eq 94, 3) := by decide +kernel
theorem dL_hangs_117 : decode cL_hangs 117 = .ok (.iload 8, 2) := by decide +kernel
theorem dL_hangs_119 : decode cL_hangs 119 = .ok (.iconst (-1), 1) := by decide +kernel
theorem dL_hangs_120 : decode cL_hangs 120 = .ok (.if_icmp .lt 121, 3) := by decide +kernel
theorem dL_hangs_123 : decode cL_hangs 123 = .ok (.iload 8, 2) := by decide +kernel
theorem dL_hangs_125 : decode cL_hangs 125 = .ok (.iconst 3, 1) := by decide +kernel
theorem dL_hangs_126 : decode cL_hangs 126 = .ok (.if_icmp .ge 115, 3) := by decide +kernel
theorem dL_hangs_129 : decode cL_hangs 129 = .ok (.iload 9, 2) := by decide +kernel
theorem dL_hangs_131 : decode cL_hangs 131 = .ok (.ifCond .lt 110, 3) := by decide +kernel
theorem dL_hangs_134 : decode cL_hangs 134 = .ok (.iload 9, 2) := by decide +kernel
theorem dL_hangs_136 : decode cL_hangs 136 = .ok (.iload 4, 2) := by decide +kernel
theorem dL_hangs_138 : decode cL_hangs 138 = .ok (.if_icmp .gt 103, 3) := by decide +kernel
theorem dL_hangs_141 : decode cL_hangs 141 = .ok (.aload_n 0, 1) := by decide +kernel
theorem dL_hangs_142 : decode cL_hangs 142 = .ok (.iload 9, 2) := by decide +kernel
theorem dL_hangs_144 : decode cL_hangs 144 = .ok (.bipush 8, 2) := by decide +kernel
theorem dL_hangs_146 : decode cL_hangs 146 = .ok (.irem, 1) := by decide +kernel
theorem dL_hangs_147 : decode cL_hangs 147 = .ok (.iload 9, 2) := by decide +kernel
theorem dL_hangs_149 : decode cL_hangs 149 = .ok (.bipush 8, 2) := by decide +kernel
theorem dL_hangs_151 : decode cL_hangs 151 = .ok (.idiv, 1) := by decide +kernel
theorem dL_hangs_152 : decode cL_hangs 152 = .ok (.iconst 2, 1) := by decide +kernel
theorem dL_hangs_153 : decode cL_hangs 153 = .ok (.invokestatic 107, 3) := by decide +kernel
theorem dL_hangs_156 : decode cL_hangs 156 = .ok (.iload 9, 2) := by decide +kernel
theorem dL_hangs_158 : decode cL_hangs 158 = .ok (.if_icmp .ne 83, 3) := by decide +kernel
theorem dL_hangs_161 : decode cL_hangs 161 = .ok (.aload_n 0, 1) := by decide +kernel
theorem dL_hangs_162 : decode cL_hangs 162 = .ok (.iload 9, 2) := by decide +kernel
theorem dL_hangs_164 : decode cL_hangs 164 = .ok (.bipush 8, 2) := by decide +kernel
theorem dL_hangs_166 : decode cL_hangs 166 = .ok (.irem, 1) := by decide +kernel
theorem dL_hangs_167 : decode cL_hangs 167 = .ok (.iload 9, 2) := by decide +kernel
theorem dL_hangs_169 : decode cL_hangs 169 = .ok (.bipush 8, 2) := by decide +kernel
theorem dL_hangs_171 : decode cL_hangs 171 = .ok (.idiv, 1) := by decide +kernel
theorem dL_hangs_172 : decode cL_hangs 172 = .ok (.iconst 1, 1) := by decide +kernel
theorem dL_hangs_173 : decode cL_hangs 173 = .ok (.invokestatic 107, 3) := by decide +kernel
theorem dL_hangs_176 : decode cL_hangs 176 = .ok (.iload 8, 2) := by decide +kernel
theorem dL_hangs_178 : decode cL_hangs 178 = .ok (.if_icmp .ne 63, 3) := by decide +kernel
theorem dL_hangs_181 : decode cL_hangs 181 = .ok (.aload_n 0, 1) := by decide +kernel
theorem dL_hangs_182 : decode cL_hangs 182 = .ok (.iload 5, 2) := by decide +kernel
theorem dL_hangs_184 : decode cL_hangs 184 = .ok (.iload 6, 2) := by decide +kernel
theorem dL_hangs_186 : decode cL_hangs 186 = .ok (.iconst 3, 1) := by decide +kernel
theorem dL_hangs_187 : decode cL_hangs 187 = .ok (.invokestatic 107, 3) := by decide +kernel
theorem dL_hangs_190 : decode cL_hangs 190 = .ok (.iconst 1, 1) := by decide +kernel
theorem dL_hangs_191 : decode cL_hangs 191 = .ok (.if_icmp .lt 50, 3) := by decide +kernel
theorem dL_hangs_194 : decode cL_hangs 194 = .ok (.iload 10, 2) := by decide +kernel
theorem dL_hangs_196 : decode cL_hangs 196 = .ok (.iconst (-1), 1) := by decide +kernel
theorem dL_hangs_197 : decode cL_hangs 197 = .ok (.if_icmp .eq 40, 3) := by decide +kernel
theorem dL_hangs_200 : decode cL_hangs 200 = .ok (.iload 10, 2) := by decide +kernel
theorem dL_hangs_202 : decode cL_hangs 202 = .ok (.ifCond .le 39, 3) := by decide +kernel
theorem dL_hangs_205 : decode cL_hangs 205 = .ok (.goto 32, 3) := by decide +kernel
theorem dL_hangs_208 : decode cL_hangs 208 = .ok (.iload 8, 2) := by decide +kernel
theorem dL_hangs_210 : decode cL_hangs 210 = .ok (.iconst (-1), 1) := by decide +kernel
theorem dL_hangs_211 : decode cL_hangs 211 = .ok (.if_icmp .ne 30, 3) := by decide +kernel
theorem dL_hangs_214 : decode cL_hangs 214 = .ok (.iload 9, 2) := by decide +kernel
theorem dL_hangs_216 : decode cL_hangs 216 = .ok (.iconst (-1), 1) := by decide +kernel
theorem dL_hangs_217 : decode cL_hangs 217 = .ok (.if_icmp .ne 24, 3) := by decide +kernel
theorem dL_hangs_220 : decode cL_hangs 220 = .ok (.aload_n 0, 1) := by decide +kernel
theorem dL_hangs_221 : decode cL_hangs 221 = .ok (.iload 5, 2) := by decide +kernel
theorem dL_hangs_223 : decode cL_hangs 223 = .ok (.iload 6, 2) := by decide +kernel
theorem dL_hangs_225 : decode cL_hangs 225 = .ok (.iconst 3, 1) := by decide +kernel
theorem dL_hangs_226 : decode cL_hangs 226 = .ok (.invokestatic 107, 3) := by decide +kernel
theorem dL_hangs_229 : decode cL_hangs 229 = .ok (.ifCond .ne 12, 3) := by decide +kernel
theorem dL_hangs_232 : decode cL_hangs 232 = .ok (.iload 10, 2) := by decide +kernel
theorem dL_hangs_234 : decode cL_hangs 234 = .ok (.ifCond .ne 7, 3) := by decide +kernel
theorem dL_hangs_237 : decode cL_hangs 237 = .ok (.iconst 1, 1) := by decide +kernel
theorem dL_hangs_238 : decode cL_hangs 238 = .ok (.goto 4, 3) := by decide +kernel
theorem dL_hangs_241 : decode cL_hangs 241 = .ok (.iconst 0, 1) := by decide +kernel
theorem dL_hangs_242 : decode cL_hangs 242 = .ok (.istore_n 3, 1) := by decide +kernel
theorem dL_hangs_243 : decode cL_hangs 243 = .ok (.iload_n 3, 1) := by decide +kernel
theorem dL_hangs_244 : decode cL_hangs 244 = .ok (.ifCond .eq 65, 3) := by decide +kernel
theorem dL_hangs_247 : decode cL_hangs 247 = .ok (.iload 5, 2) := by decide +kernel
theorem dL_hangs_249 : decode cL_hangs 249 = .ok (.bipush 7, 2) := by decide +kernel
theorem dL_hangs_251 : decode cL_hangs 251 = .ok (.if_icmp .eq 54, 3) := by decide +kernel
theorem dL_hangs_254 : decode cL_hangs 254 = .ok (.iload 7, 2) := by decide +kernel
theorem dL_hangs_256 : decode cL_hangs 256 = .ok (.ifCond .eq 49, 3) := by decide +kernel
theorem dL_hangs_259 : decode cL_hangs 259 = .ok (.aload_n 0, 1) := by decide +kernel
theorem dL_hangs_260 : decode cL_hangs 260 = .ok (.iload 5, 2) := by decide +kernel
theorem dL_hangs_262 : decode cL_hangs 262 = .ok (.iconst 1, 1) := by decide +kernel
theorem dL_hangs_263 : decode cL_hangs 263 = .ok (.iadd, 1) := by decide +kernel
theorem dL_hangs_264 : decode cL_hangs 264 = .ok (.iload 6, 2) := by decide +kernel
theorem dL_hangs_266 : decode cL_hangs 266 = .ok (.iconst 0, 1) := by decide +kernel
theorem dL_hangs_267 : decode cL_hangs 267 = .ok (.invokestatic 107, 3) := by decide +kernel
theorem dL_hangs_270 : decode cL_hangs 270 = .ok (.ifCond .eq 35, 3) := by decide +kernel
theorem dL_hangs_273 : decode cL_hangs 273 = .ok (.aload_n 0, 1) := by decide +kernel
theorem dL_hangs_274 : decode cL_hangs 274 = .ok (.iload 5, 2) := by decide +kernel
theorem dL_hangs_276 : decode cL_hangs 276 = .ok (.iconst 1, 1) := by decide +kernel
theorem dL_hangs_277 : decode cL_hangs 277 = .ok (.iadd, 1) := by decide +kernel
theorem dL_hangs_278 : decode cL_hangs 278 = .ok (.iload 6, 2) := by decide +kernel
theorem dL_hangs_280 : decode cL_hangs 280 = .ok (.iconst 2, 1) := by decide +kernel
theorem dL_hangs_281 : decode cL_hangs 281 = .ok (.iconst 1, 1) := by decide +kernel
theorem dL_hangs_282 : decode cL_hangs 282 = .ok (.invokestatic 110, 3) := by decide +kernel
theorem dL_hangs_285 : decode cL_hangs 285 = .ok (.iconst 1, 1) := by decide +kernel
theorem dL_hangs_286 : decode cL_hangs 286 = .ok (.if_icmp .eq 19, 3) := by decide +kernel
theorem dL_hangs_289 : decode cL_hangs 289 = .ok (.aload_n 0, 1) := by decide +kernel
theorem dL_hangs_290 : decode cL_hangs 290 = .ok (.iload 5, 2) := by decide +kernel
theorem dL_hangs_292 : decode cL_hangs 292 = .ok (.iconst 1, 1) := by decide +kernel
theorem dL_hangs_293 : decode cL_hangs 293 = .ok (.iadd, 1) := by decide +kernel
theorem dL_hangs_294 : decode cL_hangs 294 = .ok (.iload 6, 2) := by decide +kernel
theorem dL_hangs_296 : decode cL_hangs 296 = .ok (.iconst 2, 1) := by decide +kernel
theorem dL_hangs_297 : decode cL_hangs 297 = .ok (.invokestatic 107, 3) := by decide +kernel
theorem dL_hangs_300 : decode cL_hangs 300 = .ok (.iload 9, 2) := by decide +kernel
theorem dL_hangs_302 : decode cL_hangs 302 = .ok (.if_icmp .ne 7, 3) := by decide +kernel
theorem dL_hangs_305 : decode cL_hangs 305 = .ok (.iconst 1, 1) := by decide +kernel
theorem dL_hangs_306 : decode cL_hangs 306 = .ok (.goto 4, 3) := by decide +kernel
theorem dL_hangs_309 : decode cL_hangs 309 = .ok (.iconst 0, 1) := by decide +kernel
theorem dL_hangs_310 : decode cL_hangs 310 = .ok (.istore_n 3, 1) := by decide +kernel
theorem dL_hangs_311 : decode cL_hangs 311 = .ok (.iload_n 1, 1) := by decide +kernel
theorem dL_hangs_312 : decode cL_hangs 312 = .ok (.iload 7, 2) := by decide +kernel
theorem dL_hangs_314 : decode cL_hangs 314 = .ok (.ifCond .eq 7, 3) := by decide +kernel
theorem dL_hangs_317 : decode cL_hangs 317 = .ok (.iconst 1, 1) := by decide +kernel
theorem dL_hangs_318 : decode cL_hangs 318 = .ok (.goto 4, 3) := by decide +kernel
theorem dL_hangs_321 : decode cL_hangs 321 = .ok (.iconst 0, 1) := by decide +kernel
theorem dL_hangs_322 : decode cL_hangs 322 = .ok (.iadd, 1) := by decide +kernel
theorem dL_hangs_323 : decode cL_hangs 323 = .ok (.istore_n 1, 1) := by decide +kernel
theorem dL_hangs_324 : decode cL_hangs 324 = .ok (.iload_n 2, 1) := by decide +kernel
theorem dL_hangs_325 : decode cL_hangs 325 = .ok (.iload 7, 2) := by decide +kernel
theorem dL_hangs_327 : decode cL_hangs 327 = .ok (.ifCond .eq 12, 3) := by decide +kernel
theorem dL_hangs_330 : decode cL_hangs 330 = .ok (.iload 8, 2) := by decide +kernel
theorem dL_hangs_332 : decode cL_hangs 332 = .ok (.ifCond .lt 7, 3) := by decide +kernel
theorem dL_hangs_335 : decode cL_hangs 335 = .ok (.iconst 1, 1) := by decide +kernel
theorem dL_hangs_336 : decode cL_hangs 336 = .ok (.goto 4, 3) := by decide +kernel
theorem dL_hangs_339 : decode cL_hangs 339 = .ok (.iconst 0, 1) := by decide +kernel
theorem dL_hangs_340 : decode cL_hangs 340 = .ok (.iadd, 1) := by decide +kernel
theorem dL_hangs_341 : decode cL_hangs 341 = .ok (.istore_n 2, 1) := by decide +kernel
theorem dL_hangs_342 : decode cL_hangs 342 = .ok (.iinc 4 1, 3) := by decide +kernel
theorem dL_hangs_345 : decode cL_hangs 345 = .ok (.goto (-336), 3) := by decide +kernel
theorem dL_hangs_348 : decode cL_hangs 348 = .ok (.aload_n 0, 1) := by decide +kernel
theorem dL_hangs_349 : decode cL_hangs 349 = .ok (.iconst 1, 1) := by decide +kernel
theorem dL_hangs_350 : decode cL_hangs 350 = .ok (.invokestatic 113, 3) := by decide +kernel
theorem dL_hangs_353 : decode cL_hangs 353 = .ok (.istore 4, 2) := by decide +kernel
theorem dL_hangs_355 : decode cL_hangs 355 = .ok (.iconst 0, 1) := by decide +kernel
theorem dL_hangs_356 : decode cL_hangs 356 = .ok (.istore 5, 2) := by decide +kernel
theorem dL_hangs_358 : decode cL_hangs 358 = .ok (.iconst (-1), 1) := by decide +kernel
theorem dL_hangs_359 : decode cL_hangs 359 = .ok (.istore 6, 2) := by decide +kernel
theorem dL_hangs_361 : decode cL_hangs 361 = .ok (.iconst 0, 1) := by decide +kernel
theorem dL_hangs_362 : decode cL_hangs 362 = .ok (.istore 7, 2) := by decide +kernel
theorem dL_hangs_364 : decode cL_hangs 364 = .ok (.iconst 0, 1) := by decide +kernel
theorem dL_hangs_365 : decode cL_hangs 365 = .ok (.istore 8, 2) := by decide +kernel
theorem dL_hangs_367 : decode cL_hangs 367 = .ok (.iload 8, 2) := by decide +kernel
theorem dL_hangs_369 : decode cL_hangs 369 = .ok (.iload 4, 2) := by decide +kernel
theorem dL_hangs_371 : decode cL_hangs 371 = .ok (.if_icmp .ge 95, 3) := by decide +kernel
theorem dL_hangs_374 : decode cL_hangs 374 = .ok (.iload 8, 2) := by decide +kernel
theorem dL_hangs_376 : decode cL_hangs 376 = .ok (.bipush 64, 2) := by decide +kernel
theorem dL_hangs_378 : decode cL_hangs 378 = .ok (.if_icmp .ge 88, 3) := by decide +kernel
theorem dL_hangs_381 : decode cL_hangs 381 = .ok (.iload_n 3, 1) := by decide +kernel
theorem dL_hangs_382 : decode cL_hangs 382 = .ok (.ifCond .eq 84, 3) := by decide +kernel
theorem dL_hangs_385 : decode cL_hangs 385 = .ok (.aload_n 0, 1) := by decide +kernel
theorem dL_hangs_386 : decode cL_hangs 386 = .ok (.iload 8, 2) := by decide +kernel
theorem dL_hangs_388 : decode cL_hangs 388 = .ok (.iconst 0, 1) := by decide +kernel
theorem dL_hangs_389 : decode cL_hangs 389 = .ok (.invokestatic 115, 3) := by decide +kernel
theorem dL_hangs_392 : decode cL_hangs 392 = .ok (.iload 6, 2) := by decide +kernel
theorem dL_hangs_394 : decode cL_hangs 394 = .ok (.if_icmp .le 17, 3) := by decide +kernel
theorem dL_hangs_397 : decode cL_hangs 397 = .ok (.aload_n 0, 1) := by decide +kernel
theorem dL_hangs_398 : decode cL_hangs 398 = .ok (.iload 8, 2) := by decide +kernel
theorem dL_hangs_400 : decode cL_hangs 400 = .ok (.iconst 1, 1) := by decide +kernel
theorem dL_hangs_401 : decode cL_hangs 401 = .ok (.invokestatic 115, 3) := by decide +kernel
theorem dL_hangs_404 : decode cL_hangs 404 = .ok (.ifCond .le 7, 3) := by decide +kernel
theorem dL_hangs_407 : decode cL_hangs 407 = .ok (.iconst 1, 1) := by decide +kernel
theorem dL_hangs_408 : decode cL_hangs 408 = .ok (.goto 4, 3) := by decide +kernel
theorem dL_hangs_411 : decode cL_hangs 411 = .ok (.iconst 0, 1) := by decide +kernel
theorem dL_hangs_412 : decode cL_hangs 412 = .ok (.istore_n 3, 1) := by decide +kernel
theorem dL_hangs_413 : decode cL_hangs 413 = .ok (.aload_n 0, 1) := by decide +kernel
theorem dL_hangs_414 : decode cL_hangs 414 = .ok (.iload 8, 2) := by decide +kernel
theorem dL_hangs_416 : decode cL_hangs 416 = .ok (.iconst 0, 1) := by decide +kernel
theorem dL_hangs_417 : decode cL_hangs 417 = .ok (.invokestatic 115, 3) := by decide +kernel
theorem dL_hangs_420 : decode cL_hangs 420 = .ok (.istore 6, 2) := by decide +kernel
theorem dL_hangs_422 : decode cL_hangs 422 = .ok (.iload 5, 2) := by decide +kernel
theorem dL_hangs_424 : decode cL_hangs 424 = .ok (.aload_n 0, 1) := by decide +kernel
theorem dL_hangs_425 : decode cL_hangs 425 = .ok (.iload 8, 2) := by decide +kernel
theorem dL_hangs_427 : decode cL_hangs 427 = .ok (.iconst 1, 1) := by decide +kernel
theorem dL_hangs_428 : decode cL_hangs 428 = .ok (.invokestatic 115, 3) := by decide +kernel
theorem dL_hangs_431 : decode cL_hangs 431 = .ok (.iadd, 1) := by decide +kernel
theorem dL_hangs_432 : decode cL_hangs 432 = .ok (.istore 5, 2) := by decide +kernel
theorem dL_hangs_434 : decode cL_hangs 434 = .ok (.aload_n 0, 1) := by decide +kernel
theorem dL_hangs_435 : decode cL_hangs 435 = .ok (.iload 8, 2) := by decide +kernel
theorem dL_hangs_437 : decode cL_hangs 437 = .ok (.iconst 1, 1) := by decide +kernel
theorem dL_hangs_438 : decode cL_hangs 438 = .ok (.invokestatic 115, 3) := by decide +kernel
theorem dL_hangs_441 : decode cL_hangs 441 = .ok (.iload 7, 2) := by decide +kernel
theorem dL_hangs_443 : decode cL_hangs 443 = .ok (.if_icmp .le 13, 3) := by decide +kernel
theorem dL_hangs_446 : decode cL_hangs 446 = .ok (.aload_n 0, 1) := by decide +kernel
theorem dL_hangs_447 : decode cL_hangs 447 = .ok (.iload 8, 2) := by decide +kernel
theorem dL_hangs_449 : decode cL_hangs 449 = .ok (.iconst 1, 1) := by decide +kernel
theorem dL_hangs_450 : decode cL_hangs 450 = .ok (.invokestatic 115, 3) := by decide +kernel
theorem dL_hangs_453 : decode cL_hangs 453 = .ok (.goto 5, 3) := by decide +kernel
theorem dL_hangs_456 : decode cL_hangs 456 = .ok (.iload 7, 2) := by decide +kernel
theorem dL_hangs_458 : decode cL_hangs 458 = .ok (.istore 7, 2) := by decide +kernel
theorem dL_hangs_460 : decode cL_hangs 460 = .ok (.iinc 8 1, 3) := by decide +kernel
theorem dL_hangs_463 : decode cL_hangs 463 = .ok (.goto (-96), 3) := by decide +kernel
theorem dL_hangs_466 : decode cL_hangs 466 = .ok (.iconst 0, 1) := by decide +kernel
theorem dL_hangs_467 : decode cL_hangs 467 = .ok (.istore 8, 2) := by decide +kernel
theorem dL_hangs_469 : decode cL_hangs 469 = .ok (.iconst 0, 1) := by decide +kernel
theorem dL_hangs_470 : decode cL_hangs 470 = .ok (.istore 9, 2) := by decide +kernel
theorem dL_hangs_472 : decode cL_hangs 472 = .ok (.iconst 0, 1) := by decide +kernel
theorem dL_hangs_473 : decode cL_hangs 473 = .ok (.istore 10, 2) := by decide +kernel
theorem dL_hangs_475 : decode cL_hangs 475 = .ok (.iconst 0, 1) := by decide +kernel
theorem dL_hangs_476 : decode cL_hangs 476 = .ok (.istore 11, 2) := by decide +kernel
theorem dL_hangs_478 : decode cL_hangs 478 = .ok (.iconst 0, 1) := by decide +kernel
theorem dL_hangs_479 : decode cL_hangs 479 = .ok (.istore 12, 2) := by decide +kernel
theorem dL_hangs_481 : decode cL_hangs 481 = .ok (.iconst 0, 1) := by decide +kernel
theorem dL_hangs_482 : decode cL_hangs 482 = .ok (.istore 13, 2) := by decide +kernel
theorem dL_hangs_484 : decode cL_hangs 484 = .ok (.iload 13, 2) := by decide +kernel
theorem dL_hangs_486 : decode cL_hangs 486 = .ok (.iconst 3, 1) := by decide +kernel
theorem dL_hangs_487 : decode cL_hangs 487 = .ok (.if_icmp .ge 274, 3) := by decide +kernel
theorem dL_hangs_490 : decode cL_hangs 490 = .ok (.iload_n 3, 1) := by decide +kernel
theorem dL_hangs_491 : decode cL_hangs 491 = .ok (.ifCond .eq 270, 3) := by decide +kernel
theorem dL_hangs_494 : decode cL_hangs 494 = .ok (.aload_n 0, 1) := by decide +kernel
theorem dL_hangs_495 : decode cL_hangs 495 = .ok (.iload 13, 2) := by decide +kernel
theorem dL_hangs_497 : decode cL_hangs 497 = .ok (.iconst 0, 1) := by decide +kernel
theorem dL_hangs_498 : decode cL_hangs 498 = .ok (.invokestatic 117, 3) := by decide +kernel
theorem dL_hangs_501 : decode cL_hangs 501 = .ok (.ifCond .lt 127, 3) := by decide +kernel
theorem dL_hangs_504 : decode cL_hangs 504 = .ok (.aload_n 0, 1) := by decide +kernel
theorem dL_hangs_505 : decode cL_hangs 505 = .ok (.iload 13, 2) := by decide +kernel
theorem dL_hangs_507 : decode cL_hangs 507 = .ok (.iconst 0, 1) := by decide +kernel
theorem dL_hangs_508 : decode cL_hangs 508 = .ok (.invokestatic 117, 3) := by decide +kernel
theorem dL_hangs_511 : decode cL_hangs 511 = .ok (.bipush 9, 2) := by decide +kernel
theorem dL_hangs_513 : decode cL_hangs 513 = .ok (.if_icmp .ge 115, 3) := by decide +kernel
theorem dL_hangs_516 : decode cL_hangs 516 = .ok (.aload_n 0, 1) := by decide +kernel
theorem dL_hangs_517 : decode cL_hangs 517 = .ok (.iload 13, 2) := by decide +kernel
theorem dL_hangs_519 : decode cL_hangs 519 = .ok (.iconst 1, 1) := by decide +kernel
theorem dL_hangs_520 : decode cL_hangs 520 = .ok (.invokestatic 117, 3) := by decide +kernel
theorem dL_hangs_523 : decode cL_hangs 523 = .ok (.ifCond .lt 105, 3) := by decide +kernel
theorem dL_hangs_526 : decode cL_hangs 526 = .ok (.aload_n 0, 1) := by decide +kernel
theorem dL_hangs_527 : decode cL_hangs 527 = .ok (.iload 13, 2) := by decide +kernel
theorem dL_hangs_529 : decode cL_hangs 529 = .ok (.iconst 1, 1) := by decide +kernel
theorem dL_hangs_530 : decode cL_hangs 530 = .ok (.invokestatic 117, 3) := by decide +kernel
theorem dL_hangs_533 : decode cL_hangs 533 = .ok (.bipush 9, 2) := by decide +kernel
theorem dL_hangs_535 : decode cL_hangs 535 = .ok (.if_icmp .ge 93, 3) := by decide +kernel
theorem dL_hangs_538 : decode cL_hangs 538 = .ok (.aload_n 0, 1) := by decide +kernel
theorem dL_hangs_539 : decode cL_hangs 539 = .ok (.iload 13, 2) := by decide +kernel
theorem dL_hangs_541 : decode cL_hangs 541 = .ok (.iconst 2, 1) := by decide +kernel
theorem dL_hangs_542 : decode cL_hangs 542 = .ok (.invokestatic 117, 3) := by decide +kernel
theorem dL_hangs_545 : decode cL_hangs 545 = .ok (.ifCond .lt 83, 3) := by decide +kernel
theorem dL_hangs_548 : decode cL_hangs 548 = .ok (.aload_n 0, 1) := by decide +kernel
theorem dL_hangs_549 : decode cL_hangs 549 = .ok (.iload 13, 2) := by decide +kernel
theorem dL_hangs_551 : decode cL_hangs 551 = .ok (.iconst 3, 1) := by decide +kernel
theorem dL_hangs_552 : decode cL_hangs 552 = .ok (.invokestatic 117, 3) := by decide +kernel
theorem dL_hangs_555 : decode cL_hangs 555 = .ok (.aload_n 0, 1) := by decide +kernel
theorem dL_hangs_556 : decode cL_hangs 556 = .ok (.iload 13, 2) := by decide +kernel
theorem dL_hangs_558 : decode cL_hangs 558 = .ok (.iconst 4, 1) := by decide +kernel
theorem dL_hangs_559 : decode cL_hangs 559 = .ok (.invokestatic 117, 3) := by decide +kernel
theorem dL_hangs_562 : decode cL_hangs 562 = .ok (.if_icmp .ne 66, 3) := by decide +kernel
theorem dL_hangs_565 : decode cL_hangs 565 = .ok (.aload_n 0, 1) := by decide +kernel
theorem dL_hangs_566 : decode cL_hangs 566 = .ok (.iload 13, 2) := by decide +kernel
theorem dL_hangs_568 : decode cL_hangs 568 = .ok (.iconst 3, 1) := by decide +kernel
theorem dL_hangs_569 : decode cL_hangs 569 = .ok (.invokestatic 117, 3) := by decide +kernel
theorem dL_hangs_572 : decode cL_hangs 572 = .ok (.aload_n 0, 1) := by decide +kernel
theorem dL_hangs_573 : decode cL_hangs 573 = .ok (.iload 13, 2) := by decide +kernel
theorem dL_hangs_575 : decode cL_hangs 575 = .ok (.iconst 5, 1) := by decide +kernel
theorem dL_hangs_576 : decode cL_hangs 576 = .ok (.invokestatic 117, 3) := by decide +kernel
theorem dL_hangs_579 : decode cL_hangs 579 = .ok (.if_icmp .lt 49, 3) := by decide +kernel
theorem dL_hangs_582 : decode cL_hangs 582 = .ok (.aload_n 0, 1) := by decide +kernel
theorem dL_hangs_583 : decode cL_hangs 583 = .ok (.iload 13, 2) := by decide +kernel
theorem dL_hangs_585 : decode cL_hangs 585 = .ok (.iconst 0, 1) := by decide +kernel
theorem dL_hangs_586 : decode cL_hangs 586 = .ok (.invokestatic 117, 3) := by decide +kernel
theorem dL_hangs_589 : decode cL_hangs 589 = .ok (.aload_n 0, 1) := by decide +kernel
theorem dL_hangs_590 : decode cL_hangs 590 = .ok (.iload 13, 2) := by decide +kernel
theorem dL_hangs_592 : decode cL_hangs 592 = .ok (.iconst 1, 1) := by decide +kernel
theorem dL_hangs_593 : decode cL_hangs 593 = .ok (.iadd, 1) := by decide +kernel
theorem dL_hangs_594 : decode cL_hangs 594 = .ok (.iconst 3, 1) := by decide +kernel
theorem dL_hangs_595 : decode cL_hangs 595 = .ok (.irem, 1) := by decide +kernel
theorem dL_hangs_596 : decode cL_hangs 596 = .ok (.iconst 0, 1) := by decide +kernel
theorem dL_hangs_597 : decode cL_hangs 597 = .ok (.invokestatic 117, 3) := by decide +kernel
theorem dL_hangs_600 : decode cL_hangs 600 = .ok (.if_icmp .ne 24, 3) := by decide +kernel
theorem dL_hangs_603 : decode cL_hangs 603 = .ok (.aload_n 0, 1) := by decide +kernel
theorem dL_hangs_604 : decode cL_hangs 604 = .ok (.iload 13, 2) := by decide +kernel
theorem dL_hangs_606 : decode cL_hangs 606 = .ok (.iconst 1, 1) := by decide +kernel
theorem dL_hangs_607 : decode cL_hangs 607 = .ok (.invokestatic 117, 3) := by decide +kernel
theorem dL_hangs_610 : decode cL_hangs 610 = .ok (.aload_n 0, 1) := by decide +kernel
theorem dL_hangs_611 : decode cL_hangs 611 = .ok (.iload 13, 2) := by decide +kernel
theorem dL_hangs_613 : decode cL_hangs 613 = .ok (.iconst 1, 1) := by decide +kernel
theorem dL_hangs_614 : decode cL_hangs 614 = .ok (.iadd, 1) := by decide +kernel
theorem dL_hangs_615 : decode cL_hangs 615 = .ok (.iconst 3, 1) := by decide +kernel
theorem dL_hangs_616 : decode cL_hangs 616 = .ok (.irem, 1) := by decide +kernel
theorem dL_hangs_617 : decode cL_hangs 617 = .ok (.iconst 1, 1) := by decide +kernel
theorem dL_hangs_618 : decode cL_hangs 618 = .ok (.invokestatic 117, 3) := by decide +kernel
theorem dL_hangs_621 : decode cL_hangs 621 = .ok (.if_icmp .eq 7, 3) := by decide +kernel
theorem dL_hangs_624 : decode cL_hangs 624 = .ok (.iconst 1, 1) := by decide +kernel
theorem dL_hangs_625 : decode cL_hangs 625 = .ok (.goto 4, 3) := by decide +kernel
theorem dL_hangs_628 : decode cL_hangs 628 = .ok (.iconst 0, 1) := by decide +kernel
theorem dL_hangs_629 : decode cL_hangs 629 = .ok (.istore_n 3, 1) := by decide +kernel
theorem dL_hangs_630 : decode cL_hangs 630 = .ok (.iload 8, 2) := by decide +kernel
theorem dL_hangs_632 : decode cL_hangs 632 = .ok (.aload_n 0, 1) := by decide +kernel
theorem dL_hangs_633 : decode cL_hangs 633 = .ok (.iload 13, 2) := by decide +kernel
theorem dL_hangs_635 : decode cL_hangs 635 = .ok (.iconst 3, 1) := by decide +kernel
theorem dL_hangs_636 : decode cL_hangs 636 = .ok (.invokestatic 117, 3) := by decide +kernel
theorem dL_hangs_639 : decode cL_hangs 639 = .ok (.iadd, 1) := by decide +kernel
theorem dL_hangs_640 : decode cL_hangs 640 = .ok (.istore 8, 2) := by decide +kernel
theorem dL_hangs_642 : decode cL_hangs 642 = .ok (.iload 9, 2) := by decide +kernel
theorem dL_hangs_644 : decode cL_hangs 644 = .ok (.aload_n 0, 1) := by decide +kernel
theorem dL_hangs_645 : decode cL_hangs 645 = .ok (.iload 13, 2) := by decide +kernel
theorem dL_hangs_647 : decode cL_hangs 647 = .ok (.iconst 5, 1) := by decide +kernel
theorem dL_hangs_648 : decode cL_hangs 648 = .ok (.invokestatic 117, 3) := by decide +kernel
theorem dL_hangs_651 : decode cL_hangs 651 = .ok (.iadd, 1) := by decide +kernel
theorem dL_hangs_652 : decode cL_hangs 652 = .ok (.istore 9, 2) := by decide +kernel
theorem dL_hangs_654 : decode cL_hangs 654 = .ok (.iload 10, 2) := by decide +kernel
theorem dL_hangs_656 : decode cL_hangs 656 = .ok (.aload_n 0, 1) := by decide +kernel
theorem dL_hangs_657 : decode cL_hangs 657 = .ok (.iload 13, 2) := by decide +kernel
theorem dL_hangs_659 : decode cL_hangs 659 = .ok (.iconst 2, 1) := by decide +kernel
theorem dL_hangs_660 : decode cL_hangs 660 = .ok (.invokestatic 117, 3) := by decide +kernel
theorem dL_hangs_663 : decode cL_hangs 663 = .ok (.iadd, 1) := by decide +kernel
theorem dL_hangs_664 : decode cL_hangs 664 = .ok (.istore 10, 2) := by decide +kernel
theorem dL_hangs_666 : decode cL_hangs 666 = .ok (.iload 11, 2) := by decide +kernel
theorem dL_hangs_668 : decode cL_hangs 668 = .ok (.aload_n 0, 1) := by decide +kernel
theorem dL_hangs_669 : decode cL_hangs 669 = .ok (.iload 13, 2) := by decide +kernel
theorem dL_hangs_671 : decode cL_hangs 671 = .ok (.bipush 7, 2) := by decide +kernel
theorem dL_hangs_673 : decode cL_hangs 673 = .ok (.invokestatic 117, 3) := by decide +kernel
theorem dL_hangs_676 : decode cL_hangs 676 = .ok (.iadd, 1) := by decide +kernel
theorem dL_hangs_677 : decode cL_hangs 677 = .ok (.istore 11, 2) := by decide +kernel
theorem dL_hangs_679 : decode cL_hangs 679 = .ok (.iload 12, 2) := by decide +kernel
theorem dL_hangs_681 : decode cL_hangs 681 = .ok (.aload_n 0, 1) := by decide +kernel
theorem dL_hangs_682 : decode cL_hangs 682 = .ok (.iload 13, 2) := by decide +kernel
theorem dL_hangs_684 : decode cL_hangs 684 = .ok (.bipush 8, 2) := by decide +kernel
theorem dL_hangs_686 : decode cL_hangs 686 = .ok (.invokestatic 117, 3) := by decide +kernel
theorem dL_hangs_689 : decode cL_hangs 689 = .ok (.iadd, 1) := by decide +kernel
theorem dL_hangs_690 : decode cL_hangs 690 = .ok (.istore 12, 2) := by decide +kernel
theorem dL_hangs_692 : decode cL_hangs 692 = .ok (.iconst 0, 1) := by decide +kernel
theorem dL_hangs_693 : decode cL_hangs 693 = .ok (.istore 14, 2) := by decide +kernel
theorem dL_hangs_695 : decode cL_hangs 695 = .ok (.iload 14, 2) := by decide +kernel
theorem dL_hangs_697 : decode cL_hangs 697 = .ok (.iconst 4, 1) := by decide +kernel
theorem dL_hangs_698 : decode cL_hangs 698 = .ok (.if_icmp .ge 57, 3) := by decide +kernel
theorem dL_hangs_701 : decode cL_hangs 701 = .ok (.iload_n 3, 1) := by decide +kernel
theorem dL_hangs_702 : decode cL_hangs 702 = .ok (.ifCond .eq 53, 3) := by decide +kernel
theorem dL_hangs_705 : decode cL_hangs 705 = .ok (.aload_n 0, 1) := by decide +kernel
theorem dL_hangs_706 : decode cL_hangs 706 = .ok (.iload 13, 2) := by decide +kernel
theorem dL_hangs_708 : decode cL_hangs 708 = .ok (.iload 14, 2) := by decide +kernel
theorem dL_hangs_710 : decode cL_hangs 710 = .ok (.invokestatic 119, 3) := by decide +kernel
theorem dL_hangs_713 : decode cL_hangs 713 = .ok (.ifCond .ne 7, 3) := by decide +kernel
theorem dL_hangs_716 : decode cL_hangs 716 = .ok (.iconst 1, 1) := by decide +kernel
theorem dL_hangs_717 : decode cL_hangs 717 = .ok (.goto 4, 3) := by decide +kernel
theorem dL_hangs_720 : decode cL_hangs 720 = .ok (.iconst 0, 1) := by decide +kernel
theorem dL_hangs_721 : decode cL_hangs 721 = .ok (.aload_n 0, 1) := by decide +kernel
theorem dL_hangs_722 : decode cL_hangs 722 = .ok (.iload 13, 2) := by decide +kernel
theorem dL_hangs_724 : decode cL_hangs 724 = .ok (.iload 14, 2) := by decide +kernel
theorem dL_hangs_726 : decode cL_hangs 726 = .ok (.iconst 1, 1) := by decide +kernel
theorem dL_hangs_727 : decode cL_hangs 727 = .ok (.iconst 0, 1) := by decide +kernel
theorem dL_hangs_728 : decode cL_hangs 728 = .ok (.invokestatic 121, 3) := by decide +kernel
theorem dL_hangs_731 : decode cL_hangs 731 = .ok (.iconst 1, 1) := by decide +kernel
theorem dL_hangs_732 : decode cL_hangs 732 = .ok (.if_icmp .ne 7, 3) := by decide +kernel
theorem dL_hangs_735 : decode cL_hangs 735 = .ok (.iconst 1, 1) := by decide +kernel
theorem dL_hangs_736 : decode cL_hangs 736 = .ok (.goto 4, 3) := by decide +kernel
theorem dL_hangs_739 : decode cL_hangs 739 = .ok (.iconst 0, 1) := by decide +kernel
theorem dL_hangs_740 : decode cL_hangs 740 = .ok (.if_icmp .ne 7, 3) := by decide +kernel
theorem dL_hangs_743 : decode cL_hangs 743 = .ok (.iconst 1, 1) := by decide +kernel
theorem dL_hangs_744 : decode cL_hangs 744 = .ok (.goto 4, 3) := by decide +kernel
theorem dL_hangs_747 : decode cL_hangs 747 = .ok (.iconst 0, 1) := by decide +kernel
theorem dL_hangs_748 : decode cL_hangs 748 = .ok (.istore_n 3, 1) := by decide +kernel
theorem dL_hangs_749 : decode cL_hangs 749 = .ok (.iinc 14 1, 3) := by decide +kernel
theorem dL_hangs_752 : decode cL_hangs 752 = .ok (.goto (-57), 3) := by decide +kernel
theorem dL_hangs_755 : decode cL_hangs 755 = .ok (.iinc 13 1, 3) := by decide +kernel
theorem dL_hangs_758 : decode cL_hangs 758 = .ok (.goto (-274), 3) := by decide +kernel
theorem dL_hangs_761 : decode cL_hangs 761 = .ok (.iload_n 3, 1) := by decide +kernel
theorem dL_hangs_762 : decode cL_hangs 762 = .ok (.ifCond .eq 197, 3) := by decide +kernel
theorem dL_hangs_765 : decode cL_hangs 765 = .ok (.iload 5, 2) := by decide +kernel
theorem dL_hangs_767 : decode cL_hangs 767 = .ok (.iload_n 1, 1) := by decide +kernel
theorem dL_hangs_768 : decode cL_hangs 768 = .ok (.if_icmp .ne 191, 3) := by decide +kernel
theorem dL_hangs_771 : decode cL_hangs 771 = .ok (.iload 4, 2) := by decide +kernel
theorem dL_hangs_773 : decode cL_hangs 773 = .ok (.aload_n 0, 1) := by decide +kernel
theorem dL_hangs_774 : decode cL_hangs 774 = .ok (.iconst 2, 1) := by decide +kernel
theorem dL_hangs_775 : decode cL_hangs 775 = .ok (.invokestatic 113, 3) := by decide +kernel
theorem dL_hangs_778 : decode cL_hangs 778 = .ok (.if_icmp .ne 181, 3) := by decide +kernel
theorem dL_hangs_781 : decode cL_hangs 781 = .ok (.iload 8, 2) := by decide +kernel
theorem dL_hangs_783 : decode cL_hangs 783 = .ok (.iload_n 2, 1) := by decide +kernel
theorem dL_hangs_784 : decode cL_hangs 784 = .ok (.if_icmp .ne 175, 3) := by decide +kernel
theorem dL_hangs_787 : decode cL_hangs 787 = .ok (.iload 9, 2) := by decide +kernel
theorem dL_hangs_789 : decode cL_hangs 789 = .ok (.aload_n 0, 1) := by decide +kernel
theorem dL_hangs_790 : decode cL_hangs 790 = .ok (.iconst 3, 1) := by decide +kernel
theorem dL_hangs_791 : decode cL_hangs 791 = .ok (.invokestatic 113, 3) := by decide +kernel
theorem dL_hangs_794 : decode cL_hangs 794 = .ok (.if_icmp .ne 165, 3) := by decide +kernel
theorem dL_hangs_797 : decode cL_hangs 797 = .ok (.iload 10, 2) := by decide +kernel
theorem dL_hangs_799 : decode cL_hangs 799 = .ok (.aload_n 0, 1) := by decide +kernel
theorem dL_hangs_800 : decode cL_hangs 800 = .ok (.bipush 8, 2) := by decide +kernel
theorem dL_hangs_802 : decode cL_hangs 802 = .ok (.invokestatic 113, 3) := by decide +kernel
theorem dL_hangs_805 : decode cL_hangs 805 = .ok (.if_icmp .ne 154, 3) := by decide +kernel
theorem dL_hangs_808 : decode cL_hangs 808 = .ok (.iload 10, 2) := by decide +kernel
theorem dL_hangs_810 : decode cL_hangs 810 = .ok (.aload_n 0, 1) := by decide +kernel
theorem dL_hangs_811 : decode cL_hangs 811 = .ok (.bipush 9, 2) := by decide +kernel
theorem dL_hangs_813 : decode cL_hangs 813 = .ok (.invokestatic 113, 3) := by decide +kernel
theorem dL_hangs_816 : decode cL_hangs 816 = .ok (.if_icmp .ne 143, 3) := by decide +kernel
theorem dL_hangs_819 : decode cL_hangs 819 = .ok (.iload 11, 2) := by decide +kernel
theorem dL_hangs_821 : decode cL_hangs 821 = .ok (.iload 12, 2) := by decide +kernel
theorem dL_hangs_823 : decode cL_hangs 823 = .ok (.if_icmp .ne 136, 3) := by decide +kernel
theorem dL_hangs_826 : decode cL_hangs 826 = .ok (.iload_n 1, 1) := by decide +kernel
theorem dL_hangs_827 : decode cL_hangs 827 = .ok (.aload_n 0, 1) := by decide +kernel
theorem dL_hangs_828 : decode cL_hangs 828 = .ok (.iconst 0, 1) := by decide +kernel
theorem dL_hangs_829 : decode cL_hangs 829 = .ok (.invokestatic 113, 3) := by decide +kernel
theorem dL_hangs_832 : decode cL_hangs 832 = .ok (.if_icmp .ne 127, 3) := by decide +kernel
theorem dL_hangs_835 : decode cL_hangs 835 = .ok (.aload_n 0, 1) := by decide +kernel
theorem dL_hangs_836 : decode cL_hangs 836 = .ok (.bipush 7, 2) := by decide +kernel
theorem dL_hangs_838 : decode cL_hangs 838 = .ok (.invokestatic 113, 3) := by decide +kernel
theorem dL_hangs_841 : decode cL_hangs 841 = .ok (.bipush 64, 2) := by decide +kernel
theorem dL_hangs_843 : decode cL_hangs 843 = .ok (.iload_n 1, 1) := by decide +kernel
theorem dL_hangs_844 : decode cL_hangs 844 = .ok (.isub, 1) := by decide +kernel
theorem dL_hangs_845 : decode cL_hangs 845 = .ok (.if_icmp .ne 114, 3) := by decide +kernel
theorem dL_hangs_848 : decode cL_hangs 848 = .ok (.iload 7, 2) := by decide +kernel
theorem dL_hangs_850 : decode cL_hangs 850 = .ok (.aload_n 0, 1) := by decide +kernel
theorem dL_hangs_851 : decode cL_hangs 851 = .ok (.bipush 10, 2) := by decide +kernel
theorem dL_hangs_853 : decode cL_hangs 853 = .ok (.invokestatic 113, 3) := by decide +kernel
theorem dL_hangs_856 : decode cL_hangs 856 = .ok (.if_icmp .ne 103, 3) := by decide +kernel
theorem dL_hangs_859 : decode cL_hangs 859 = .ok (.aload_n 0, 1) := by decide +kernel
theorem dL_hangs_860 : decode cL_hangs 860 = .ok (.iload 4, 2) := by decide +kernel
theorem dL_hangs_862 : decode cL_hangs 862 = .ok (.iconst 0, 1) := by decide +kernel
theorem dL_hangs_863 : decode cL_hangs 863 = .ok (.invokestatic 115, 3) := by decide +kernel
theorem dL_hangs_866 : decode cL_hangs 866 = .ok (.iconst (-1), 1) := by decide +kernel
theorem dL_hangs_867 : decode cL_hangs 867 = .ok (.if_icmp .ne 92, 3) := by decide +kernel
theorem dL_hangs_870 : decode cL_hangs 870 = .ok (.aload_n 0, 1) := by decide +kernel
theorem dL_hangs_871 : decode cL_hangs 871 = .ok (.iconst 4, 1) := by decide +kernel
theorem dL_hangs_872 : decode cL_hangs 872 = .ok (.invokestatic 113, 3) := by decide +kernel
theorem dL_hangs_875 : decode cL_hangs 875 = .ok (.ifCond .lt 84, 3) := by decide +kernel
theorem dL_hangs_878 : decode cL_hangs 878 = .ok (.aload_n 0, 1) := by decide +kernel
theorem dL_hangs_879 : decode cL_hangs 879 = .ok (.iconst 4, 1) := by decide +kernel
theorem dL_hangs_880 : decode cL_hangs 880 = .ok (.invokestatic 113, 3) := by decide +kernel
theorem dL_hangs_883 : decode cL_hangs 883 = .ok (.bipush 112, 2) := by decide +kernel
theorem dL_hangs_885 : decode cL_hangs 885 = .ok (.if_icmp .gt 74, 3) := by decide +kernel
theorem dL_hangs_888 : decode cL_hangs 888 = .ok (.aload_n 0, 1) := by decide +kernel
theorem dL_hangs_889 : decode cL_hangs 889 = .ok (.iconst 5, 1) := by decide +kernel
theorem dL_hangs_890 : decode cL_hangs 890 = .ok (.invokestatic 113, 3) := by decide +kernel
theorem dL_hangs_893 : decode cL_hangs 893 = .ok (.ifCond .lt 66, 3) := by decide +kernel
theorem dL_hangs_896 : decode cL_hangs 896 = .ok (.aload_n 0, 1) := by decide +kernel
theorem dL_hangs_897 : decode cL_hangs 897 = .ok (.invokevirtual 123, 3) := by decide +kernel
theorem dL_hangs_900 : decode cL_hangs 900 = .ok (.ifCond .lt 59, 3) := by decide +kernel
theorem dL_hangs_903 : decode cL_hangs 903 = .ok (.aload_n 0, 1) := by decide +kernel
theorem dL_hangs_904 : decode cL_hangs 904 = .ok (.invokevirtual 123, 3) := by decide +kernel
theorem dL_hangs_907 : decode cL_hangs 907 = .ok (.bipush 64, 2) := by decide +kernel
theorem dL_hangs_909 : decode cL_hangs 909 = .ok (.if_icmp .ge 50, 3) := by decide +kernel
theorem dL_hangs_912 : decode cL_hangs 912 = .ok (.aload_n 0, 1) := by decide +kernel
theorem dL_hangs_913 : decode cL_hangs 913 = .ok (.invokevirtual 126, 3) := by decide +kernel
theorem dL_hangs_916 : decode cL_hangs 916 = .ok (.iload_n 1, 1) := by decide +kernel
theorem dL_hangs_917 : decode cL_hangs 917 = .ok (.ifCond .ne 7, 3) := by decide +kernel
theorem dL_hangs_920 : decode cL_hangs 920 = .ok (.dconst 0, 1) := by decide +kernel
theorem dL_hangs_921 : decode cL_hangs 921 = .ok (.goto 8, 3) := by decide +kernel
theorem dL_hangs_924 : decode cL_hangs 924 = .ok (.iload_n 2, 1) := by decide +kernel
theorem dL_hangs_925 : decode cL_hangs 925 = .ok (.i2d, 1) := by decide +kernel
theorem dL_hangs_926 : decode cL_hangs 926 = .ok (.iload_n 1, 1) := by decide +kernel
theorem dL_hangs_927 : decode cL_hangs 927 = .ok (.i2d, 1) := by decide +kernel
theorem dL_hangs_928 : decode cL_hangs 928 = .ok (.ddiv, 1) := by decide +kernel
theorem dL_hangs_929 : decode cL_hangs 929 = .ok (.dcmp .l, 1) := by decide +kernel
theorem dL_hangs_930 : decode cL_hangs 930 = .ok (.ifCond .ne 29, 3) := by decide +kernel
theorem dL_hangs_933 : decode cL_hangs 933 = .ok (.aload_n 0, 1) := by decide +kernel
theorem dL_hangs_934 : decode cL_hangs 934 = .ok (.invokevirtual 130, 3) := by decide +kernel
theorem dL_hangs_937 : decode cL_hangs 937 = .ok (.iload_n 1, 1) := by decide +kernel
theorem dL_hangs_938 : decode cL_hangs 938 = .ok (.ifCond .ne 7, 3) := by decide +kernel
theorem dL_hangs_941 : decode cL_hangs 941 = .ok (.fconst 0, 1) := by decide +kernel
theorem dL_hangs_942 : decode cL_hangs 942 = .ok (.goto 9, 3) := by decide +kernel
theorem dL_hangs_945 : decode cL_hangs 945 = .ok (.iload_n 1, 1) := by decide +kernel
theorem dL_hangs_946 : decode cL_hangs 946 = .ok (.i2f, 1) := by decide +kernel
theorem dL_hangs_947 : decode cL_hangs 947 = .ok (.iload 4, 2) := by decide +kernel
theorem dL_hangs_949 : decode cL_hangs 949 = .ok (.i2f, 1) := by decide +kernel
theorem dL_hangs_950 : decode cL_hangs 950 = .ok (.fdiv, 1) := by decide +kernel
theorem dL_hangs_951 : decode cL_hangs 951 = .ok (.fcmp .l, 1) := by decide +kernel
theorem dL_hangs_952 : decode cL_hangs 952 = .ok (.ifCond .ne 7, 3) := by decide +kernel
theorem dL_hangs_955 : decode cL_hangs 955 = .ok (.iconst 1, 1) := by decide +kernel
theorem dL_hangs_956 : decode cL_hangs 956 = .ok (.goto 4, 3) := by decide +kernel
theorem dL_hangs_959 : decode cL_hangs 959 = .ok (.iconst 0, 1) := by decide +kernel
theorem dL_hangs_960 : decode cL_hangs 960 = .ok (.ireturn, 1) := by decide +kernel
theorem dL_refuses_0 : decode cL_refuses 0 = .ok (.iload_n 1, 1) := by decide +kernel
theorem dL_refuses_1 : decode cL_refuses 1 = .ok (.iconst 2, 1) := by decide +kernel
theorem dL_refuses_2 : decode cL_refuses 2 = .ok (.irem, 1) := by decide +kernel
theorem dL_refuses_3 : decode cL_refuses 3 = .ok (.ifCond .ne 9, 3) := by decide +kernel
theorem dL_refuses_6 : decode cL_refuses 6 = .ok (.iconst 3, 1) := by decide +kernel
theorem dL_refuses_7 : decode cL_refuses 7 = .ok (.iload_n 1, 1) := by decide +kernel
theorem dL_refuses_8 : decode cL_refuses 8 = .ok (.iadd, 1) := by decide +kernel
theorem dL_refuses_9 : decode cL_refuses 9 = .ok (.goto 6, 3) := by decide +kernel
theorem dL_refuses_12 : decode cL_refuses 12 = .ok (.iconst (-1), 1) := by decide +kernel
theorem dL_refuses_13 : decode cL_refuses 13 = .ok (.iload_n 1, 1) := by decide +kernel
theorem dL_refuses_14 : decode cL_refuses 14 = .ok (.isub, 1) := by decide +kernel
theorem dL_refuses_15 : decode cL_refuses 15 = .ok (.istore_n 2, 1) := by decide +kernel
theorem dL_refuses_16 : decode cL_refuses 16 = .ok (.iload_n 1, 1) := by decide +kernel
theorem dL_refuses_17 : decode cL_refuses 17 = .ok (.iconst 2, 1) := by decide +kernel
theorem dL_refuses_18 : decode cL_refuses 18 = .ok (.irem, 1) := by decide +kernel
theorem dL_refuses_19 : decode cL_refuses 19 = .ok (.ifCond .ne 10, 3) := by decide +kernel
theorem dL_refuses_22 : decode cL_refuses 22 = .ok (.bipush 8, 2) := by decide +kernel
theorem dL_refuses_24 : decode cL_refuses 24 = .ok (.iload_n 1, 1) := by decide +kernel
theorem dL_refuses_25 : decode cL_refuses 25 = .ok (.iadd, 1) := by decide +kernel
theorem dL_refuses_26 : decode cL_refuses 26 = .ok (.goto 6, 3) := by decide +kernel
theorem dL_refuses_29 : decode cL_refuses 29 = .ok (.iconst (-1), 1) := by decide +kernel
theorem dL_refuses_30 : decode cL_refuses 30 = .ok (.iload_n 1, 1) := by decide +kernel
theorem dL_refuses_31 : decode cL_refuses 31 = .ok (.isub, 1) := by decide +kernel
theorem dL_refuses_32 : decode cL_refuses 32 = .ok (.istore_n 3, 1) := by decide +kernel
theorem dL_refuses_33 : decode cL_refuses 33 = .ok (.aload_n 0, 1) := by decide +kernel
theorem dL_refuses_34 : decode cL_refuses 34 = .ok (.iload_n 2, 1) := by decide +kernel
theorem dL_refuses_35 : decode cL_refuses 35 = .ok (.iconst 0, 1) := by decide +kernel
theorem dL_refuses_36 : decode cL_refuses 36 = .ok (.iconst 0, 1) := by decide +kernel
theorem dL_refuses_37 : decode cL_refuses 37 = .ok (.invokestatic 104, 3) := by decide +kernel
theorem dL_refuses_40 : decode cL_refuses 40 = .ok (.bipush (-3), 2) := by decide +kernel
theorem dL_refuses_42 : decode cL_refuses 42 = .ok (.if_icmp .ne 396, 3) := by decide +kernel
theorem dL_refuses_45 : decode cL_refuses 45 = .ok (.aload_n 0, 1) := by decide +kernel
theorem dL_refuses_46 : decode cL_refuses 46 = .ok (.iconst 0, 1) := by decide +kernel
theorem dL_refuses_47 : decode cL_refuses 47 = .ok (.iconst 4, 1) := by decide +kernel
theorem dL_refuses_48 : decode cL_refuses 48 = .ok (.iload_n 1, 1) := by decide +kernel
theorem dL_refuses_49 : decode cL_refuses 49 = .ok (.iadd, 1) := by decide +kernel
theorem dL_refuses_50 : decode cL_refuses 50 = .ok (.iconst 1, 1) := by decide +kernel
theorem dL_refuses_51 : decode cL_refuses 51 = .ok (.invokestatic 104, 3) := by decide +kernel
theorem dL_refuses_54 : decode cL_refuses 54 = .ok (.bipush (-2), 2) := by decide +kernel
theorem dL_refuses_56 : decode cL_refuses 56 = .ok (.if_icmp .ne 382, 3) := by decide +kernel
theorem dL_refuses_59 : decode cL_refuses 59 = .ok (.aload_n 0, 1) := by decide +kernel
theorem dL_refuses_60 : decode cL_refuses 60 = .ok (.iconst 0, 1) := by decide +kernel
theorem dL_refuses_61 : decode cL_refuses 61 = .ok (.iconst 0, 1) := by decide +kernel
theorem dL_refuses_62 : decode cL_refuses 62 = .ok (.bipush 9, 2) := by decide +kernel
theorem dL_refuses_64 : decode cL_refuses 64 = .ok (.iload_n 1, 1) := by decide +kernel
theorem dL_refuses_65 : decode cL_refuses 65 = .ok (.iadd, 1) := by decide +kernel
theorem dL_refuses_66 : decode cL_refuses 66 = .ok (.invokestatic 104, 3) := by decide +kernel
theorem dL_refuses_69 : decode cL_refuses 69 = .ok (.bipush (-2), 2) := by decide +kernel
theorem dL_refuses_71 : decode cL_refuses 71 = .ok (.if_icmp .ne 367, 3) := by decide +kernel
theorem dL_refuses_74 : decode cL_refuses 74 = .ok (.aload_n 0, 1) := by decide +kernel
theorem dL_refuses_75 : decode cL_refuses 75 = .ok (.iload_n 3, 1) := by decide +kernel
theorem dL_refuses_76 : decode cL_refuses 76 = .ok (.iconst 0, 1) := by decide +kernel
theorem dL_refuses_77 : decode cL_refuses 77 = .ok (.invokestatic 76, 3) := by decide +kernel
theorem dL_refuses_80 : decode cL_refuses 80 = .ok (.bipush (-3), 2) := by decide +kernel
theorem dL_refuses_82 : decode cL_refuses 82 = .ok (.if_icmp .ne 356, 3) := by decide +kernel
theorem dL_refuses_85 : decode cL_refuses 85 = .ok (.aload_n 0, 1) := by decide +kernel
theorem dL_refuses_86 : decode cL_refuses 86 = .ok (.iconst 0, 1) := by decide +kernel
theorem dL_refuses_87 : decode cL_refuses 87 = .ok (.iload_n 3, 1) := by decide +kernel
theorem dL_refuses_88 : decode cL_refuses 88 = .ok (.invokestatic 76, 3) := by decide +kernel
theorem dL_refuses_91 : decode cL_refuses 91 = .ok (.bipush (-3), 2) := by decide +kernel
theorem dL_refuses_93 : decode cL_refuses 93 = .ok (.if_icmp .ne 345, 3) := by decide +kernel
theorem dL_refuses_96 : decode cL_refuses 96 = .ok (.aload_n 0, 1) := by decide +kernel
theorem dL_refuses_97 : decode cL_refuses 97 = .ok (.iload_n 2, 1) := by decide +kernel
theorem dL_refuses_98 : decode cL_refuses 98 = .ok (.iconst 0, 1) := by decide +kernel
theorem dL_refuses_99 : decode cL_refuses 99 = .ok (.invokestatic 81, 3) := by decide +kernel
theorem dL_refuses_102 : decode cL_refuses 102 = .ok (.bipush (-3), 2) := by decide +kernel
theorem dL_refuses_104 : decode cL_refuses 104 = .ok (.if_icmp .ne 334, 3) := by decide +kernel
theorem dL_refuses_107 : decode cL_refuses 107 = .ok (.aload_n 0, 1) := by decide +kernel
theorem dL_refuses_108 : decode cL_refuses 108 = .ok (.iconst 0, 1) := by decide +kernel
theorem dL_refuses_109 : decode cL_refuses 109 = .ok (.bipush 100, 2) := by decide +kernel
theorem dL_refuses_111 : decode cL_refuses 111 = .ok (.iload_n 1, 1) := by decide +kernel
theorem dL_refuses_112 : decode cL_refuses 112 = .ok (.iadd, 1) := by decide +kernel
theorem dL_refuses_113 : decode cL_refuses 113 = .ok (.invokestatic 81, 3) := by decide +kernel
theorem dL_refuses_116 : decode cL_refuses 116 = .ok (.bipush (-2), 2) := by decide +kernel
theorem dL_refuses_118 : decode cL_refuses 118 = .ok (.if_icmp .ne 320, 3) := by decide +kernel
theorem dL_refuses_121 : decode cL_refuses 121 = .ok (.aload_n 0, 1) := by decide +kernel
theorem dL_refuses_122 : decode cL_refuses 122 = .ok (.iload_n 2, 1) := by decide +kernel
theorem dL_refuses_123 : decode cL_refuses 123 = .ok (.iconst 0, 1) := by decide +kernel
theorem dL_refuses_124 : decode cL_refuses 124 = .ok (.invokestatic 83, 3) := by decide +kernel
theorem dL_refuses_127 : decode cL_refuses 127 = .ok (.bipush (-3), 2) := by decide +kernel
theorem dL_refuses_129 : decode cL_refuses 129 = .ok (.if_icmp .ne 309, 3) := by decide +kernel
theorem dL_refuses_132 : decode cL_refuses 132 = .ok (.aload_n 0, 1) := by decide +kernel
theorem dL_refuses_133 : decode cL_refuses 133 = .ok (.iconst 0, 1) := by decide +kernel
theorem dL_refuses_134 : decode cL_refuses 134 = .ok (.bipush 10, 2) := by decide +kernel
theorem dL_refuses_136 : decode cL_refuses 136 = .ok (.iload_n 1, 1) := by decide +kernel
theorem dL_refuses_137 : decode cL_refuses 137 = .ok (.iadd, 1) := by decide +kernel
theorem dL_refuses_138 : decode cL_refuses 138 = .ok (.invokestatic 83, 3) := by decide +kernel
theorem dL_refuses_141 : decode cL_refuses 141 = .ok (.bipush (-2), 2) := by decide +kernel
theorem dL_refuses_143 : decode cL_refuses 143 = .ok (.if_icmp .ne 295, 3) := by decide +kernel
theorem dL_refuses_146 : decode cL_refuses 146 = .ok (.aload_n 0, 1) := by decide +kernel
theorem dL_refuses_147 : decode cL_refuses 147 = .ok (.iconst 1, 1) := by decide +kernel
theorem dL_refuses_148 : decode cL_refuses 148 = .ok (.iconst 0, 1) := by decide +kernel
theorem dL_refuses_149 : decode cL_refuses 149 = .ok (.invokestatic 83, 3) := by decide +kernel
theorem dL_refuses_152 : decode cL_refuses 152 = .ok (.bipush (-2), 2) := by decide +kernel
theorem dL_refuses_154 : decode cL_refuses 154 = .ok (.if_icmp .ne 284, 3) := by decide +kernel
theorem dL_refuses_157 : decode cL_refuses 157 = .ok (.aload_n 0, 1) := by decide +kernel
theorem dL_refuses_158 : decode cL_refuses 158 = .ok (.iconst 2, 1) := by decide +kernel
theorem dL_refuses_159 : decode cL_refuses 159 = .ok (.iconst 5, 1) := by decide +kernel
theorem dL_refuses_160 : decode cL_refuses 160 = .ok (.iload_n 1, 1) := by decide +kernel
theorem dL_refuses_161 : decode cL_refuses 161 = .ok (.iadd, 1) := by decide +kernel
theorem dL_refuses_162 : decode cL_refuses 162 = .ok (.invokestatic 83, 3) := by decide +kernel
theorem dL_refuses_165 : decode cL_refuses 165 = .ok (.bipush (-2), 2) := by decide +kernel
theorem dL_refuses_167 : decode cL_refuses 167 = .ok (.if_icmp .ne 271, 3) := by decide +kernel
theorem dL_refuses_170 : decode cL_refuses 170 = .ok (.aload_n 0, 1) := by decide +kernel
theorem dL_refuses_171 : decode cL_refuses 171 = .ok (.iload_n 3, 1) := by decide +kernel
theorem dL_refuses_172 : decode cL_refuses 172 = .ok (.iconst 0, 1) := by decide +kernel
theorem dL_refuses_173 : decode cL_refuses 173 = .ok (.iconst 0, 1) := by decide +kernel
theorem dL_refuses_174 : decode cL_refuses 174 = .ok (.invokestatic 107, 3) := by decide +kernel
theorem dL_refuses_177 : decode cL_refuses 177 = .ok (.bipush (-3), 2) := by decide +kernel
theorem dL_refuses_179 : decode cL_refuses 179 = .ok (.if_icmp .ne 259, 3) := by decide +kernel
theorem dL_refuses_182 : decode cL_refuses 182 = .ok (.aload_n 0, 1) := by decide +kernel
theorem dL_refuses_183 : decode cL_refuses 183 = .ok (.iconst 0, 1) := by decide +kernel
theorem dL_refuses_184 : decode cL_refuses 184 = .ok (.iconst 0, 1) := by decide +kernel
theorem dL_refuses_185 : decode cL_refuses 185 = .ok (.bipush 6, 2) := by decide +kernel
theorem dL_refuses_187 : decode cL_refuses 187 = .ok (.iload_n 1, 1) := by decide +kernel
theorem dL_refuses_188 : decode cL_refuses 188 = .ok (.iadd, 1) := by decide +kernel
theorem dL_refuses_189 : decode cL_refuses 189 = .ok (.invokestatic 107, 3) := by decide +kernel
theorem dL_refuses_192 : decode cL_refuses 192 = .ok (.bipush (-2), 2) := by decide +kernel
theorem dL_refuses_194 : decode cL_refuses 194 = .ok (.if_icmp .ne 244, 3) := by decide +kernel
theorem dL_refuses_197 : decode cL_refuses 197 = .ok (.aload_n 0, 1) := by decide +kernel
theorem dL_refuses_198 : decode cL_refuses 198 = .ok (.bipush 9, 2) := by decide +kernel
theorem dL_refuses_200 : decode cL_refuses 200 = .ok (.iload_n 1, 1) := by decide +kernel
theorem dL_refuses_201 : decode cL_refuses 201 = .ok (.iadd, 1) := by decide +kernel
theorem dL_refuses_202 : decode cL_refuses 202 = .ok (.iconst 0, 1) := by decide +kernel
theorem dL_refuses_203 : decode cL_refuses 203 = .ok (.iconst 2, 1) := by decide +kernel
theorem dL_refuses_204 : decode cL_refuses 204 = .ok (.iconst 0, 1) := by decide +kernel
theorem dL_refuses_205 : decode cL_refuses 205 = .ok (.invokestatic 110, 3) := by decide +kernel
theorem dL_refuses_208 : decode cL_refuses 208 = .ok (.bipush (-3), 2) := by decide +kernel
theorem dL_refuses_210 : decode cL_refuses 210 = .ok (.if_icmp .ne 228, 3) := by decide +kernel
theorem dL_refuses_213 : decode cL_refuses 213 = .ok (.aload_n 0, 1) := by decide +kernel
theorem dL_refuses_214 : decode cL_refuses 214 = .ok (.bipush 8, 2) := by decide +kernel
theorem dL_refuses_216 : decode cL_refuses 216 = .ok (.iconst 0, 1) := by decide +kernel
theorem dL_refuses_217 : decode cL_refuses 217 = .ok (.iconst 1, 1) := by decide +kernel
theorem dL_refuses_218 : decode cL_refuses 218 = .ok (.bipush 9, 2) := by decide +kernel
theorem dL_refuses_220 : decode cL_refuses 220 = .ok (.invokestatic 110, 3) := by decide +kernel
theorem dL_refuses_223 : decode cL_refuses 223 = .ok (.bipush (-3), 2) := by decide +kernel
theorem dL_refuses_225 : decode cL_refuses 225 = .ok (.if_icmp .ne 213, 3) := by decide +kernel
theorem dL_refuses_228 : decode cL_refuses 228 = .ok (.aload_n 0, 1) := by decide +kernel
theorem dL_refuses_229 : decode cL_refuses 229 = .ok (.iconst 0, 1) := by decide +kernel
theorem dL_refuses_230 : decode cL_refuses 230 = .ok (.bipush 8, 2) := by decide +kernel
theorem dL_refuses_232 : decode cL_refuses 232 = .ok (.iconst 2, 1) := by decide +kernel
theorem dL_refuses_233 : decode cL_refuses 233 = .ok (.bipush 9, 2) := by decide +kernel
theorem dL_refuses_235 : decode cL_refuses 235 = .ok (.invokestatic 110, 3) := by decide +kernel
theorem dL_refuses_238 : decode cL_refuses 238 = .ok (.bipush (-3), 2) := by decide +kernel
theorem dL_refuses_240 : decode cL_refuses 240 = .ok (.if_icmp .ne 198, 3) := by decide +kernel
theorem dL_refuses_243 : decode cL_refuses 243 = .ok (.aload_n 0, 1) := by decide +kernel
theorem dL_refuses_244 : decode cL_refuses 244 = .ok (.iconst 0, 1) := by decide +kernel
theorem dL_refuses_245 : decode cL_refuses 245 = .ok (.iconst 0, 1) := by decide +kernel
theorem dL_refuses_246 : decode cL_refuses 246 = .ok (.iconst 1, 1) := by decide +kernel
theorem dL_refuses_247 : decode cL_refuses 247 = .ok (.iconst 3, 1) := by decide +kernel
theorem dL_refuses_248 : decode cL_refuses 248 = .ok (.iload_n 1, 1) := by decide +kernel
theorem dL_refuses_249 : decode cL_refuses 249 = .ok (.iadd, 1) := by decide +kernel
theorem dL_refuses_250 : decode cL_refuses 250 = .ok (.invokestatic 110, 3) := by decide +kernel
theorem dL_refuses_253 : decode cL_refuses 253 = .ok (.bipush (-2), 2) := by decide +kernel
theorem dL_refuses_255 : decode cL_refuses 255 = .ok (.if_icmp .ne 183, 3) := by decide +kernel
theorem dL_refuses_258 : decode cL_refuses 258 = .ok (.aload_n 0, 1) := by decide +kernel
theorem dL_refuses_259 : decode cL_refuses 259 = .ok (.iload_n 2, 1) := by decide +kernel
theorem dL_refuses_260 : decode cL_refuses 260 = .ok (.bipush 9, 2) := by decide +kernel
theorem dL_refuses_262 : decode cL_refuses 262 = .ok (.invokestatic 117, 3) := by decide +kernel
theorem dL_refuses_265 : decode cL_refuses 265 = .ok (.bipush (-3), 2) := by decide +kernel
theorem dL_refuses_267 : decode cL_refuses 267 = .ok (.if_icmp .ne 171, 3) := by decide +kernel
theorem dL_refuses_270 : decode cL_refuses 270 = .ok (.aload_n 0, 1) := by decide +kernel
theorem dL_refuses_271 : decode cL_refuses 271 = .ok (.iconst 0, 1) := by decide +kernel
theorem dL_refuses_272 : decode cL_refuses 272 = .ok (.bipush 9, 2) := by decide +kernel
theorem dL_refuses_274 : decode cL_refuses 274 = .ok (.iload_n 1, 1) := by decide +kernel
theorem dL_refuses_275 : decode cL_refuses 275 = .ok (.iadd, 1) := by decide +kernel
theorem dL_refuses_276 : decode cL_refuses 276 = .ok (.invokestatic 117, 3) := by decide +kernel
theorem dL_refuses_279 : decode cL_refuses 279 = .ok (.bipush (-2), 2) := by decide +kernel
theorem dL_refuses_281 : decode cL_refuses 281 = .ok (.if_icmp .ne 157, 3) := by decide +kernel
theorem dL_refuses_284 : decode cL_refuses 284 = .ok (.aload_n 0, 1) := by decide +kernel
theorem dL_refuses_285 : decode cL_refuses 285 = .ok (.iconst (-1), 1) := by decide +kernel
theorem dL_refuses_286 : decode cL_refuses 286 = .ok (.iload_n 1, 1) := by decide +kernel
theorem dL_refuses_287 : decode cL_refuses 287 = .ok (.isub, 1) := by decide +kernel
theorem dL_refuses_288 : decode cL_refuses 288 = .ok (.iconst 5, 1) := by decide +kernel
theorem dL_refuses_289 : decode cL_refuses 289 = .ok (.invokestatic 115, 3) := by decide +kernel
theorem dL_refuses_292 : decode cL_refuses 292 = .ok (.bipush (-3), 2) := by decide +kernel
theorem dL_refuses_294 : decode cL_refuses 294 = .ok (.if_icmp .ne 144, 3) := by decide +kernel
theorem dL_refuses_297 : decode cL_refuses 297 = .ok (.aload_n 0, 1) := by decide +kernel
theorem dL_refuses_298 : decode cL_refuses 298 = .ok (.iconst 0, 1) := by decide +kernel
theorem dL_refuses_299 : decode cL_refuses 299 = .ok (.iconst 3, 1) := by decide +kernel
theorem dL_refuses_300 : decode cL_refuses 300 = .ok (.iload_n 1, 1) := by decide +kernel
theorem dL_refuses_301 : decode cL_refuses 301 = .ok (.iadd, 1) := by decide +kernel
theorem dL_refuses_302 : decode cL_refuses 302 = .ok (.invokestatic 115, 3) := by decide +kernel
theorem dL_refuses_305 : decode cL_refuses 305 = .ok (.bipush (-2), 2) := by decide +kernel
theorem dL_refuses_307 : decode cL_refuses 307 = .ok (.if_icmp .ne 131, 3) := by decide +kernel
theorem dL_refuses_310 : decode cL_refuses 310 = .ok (.aload_n 0, 1) := by decide +kernel
theorem dL_refuses_311 : decode cL_refuses 311 = .ok (.bipush 12, 2) := by decide +kernel
theorem dL_refuses_313 : decode cL_refuses 313 = .ok (.iload_n 1, 1) := by decide +kernel
theorem dL_refuses_314 : decode cL_refuses 314 = .ok (.iadd, 1) := by decide +kernel
theorem dL_refuses_315 : decode cL_refuses 315 = .ok (.invokestatic 113, 3) := by decide +kernel
theorem dL_refuses_318 : decode cL_refuses 318 = .ok (.bipush (-2), 2) := by decide +kernel
theorem dL_refuses_320 : decode cL_refuses 320 = .ok (.if_icmp .ne 118, 3) := by decide +kernel
theorem dL_refuses_323 : decode cL_refuses 323 = .ok (.aload_n 0, 1) := by decide +kernel
theorem dL_refuses_324 : decode cL_refuses 324 = .ok (.iconst (-1), 1) := by decide +kernel
theorem dL_refuses_325 : decode cL_refuses 325 = .ok (.iload_n 1, 1) := by decide +kernel
theorem dL_refuses_326 : decode cL_refuses 326 = .ok (.isub, 1) := by decide +kernel
theorem dL_refuses_327 : decode cL_refuses 327 = .ok (.invokestatic 113, 3) := by decide +kernel
theorem dL_refuses_330 : decode cL_refuses 330 = .ok (.bipush (-2), 2) := by decide +kernel
theorem dL_refuses_332 : decode cL_refuses 332 = .ok (.if_icmp .ne 106, 3) := by decide +kernel
theorem dL_refuses_335 : decode cL_refuses 335 = .ok (.aload_n 0, 1) := by decide +kernel
theorem dL_refuses_336 : decode cL_refuses 336 = .ok (.iload_n 2, 1) := by decide +kernel
theorem dL_refuses_337 : decode cL_refuses 337 = .ok (.bipush 9, 2) := by decide +kernel
theorem dL_refuses_339 : decode cL_refuses 339 = .ok (.invokestatic 119, 3) := by decide +kernel
theorem dL_refuses_342 : decode cL_refuses 342 = .ok (.bipush (-3), 2) := by decide +kernel
theorem dL_refuses_344 : decode cL_refuses 344 = .ok (.if_icmp .ne 94, 3) := by decide +kernel
theorem dL_refuses_347 : decode cL_refuses 347 = .ok (.aload_n 0, 1) := by decide +kernel
theorem dL_refuses_348 : decode cL_refuses 348 = .ok (.iconst 0, 1) := by decide +kernel
theorem dL_refuses_349 : decode cL_refuses 349 = .ok (.iconst (-1), 1) := by decide +kernel
theorem dL_refuses_350 : decode cL_refuses 350 = .ok (.iload_n 1, 1) := by decide +kernel
theorem dL_refuses_351 : decode cL_refuses 351 = .ok (.isub, 1) := by decide +kernel
theorem dL_refuses_352 : decode cL_refuses 352 = .ok (.invokestatic 119, 3) := by decide +kernel
theorem dL_refuses_355 : decode cL_refuses 355 = .ok (.bipush (-2), 2) := by decide +kernel
theorem dL_refuses_357 : decode cL_refuses 357 = .ok (.if_icmp .ne 81, 3) := by decide +kernel
theorem dL_refuses_360 : decode cL_refuses 360 = .ok (.aload_n 0, 1) := by decide +kernel
theorem dL_refuses_361 : decode cL_refuses 361 = .ok (.iload_n 2, 1) := by decide +kernel
theorem dL_refuses_362 : decode cL_refuses 362 = .ok (.iconst 0, 1) := by decide +kernel
theorem dL_refuses_363 : decode cL_refuses 363 = .ok (.iconst 1, 1) := by decide +kernel
theorem dL_refuses_364 : decode cL_refuses 364 = .ok (.iconst 0, 1) := by decide +kernel
theorem dL_refuses_365 : decode cL_refuses 365 = .ok (.invokestatic 121, 3) := by decide +kernel
theorem dL_refuses_368 : decode cL_refuses 368 = .ok (.bipush (-103), 2) := by decide +kernel
theorem dL_refuses_370 : decode cL_refuses 370 = .ok (.if_icmp .ne 68, 3) := by decide +kernel
theorem dL_refuses_373 : decode cL_refuses 373 = .ok (.aload_n 0, 1) := by decide +kernel
theorem dL_refuses_374 : decode cL_refuses 374 = .ok (.iconst 0, 1) := by decide +kernel
theorem dL_refuses_375 : decode cL_refuses 375 = .ok (.iconst 0, 1) := by decide +kernel
theorem dL_refuses_376 : decode cL_refuses 376 = .ok (.iconst 1, 1) := by decide +kernel
theorem dL_refuses_377 : decode cL_refuses 377 = .ok (.iconst 4, 1) := by decide +kernel
theorem dL_refuses_378 : decode cL_refuses 378 = .ok (.iload_n 1, 1) := by decide +kernel
theorem dL_refuses_379 : decode cL_refuses 379 = .ok (.iadd, 1) := by decide +kernel
theorem dL_refuses_380 : decode cL_refuses 380 = .ok (.invokestatic 121, 3) := by decide +kernel
theorem dL_refuses_383 : decode cL_refuses 383 = .ok (.bipush (-102), 2) := by decide +kernel
theorem dL_refuses_385 : decode cL_refuses 385 = .ok (.if_icmp .ne 53, 3) := by decide +kernel
theorem dL_refuses_388 : decode cL_refuses 388 = .ok (.aload_n 0, 1) := by decide +kernel
theorem dL_refuses_389 : decode cL_refuses 389 = .ok (.iload_n 2, 1) := by decide +kernel
theorem dL_refuses_390 : decode cL_refuses 390 = .ok (.invokestatic 134, 3) := by decide +kernel
theorem dL_refuses_393 : decode cL_refuses 393 = .ok (.bipush (-3), 2) := by decide +kernel
theorem dL_refuses_395 : decode cL_refuses 395 = .ok (.if_icmp .ne 43, 3) := by decide +kernel
theorem dL_refuses_398 : decode cL_refuses 398 = .ok (.aload_n 0, 1) := by decide +kernel
theorem dL_refuses_399 : decode cL_refuses 399 = .ok (.iload_n 2, 1) := by decide +kernel
theorem dL_refuses_400 : decode cL_refuses 400 = .ok (.invokestatic 136, 3) := by decide +kernel
theorem dL_refuses_403 : decode cL_refuses 403 = .ok (.bipush (-2), 2) := by decide +kernel
theorem dL_refuses_405 : decode cL_refuses 405 = .ok (.if_icmp .ne 33, 3) := by decide +kernel
theorem dL_refuses_408 : decode cL_refuses 408 = .ok (.aload_n 0, 1) := by decide +kernel
theorem dL_refuses_409 : decode cL_refuses 409 = .ok (.bipush 32, 2) := by decide +kernel
theorem dL_refuses_411 : decode cL_refuses 411 = .ok (.iload_n 1, 1) := by decide +kernel
theorem dL_refuses_412 : decode cL_refuses 412 = .ok (.isub, 1) := by decide +kernel
theorem dL_refuses_413 : decode cL_refuses 413 = .ok (.invokestatic 96, 3) := by decide +kernel
theorem dL_refuses_416 : decode cL_refuses 416 = .ok (.bipush (-2), 2) := by decide +kernel
theorem dL_refuses_418 : decode cL_refuses 418 = .ok (.if_icmp .ne 20, 3) := by decide +kernel
theorem dL_refuses_421 : decode cL_refuses 421 = .ok (.aload_n 0, 1) := by decide +kernel
theorem dL_refuses_422 : decode cL_refuses 422 = .ok (.bipush 127, 2) := by decide +kernel
theorem dL_refuses_424 : decode cL_refuses 424 = .ok (.iload_n 1, 1) := by decide +kernel
theorem dL_refuses_425 : decode cL_refuses 425 = .ok (.iadd, 1) := by decide +kernel
theorem dL_refuses_426 : decode cL_refuses 426 = .ok (.invokestatic 96, 3) := by decide +kernel
theorem dL_refuses_429 : decode cL_refuses 429 = .ok (.bipush (-2), 2) := by decide +kernel
theorem dL_refuses_431 : decode cL_refuses 431 = .ok (.if_icmp .ne 7, 3) := by decide +kernel
theorem dL_refuses_434 : decode cL_refuses 434 = .ok (.iconst 1, 1) := by decide +kernel
theorem dL_refuses_435 : decode cL_refuses 435 = .ok (.goto 4, 3) := by decide +kernel
theorem dL_refuses_438 : decode cL_refuses 438 = .ok (.iconst 0, 1) := by decide +kernel
theorem dL_refuses_439 : decode cL_refuses 439 = .ok (.istore 4, 2) := by decide +kernel
theorem dL_refuses_441 : decode cL_refuses 441 = .ok (.aload_n 0, 1) := by decide +kernel
theorem dL_refuses_442 : decode cL_refuses 442 = .ok (.invokevirtual 93, 3) := by decide +kernel
theorem dL_refuses_445 : decode cL_refuses 445 = .ok (.istore 5, 2) := by decide +kernel
theorem dL_refuses_447 : decode cL_refuses 447 = .ok (.iload 4, 2) := by decide +kernel
theorem dL_refuses_449 : decode cL_refuses 449 = .ok (.ifCond .eq 55, 3) := by decide +kernel
theorem dL_refuses_452 : decode cL_refuses 452 = .ok (.iload 5, 2) := by decide +kernel
theorem dL_refuses_454 : decode cL_refuses 454 = .ok (.ifCond .lt 50, 3) := by decide +kernel
theorem dL_refuses_457 : decode cL_refuses 457 = .ok (.aload_n 0, 1) := by decide +kernel
theorem dL_refuses_458 : decode cL_refuses 458 = .ok (.invokestatic 102, 3) := by decide +kernel
theorem dL_refuses_461 : decode cL_refuses 461 = .ok (.bipush (-2), 2) := by decide +kernel
theorem dL_refuses_463 : decode cL_refuses 463 = .ok (.if_icmp .ne 41, 3) := by decide +kernel
theorem dL_refuses_466 : decode cL_refuses 466 = .ok (.aload_n 0, 1) := by decide +kernel
theorem dL_refuses_467 : decode cL_refuses 467 = .ok (.bipush 59, 2) := by decide +kernel
theorem dL_refuses_469 : decode cL_refuses 469 = .ok (.invokestatic 96, 3) := by decide +kernel
theorem dL_refuses_472 : decode cL_refuses 472 = .ok (.iconst 1, 1) := by decide +kernel
theorem dL_refuses_473 : decode cL_refuses 473 = .ok (.if_icmp .ne 31, 3) := by decide +kernel
theorem dL_refuses_476 : decode cL_refuses 476 = .ok (.aload_n 0, 1) := by decide +kernel
theorem dL_refuses_477 : decode cL_refuses 477 = .ok (.invokevirtual 99, 3) := by decide +kernel
theorem dL_refuses_480 : decode cL_refuses 480 = .ok (.ifCond .ne 24, 3) := by decide +kernel
theorem dL_refuses_483 : decode cL_refuses 483 = .ok (.aload_n 0, 1) := by decide +kernel
theorem dL_refuses_484 : decode cL_refuses 484 = .ok (.invokestatic 102, 3) := by decide +kernel
theorem dL_refuses_487 : decode cL_refuses 487 = .ok (.bipush (-2), 2) := by decide +kernel
theorem dL_refuses_489 : decode cL_refuses 489 = .ok (.if_icmp .ne 15, 3) := by decide +kernel
theorem dL_refuses_492 : decode cL_refuses 492 = .ok (.aload_n 0, 1) := by decide +kernel
theorem dL_refuses_493 : decode cL_refuses 493 = .ok (.invokevirtual 93, 3) := by decide +kernel
theorem dL_refuses_496 : decode cL_refuses 496 = .ok (.iconst 1, 1) := by decide +kernel
theorem dL_refuses_497 : decode cL_refuses 497 = .ok (.if_icmp .ne 7, 3) := by decide +kernel
theorem dL_refuses_500 : decode cL_refuses 500 = .ok (.iconst 1, 1) := by decide +kernel
theorem dL_refuses_501 : decode cL_refuses 501 = .ok (.goto 4, 3) := by decide +kernel
theorem dL_refuses_504 : decode cL_refuses 504 = .ok (.iconst 0, 1) := by decide +kernel
theorem dL_refuses_505 : decode cL_refuses 505 = .ok (.ireturn, 1) := by decide +kernel
theorem dL_law_0 : decode cL_law 0 = .ok (.new 10, 3) := by decide +kernel
theorem dL_law_3 : decode cL_law 3 = .ok (.dup, 1) := by decide +kernel
theorem dL_law_4 : decode cL_law 4 = .ok (.invokespecial 138, 3) := by decide +kernel
theorem dL_law_7 : decode cL_law 7 = .ok (.astore_n 1, 1) := by decide +kernel
theorem dL_law_8 : decode cL_law 8 = .ok (.new 10, 3) := by decide +kernel
theorem dL_law_11 : decode cL_law 11 = .ok (.dup, 1) := by decide +kernel
theorem dL_law_12 : decode cL_law 12 = .ok (.invokespecial 138, 3) := by decide +kernel
theorem dL_law_15 : decode cL_law 15 = .ok (.astore_n 2, 1) := by decide +kernel
theorem dL_law_16 : decode cL_law 16 = .ok (.aload_n 1, 1) := by decide +kernel
theorem dL_law_17 : decode cL_law 17 = .ok (.invokestatic 85, 3) := by decide +kernel
theorem dL_law_20 : decode cL_law 20 = .ok (.bipush (-2), 2) := by decide +kernel
theorem dL_law_22 : decode cL_law 22 = .ok (.if_icmp .ne 68, 3) := by decide +kernel
theorem dL_law_25 : decode cL_law 25 = .ok (.aload_n 1, 1) := by decide +kernel
theorem dL_law_26 : decode cL_law 26 = .ok (.invokestatic 91, 3) := by decide +kernel
theorem dL_law_29 : decode cL_law 29 = .ok (.bipush (-2), 2) := by decide +kernel
theorem dL_law_31 : decode cL_law 31 = .ok (.if_icmp .ne 59, 3) := by decide +kernel
theorem dL_law_34 : decode cL_law 34 = .ok (.aload_n 1, 1) := by decide +kernel
theorem dL_law_35 : decode cL_law 35 = .ok (.invokevirtual 99, 3) := by decide +kernel
theorem dL_law_38 : decode cL_law 38 = .ok (.ifCond .ne 52, 3) := by decide +kernel
theorem dL_law_41 : decode cL_law 41 = .ok (.aload_n 1, 1) := by decide +kernel
theorem dL_law_42 : decode cL_law 42 = .ok (.invokestatic 102, 3) := by decide +kernel
theorem dL_law_45 : decode cL_law 45 = .ok (.bipush (-2), 2) := by decide +kernel
theorem dL_law_47 : decode cL_law 47 = .ok (.if_icmp .ne 43, 3) := by decide +kernel
theorem dL_law_50 : decode cL_law 50 = .ok (.aload_n 1, 1) := by decide +kernel
theorem dL_law_51 : decode cL_law 51 = .ok (.invokevirtual 123, 3) := by decide +kernel
theorem dL_law_54 : decode cL_law 54 = .ok (.ifCond .ne 36, 3) := by decide +kernel
theorem dL_law_57 : decode cL_law 57 = .ok (.aload_n 1, 1) := by decide +kernel
theorem dL_law_58 : decode cL_law 58 = .ok (.iconst 0, 1) := by decide +kernel
theorem dL_law_59 : decode cL_law 59 = .ok (.invokestatic 134, 3) := by decide +kernel
theorem dL_law_62 : decode cL_law 62 = .ok (.bipush 11, 2) := by decide +kernel
theorem dL_law_64 : decode cL_law 64 = .ok (.if_icmp .ne 26, 3) := by decide +kernel
theorem dL_law_67 : decode cL_law 67 = .ok (.aload_n 1, 1) := by decide +kernel
theorem dL_law_68 : decode cL_law 68 = .ok (.invokevirtual 139, 3) := by decide +kernel
theorem dL_law_71 : decode cL_law 71 = .ok (.aload_n 2, 1) := by decide +kernel
theorem dL_law_72 : decode cL_law 72 = .ok (.invokevirtual 139, 3) := by decide +kernel
theorem dL_law_75 : decode cL_law 75 = .ok (.lcmp, 1) := by decide +kernel
theorem dL_law_76 : decode cL_law 76 = .ok (.ifCond .ne 14, 3) := by decide +kernel
theorem dL_law_79 : decode cL_law 79 = .ok (.aload_n 1, 1) := by decide +kernel
theorem dL_law_80 : decode cL_law 80 = .ok (.invokestatic 143, 3) := by decide +kernel
theorem dL_law_83 : decode cL_law 83 = .ok (.ifCond .eq 7, 3) := by decide +kernel
theorem dL_law_86 : decode cL_law 86 = .ok (.iconst 1, 1) := by decide +kernel
theorem dL_law_87 : decode cL_law 87 = .ok (.goto 4, 3) := by decide +kernel
theorem dL_law_90 : decode cL_law 90 = .ok (.iconst 0, 1) := by decide +kernel
theorem dL_law_91 : decode cL_law 91 = .ok (.istore_n 3, 1) := by decide +kernel
theorem dL_law_92 : decode cL_law 92 = .ok (.iconst 0, 1) := by decide +kernel
theorem dL_law_93 : decode cL_law 93 = .ok (.istore 4, 2) := by decide +kernel
theorem dL_law_95 : decode cL_law 95 = .ok (.iload 4, 2) := by decide +kernel
theorem dL_law_97 : decode cL_law 97 = .ok (.bipush 30, 2) := by decide +kernel
theorem dL_law_99 : decode cL_law 99 = .ok (.if_icmp .ge 105, 3) := by decide +kernel
theorem dL_law_102 : decode cL_law 102 = .ok (.iload_n 3, 1) := by decide +kernel
theorem dL_law_103 : decode cL_law 103 = .ok (.ifCond .eq 101, 3) := by decide +kernel
theorem dL_law_106 : decode cL_law 106 = .ok (.aload_n 0, 1) := by decide +kernel
theorem dL_law_107 : decode cL_law 107 = .ok (.iload 4, 2) := by decide +kernel
theorem dL_law_109 : decode cL_law 109 = .ok (.invokestatic 147, 3) := by decide +kernel
theorem dL_law_112 : decode cL_law 112 = .ok (.istore 5, 2) := by decide +kernel
theorem dL_law_114 : decode cL_law 114 = .ok (.aload_n 1, 1) := by decide +kernel
theorem dL_law_115 : decode cL_law 115 = .ok (.iload 5, 2) := by decide +kernel
theorem dL_law_117 : decode cL_law 117 = .ok (.invokestatic 150, 3) := by decide +kernel
theorem dL_law_120 : decode cL_law 120 = .ok (.istore 6, 2) := by decide +kernel
theorem dL_law_122 : decode cL_law 122 = .ok (.iload 4, 2) := by decide +kernel
theorem dL_law_124 : decode cL_law 124 = .ok (.iconst 3, 1) := by decide +kernel
theorem dL_law_125 : decode cL_law 125 = .ok (.irem, 1) := by decide +kernel
theorem dL_law_126 : decode cL_law 126 = .ok (.ifCond .gt 15, 3) := by decide +kernel
theorem dL_law_129 : decode cL_law 129 = .ok (.aload_n 2, 1) := by decide +kernel
theorem dL_law_130 : decode cL_law 130 = .ok (.iload 5, 2) := by decide +kernel
theorem dL_law_132 : decode cL_law 132 = .ok (.ldc 153, 2) := by decide +kernel
theorem dL_law_134 : decode cL_law 134 = .ok (.irem, 1) := by decide +kernel
theorem dL_law_135 : decode cL_law 135 = .ok (.invokestatic 154, 3) := by decide +kernel
theorem dL_law_138 : decode cL_law 138 = .ok (.ifCond .eq 58, 3) := by decide +kernel
theorem dL_law_141 : decode cL_law 141 = .ok (.aload_n 2, 1) := by decide +kernel
theorem dL_law_142 : decode cL_law 142 = .ok (.iload 5, 2) := by decide +kernel
theorem dL_law_144 : decode cL_law 144 = .ok (.invokestatic 150, 3) := by decide +kernel
theorem dL_law_147 : decode cL_law 147 = .ok (.iload 6, 2) := by decide +kernel
theorem dL_law_149 : decode cL_law 149 = .ok (.if_icmp .ne 47, 3) := by decide +kernel
theorem dL_law_152 : decode cL_law 152 = .ok (.aload_n 1, 1) := by decide +kernel
theorem dL_law_153 : decode cL_law 153 = .ok (.bipush 11, 2) := by decide +kernel
theorem dL_law_155 : decode cL_law 155 = .ok (.invokestatic 113, 3) := by decide +kernel
theorem dL_law_158 : decode cL_law 158 = .ok (.aload_n 2, 1) := by decide +kernel
theorem dL_law_159 : decode cL_law 159 = .ok (.bipush 11, 2) := by decide +kernel
theorem dL_law_161 : decode cL_law 161 = .ok (.invokestatic 113, 3) := by decide +kernel
theorem dL_law_164 : decode cL_law 164 = .ok (.if_icmp .ne 32, 3) := by decide +kernel
theorem dL_law_167 : decode cL_law 167 = .ok (.iload 4, 2) := by decide +kernel
theorem dL_law_169 : decode cL_law 169 = .ok (.iconst 5, 1) := by decide +kernel
theorem dL_law_170 : decode cL_law 170 = .ok (.irem, 1) := by decide +kernel
theorem dL_law_171 : decode cL_law 171 = .ok (.ifCond .gt 21, 3) := by decide +kernel
theorem dL_law_174 : decode cL_law 174 = .ok (.iload 4, 2) := by decide +kernel
theorem dL_law_176 : decode cL_law 176 = .ok (.iconst 2, 1) := by decide +kernel
theorem dL_law_177 : decode cL_law 177 = .ok (.irem, 1) := by decide +kernel
theorem dL_law_178 : decode cL_law 178 = .ok (.ifCond .ne 7, 3) := by decide +kernel
theorem dL_law_181 : decode cL_law 181 = .ok (.aload_n 1, 1) := by decide +kernel
theorem dL_law_182 : decode cL_law 182 = .ok (.goto 4, 3) := by decide +kernel
theorem dL_law_185 : decode cL_law 185 = .ok (.aload_n 2, 1) := by decide +kernel
theorem dL_law_186 : decode cL_law 186 = .ok (.invokestatic 143, 3) := by decide +kernel
theorem dL_law_189 : decode cL_law 189 = .ok (.ifCond .eq 7, 3) := by decide +kernel
theorem dL_law_192 : decode cL_law 192 = .ok (.iconst 1, 1) := by decide +kernel
theorem dL_law_193 : decode cL_law 193 = .ok (.goto 4, 3) := by decide +kernel
theorem dL_law_196 : decode cL_law 196 = .ok (.iconst 0, 1) := by decide +kernel
theorem dL_law_197 : decode cL_law 197 = .ok (.istore_n 3, 1) := by decide +kernel
theorem dL_law_198 : decode cL_law 198 = .ok (.iinc 4 1, 3) := by decide +kernel
theorem dL_law_201 : decode cL_law 201 = .ok (.goto (-106), 3) := by decide +kernel
theorem dL_law_204 : decode cL_law 204 = .ok (.aload_n 1, 1) := by decide +kernel
theorem dL_law_205 : decode cL_law 205 = .ok (.invokevirtual 93, 3) := by decide +kernel
theorem dL_law_208 : decode cL_law 208 = .ok (.istore 4, 2) := by decide +kernel
theorem dL_law_210 : decode cL_law 210 = .ok (.aload_n 2, 1) := by decide +kernel
theorem dL_law_211 : decode cL_law 211 = .ok (.invokevirtual 93, 3) := by decide +kernel
theorem dL_law_214 : decode cL_law 214 = .ok (.istore 5, 2) := by decide +kernel
theorem dL_law_216 : decode cL_law 216 = .ok (.iload_n 3, 1) := by decide +kernel
theorem dL_law_217 : decode cL_law 217 = .ok (.ifCond .eq 36, 3) := by decide +kernel
theorem dL_law_220 : decode cL_law 220 = .ok (.iload 4, 2) := by decide +kernel
theorem dL_law_222 : decode cL_law 222 = .ok (.ifCond .lt 31, 3) := by decide +kernel
theorem dL_law_225 : decode cL_law 225 = .ok (.iload 5, 2) := by decide +kernel
theorem dL_law_227 : decode cL_law 227 = .ok (.ifCond .lt 26, 3) := by decide +kernel
theorem dL_law_230 : decode cL_law 230 = .ok (.aload_n 1, 1) := by decide +kernel
theorem dL_law_231 : decode cL_law 231 = .ok (.invokevirtual 139, 3) := by decide +kernel
theorem dL_law_234 : decode cL_law 234 = .ok (.aload_n 2, 1) := by decide +kernel
theorem dL_law_235 : decode cL_law 235 = .ok (.invokevirtual 139, 3) := by decide +kernel
theorem dL_law_238 : decode cL_law 238 = .ok (.lcmp, 1) := by decide +kernel
theorem dL_law_239 : decode cL_law 239 = .ok (.ifCond .ne 14, 3) := by decide +kernel
theorem dL_law_242 : decode cL_law 242 = .ok (.aload_n 1, 1) := by decide +kernel
theorem dL_law_243 : decode cL_law 243 = .ok (.invokestatic 143, 3) := by decide +kernel
theorem dL_law_246 : decode cL_law 246 = .ok (.ifCond .eq 7, 3) := by decide +kernel
theorem dL_law_249 : decode cL_law 249 = .ok (.iconst 1, 1) := by decide +kernel
theorem dL_law_250 : decode cL_law 250 = .ok (.goto 4, 3) := by decide +kernel
theorem dL_law_253 : decode cL_law 253 = .ok (.iconst 0, 1) := by decide +kernel
theorem dL_law_254 : decode cL_law 254 = .ok (.ireturn, 1) := by decide +kernel
