theorem dX0_init_0 : decode cX0_init 0 = .ok (.aload_n 0, 1) := by decide +kernel
theorem dX0_init_1 : decode cX0_init 1 = .ok (.invokespecial 3, 3) := by decide +kernel
theorem dX0_init_4 : decode cX0_init 4 = .ok (.aload_n 0, 1) := by decide +kernel
theorem dX0_init_5 : decode cX0_init 5 = .ok (.bipush 60, 2) := by decide +kernel
theorem dX0_init_7 : decode cX0_init 7 = .ok (.newarray .int, 2) := by decide +kernel
theorem dX0_init_9 : decode cX0_init 9 = .ok (.putfield 11, 3) := by decide +kernel
theorem dX0_init_12 : decode cX0_init 12 = .ok (.aload_n 0, 1) := by decide +kernel
theorem dX0_init_13 : decode cX0_init 13 = .ok (.iconst 0, 1) := by decide +kernel
theorem dX0_init_14 : decode cX0_init 14 = .ok (.putfield 15, 3) := by decide +kernel
theorem dX0_init_17 : decode cX0_init 17 = .ok (.return_, 1) := by decide +kernel
theorem dX0_isFull_0 : decode cX0_isFull 0 = .ok (.aload_n 0, 1) := by decide +kernel
theorem dX0_isFull_1 : decode cX0_isFull 1 = .ok (.getfield 15, 3) := by decide +kernel
theorem dX0_isFull_4 : decode cX0_isFull 4 = .ok (.bipush 60, 2) := by decide +kernel
theorem dX0_isFull_6 : decode cX0_isFull 6 = .ok (.if_icmp .lt 7, 3) := by decide +kernel
theorem dX0_isFull_9 : decode cX0_isFull 9 = .ok (.iconst 1, 1) := by decide +kernel
theorem dX0_isFull_10 : decode cX0_isFull 10 = .ok (.goto 4, 3) := by decide +kernel
theorem dX0_isFull_13 : decode cX0_isFull 13 = .ok (.iconst 0, 1) := by decide +kernel
theorem dX0_isFull_14 : decode cX0_isFull 14 = .ok (.ireturn, 1) := by decide +kernel
theorem dX0_add_0 : decode cX0_add 0 = .ok (.aload_n 0, 1) := by decide +kernel
theorem dX0_add_1 : decode cX0_add 1 = .ok (.getfield 11, 3) := by decide +kernel
theorem dX0_add_4 : decode cX0_add 4 = .ok (.aload_n 0, 1) := by decide +kernel
theorem dX0_add_5 : decode cX0_add 5 = .ok (.getfield 15, 3) := by decide +kernel
theorem dX0_add_8 : decode cX0_add 8 = .ok (.iload_n 1, 1) := by decide +kernel
theorem dX0_add_9 : decode cX0_add 9 = .ok (.iastore, 1) := by decide +kernel
theorem dX0_add_10 : decode cX0_add 10 = .ok (.aload_n 0, 1) := by decide +kernel
theorem dX0_add_11 : decode cX0_add 11 = .ok (.dup, 1) := by decide +kernel
theorem dX0_add_12 : decode cX0_add 12 = .ok (.getfield 15, 3) := by decide +kernel
theorem dX0_add_15 : decode cX0_add 15 = .ok (.iconst 1, 1) := by decide +kernel
theorem dX0_add_16 : decode cX0_add 16 = .ok (.iadd, 1) := by decide +kernel
theorem dX0_add_17 : decode cX0_add 17 = .ok (.putfield 15, 3) := by decide +kernel
theorem dX0_add_20 : decode cX0_add 20 = .ok (.return_, 1) := by decide +kernel
theorem dX0_errorIndex_0 : decode cX0_errorIndex 0 = .ok (.iconst 0, 1) := by decide +kernel
theorem dX0_errorIndex_1 : decode cX0_errorIndex 1 = .ok (.istore_n 1, 1) := by decide +kernel
theorem dX0_errorIndex_2 : decode cX0_errorIndex 2 = .ok (.iconst 0, 1) := by decide +kernel
theorem dX0_errorIndex_3 : decode cX0_errorIndex 3 = .ok (.istore_n 2, 1) := by decide +kernel
theorem dX0_errorIndex_4 : decode cX0_errorIndex 4 = .ok (.iload_n 2, 1) := by decide +kernel
theorem dX0_errorIndex_5 : decode cX0_errorIndex 5 = .ok (.aload_n 0, 1) := by decide +kernel
theorem dX0_errorIndex_6 : decode cX0_errorIndex 6 = .ok (.getfield 15, 3) := by decide +kernel
theorem dX0_errorIndex_9 : decode cX0_errorIndex 9 = .ok (.if_icmp .ge 27, 3) := by decide +kernel
theorem dX0_errorIndex_12 : decode cX0_errorIndex 12 = .ok (.iload_n 1, 1) := by decide +kernel
theorem dX0_errorIndex_13 : decode cX0_errorIndex 13 = .ok (.aload_n 0, 1) := by decide +kernel
theorem dX0_errorIndex_14 : decode cX0_errorIndex 14 = .ok (.getfield 11, 3) := by decide +kernel
theorem dX0_errorIndex_17 : decode cX0_errorIndex 17 = .ok (.iload_n 2, 1) := by decide +kernel
theorem dX0_errorIndex_18 : decode cX0_errorIndex 18 = .ok (.iaload, 1) := by decide +kernel
theorem dX0_errorIndex_19 : decode cX0_errorIndex 19 = .ok (.invokestatic 19, 3) := by decide +kernel
theorem dX0_errorIndex_22 : decode cX0_errorIndex 22 = .ok (.istore_n 1, 1) := by decide +kernel
theorem dX0_errorIndex_23 : decode cX0_errorIndex 23 = .ok (.iload_n 1, 1) := by decide +kernel
theorem dX0_errorIndex_24 : decode cX0_errorIndex 24 = .ok (.iconst 4, 1) := by decide +kernel
theorem dX0_errorIndex_25 : decode cX0_errorIndex 25 = .ok (.if_icmp .ne 5, 3) := by decide +kernel
theorem dX0_errorIndex_28 : decode cX0_errorIndex 28 = .ok (.iload_n 2, 1) := by decide +kernel
theorem dX0_errorIndex_29 : decode cX0_errorIndex 29 = .ok (.ireturn, 1) := by decide +kernel
theorem dX0_errorIndex_30 : decode cX0_errorIndex 30 = .ok (.iinc 2 1, 3) := by decide +kernel
theorem dX0_errorIndex_33 : decode cX0_errorIndex 33 = .ok (.goto (-29), 3) := by decide +kernel
theorem dX0_errorIndex_36 : decode cX0_errorIndex 36 = .ok (.aload_n 0, 1) := by decide +kernel
theorem dX0_errorIndex_37 : decode cX0_errorIndex 37 = .ok (.getfield 15, 3) := by decide +kernel
theorem dX0_errorIndex_40 : decode cX0_errorIndex 40 = .ok (.ireturn, 1) := by decide +kernel
theorem dX0_isComplete_0 : decode cX0_isComplete 0 = .ok (.iconst 0, 1) := by decide +kernel
theorem dX0_isComplete_1 : decode cX0_isComplete 1 = .ok (.istore_n 1, 1) := by decide +kernel
theorem dX0_isComplete_2 : decode cX0_isComplete 2 = .ok (.iconst 0, 1) := by decide +kernel
theorem dX0_isComplete_3 : decode cX0_isComplete 3 = .ok (.istore_n 2, 1) := by decide +kernel
theorem dX0_isComplete_4 : decode cX0_isComplete 4 = .ok (.iload_n 2, 1) := by decide +kernel
theorem dX0_isComplete_5 : decode cX0_isComplete 5 = .ok (.aload_n 0, 1) := by decide +kernel
theorem dX0_isComplete_6 : decode cX0_isComplete 6 = .ok (.getfield 15, 3) := by decide +kernel
theorem dX0_isComplete_9 : decode cX0_isComplete 9 = .ok (.if_icmp .ge 20, 3) := by decide +kernel
theorem dX0_isComplete_12 : decode cX0_isComplete 12 = .ok (.iload_n 1, 1) := by decide +kernel
theorem dX0_isComplete_13 : decode cX0_isComplete 13 = .ok (.aload_n 0, 1) := by decide +kernel
theorem dX0_isComplete_14 : decode cX0_isComplete 14 = .ok (.getfield 11, 3) := by decide +kernel
theorem dX0_isComplete_17 : decode cX0_isComplete 17 = .ok (.iload_n 2, 1) := by decide +kernel
theorem dX0_isComplete_18 : decode cX0_isComplete 18 = .ok (.iaload, 1) := by decide +kernel
theorem dX0_isComplete_19 : decode cX0_isComplete 19 = .ok (.invokestatic 19, 3) := by decide +kernel
theorem dX0_isComplete_22 : decode cX0_isComplete 22 = .ok (.istore_n 1, 1) := by decide +kernel
theorem dX0_isComplete_23 : decode cX0_isComplete 23 = .ok (.iinc 2 1, 3) := by decide +kernel
theorem dX0_isComplete_26 : decode cX0_isComplete 26 = .ok (.goto (-22), 3) := by decide +kernel
theorem dX0_isComplete_29 : decode cX0_isComplete 29 = .ok (.iload_n 1, 1) := by decide +kernel
theorem dX0_isComplete_30 : decode cX0_isComplete 30 = .ok (.iconst 3, 1) := by decide +kernel
theorem dX0_isComplete_31 : decode cX0_isComplete 31 = .ok (.if_icmp .ne 7, 3) := by decide +kernel
theorem dX0_isComplete_34 : decode cX0_isComplete 34 = .ok (.iconst 1, 1) := by decide +kernel
theorem dX0_isComplete_35 : decode cX0_isComplete 35 = .ok (.goto 4, 3) := by decide +kernel
theorem dX0_isComplete_38 : decode cX0_isComplete 38 = .ok (.iconst 0, 1) := by decide +kernel
theorem dX0_isComplete_39 : decode cX0_isComplete 39 = .ok (.ireturn, 1) := by decide +kernel
theorem dX0_playOn_0 : decode cX0_playOn 0 = .ok (.iconst 0, 1) := by decide +kernel
theorem dX0_playOn_1 : decode cX0_playOn 1 = .ok (.istore_n 2, 1) := by decide +kernel
theorem dX0_playOn_2 : decode cX0_playOn 2 = .ok (.iconst 0, 1) := by decide +kernel
theorem dX0_playOn_3 : decode cX0_playOn 3 = .ok (.istore_n 3, 1) := by decide +kernel
theorem dX0_playOn_4 : decode cX0_playOn 4 = .ok (.iconst 0, 1) := by decide +kernel
theorem dX0_playOn_5 : decode cX0_playOn 5 = .ok (.istore 4, 2) := by decide +kernel
theorem dX0_playOn_7 : decode cX0_playOn 7 = .ok (.iconst 0, 1) := by decide +kernel
theorem dX0_playOn_8 : decode cX0_playOn 8 = .ok (.istore 5, 2) := by decide +kernel
theorem dX0_playOn_10 : decode cX0_playOn 10 = .ok (.iconst 0, 1) := by decide +kernel
theorem dX0_playOn_11 : decode cX0_playOn 11 = .ok (.istore 6, 2) := by decide +kernel
theorem dX0_playOn_13 : decode cX0_playOn 13 = .ok (.iload 6, 2) := by decide +kernel
theorem dX0_playOn_15 : decode cX0_playOn 15 = .ok (.aload_n 0, 1) := by decide +kernel
theorem dX0_playOn_16 : decode cX0_playOn 16 = .ok (.getfield 15, 3) := by decide +kernel
theorem dX0_playOn_19 : decode cX0_playOn 19 = .ok (.if_icmp .ge 111, 3) := by decide +kernel
theorem dX0_playOn_22 : decode cX0_playOn 22 = .ok (.aload_n 0, 1) := by decide +kernel
theorem dX0_playOn_23 : decode cX0_playOn 23 = .ok (.getfield 11, 3) := by decide +kernel
theorem dX0_playOn_26 : decode cX0_playOn 26 = .ok (.iload 6, 2) := by decide +kernel
theorem dX0_playOn_28 : decode cX0_playOn 28 = .ok (.iaload, 1) := by decide +kernel
theorem dX0_playOn_29 : decode cX0_playOn 29 = .ok (.istore 7, 2) := by decide +kernel
theorem dX0_playOn_31 : decode cX0_playOn 31 = .ok (.iload_n 2, 1) := by decide +kernel
theorem dX0_playOn_32 : decode cX0_playOn 32 = .ok (.ifCond .ne 18, 3) := by decide +kernel
theorem dX0_playOn_35 : decode cX0_playOn 35 = .ok (.iload 7, 2) := by decide +kernel
theorem dX0_playOn_37 : decode cX0_playOn 37 = .ok (.bipush 116, 2) := by decide +kernel
theorem dX0_playOn_39 : decode cX0_playOn 39 = .ok (.if_icmp .ne 11, 3) := by decide +kernel
theorem dX0_playOn_42 : decode cX0_playOn 42 = .ok (.aload_n 1, 1) := by decide +kernel
theorem dX0_playOn_43 : decode cX0_playOn 43 = .ok (.invokevirtual 23, 3) := by decide +kernel
theorem dX0_playOn_46 : decode cX0_playOn 46 = .ok (.pop, 1) := by decide +kernel
theorem dX0_playOn_47 : decode cX0_playOn 47 = .ok (.goto 70, 3) := by decide +kernel
theorem dX0_playOn_50 : decode cX0_playOn 50 = .ok (.iload_n 2, 1) := by decide +kernel
theorem dX0_playOn_51 : decode cX0_playOn 51 = .ok (.ifCond .ne 12, 3) := by decide +kernel
theorem dX0_playOn_54 : decode cX0_playOn 54 = .ok (.iload 7, 2) := by decide +kernel
theorem dX0_playOn_56 : decode cX0_playOn 56 = .ok (.bipush 48, 2) := by decide +kernel
theorem dX0_playOn_58 : decode cX0_playOn 58 = .ok (.isub, 1) := by decide +kernel
theorem dX0_playOn_59 : decode cX0_playOn 59 = .ok (.istore_n 3, 1) := by decide +kernel
theorem dX0_playOn_60 : decode cX0_playOn 60 = .ok (.goto 57, 3) := by decide +kernel
theorem dX0_playOn_63 : decode cX0_playOn 63 = .ok (.iload_n 2, 1) := by decide +kernel
theorem dX0_playOn_64 : decode cX0_playOn 64 = .ok (.iconst 1, 1) := by decide +kernel
theorem dX0_playOn_65 : decode cX0_playOn 65 = .ok (.if_icmp .ne 13, 3) := by decide +kernel
theorem dX0_playOn_68 : decode cX0_playOn 68 = .ok (.iload 7, 2) := by decide +kernel
theorem dX0_playOn_70 : decode cX0_playOn 70 = .ok (.invokestatic 29, 3) := by decide +kernel
theorem dX0_playOn_73 : decode cX0_playOn 73 = .ok (.istore 4, 2) := by decide +kernel
theorem dX0_playOn_75 : decode cX0_playOn 75 = .ok (.goto 42, 3) := by decide +kernel
theorem dX0_playOn_78 : decode cX0_playOn 78 = .ok (.iload_n 2, 1) := by decide +kernel
theorem dX0_playOn_79 : decode cX0_playOn 79 = .ok (.iconst 2, 1) := by decide +kernel
theorem dX0_playOn_80 : decode cX0_playOn 80 = .ok (.if_icmp .ne 37, 3) := by decide +kernel
theorem dX0_playOn_83 : decode cX0_playOn 83 = .ok (.aload_n 1, 1) := by decide +kernel
theorem dX0_playOn_84 : decode cX0_playOn 84 = .ok (.iload_n 3, 1) := by decide +kernel
theorem dX0_playOn_85 : decode cX0_playOn 85 = .ok (.iload 4, 2) := by decide +kernel
theorem dX0_playOn_87 : decode cX0_playOn 87 = .ok (.iload 7, 2) := by decide +kernel
theorem dX0_playOn_89 : decode cX0_playOn 89 = .ok (.bipush 48, 2) := by decide +kernel
theorem dX0_playOn_91 : decode cX0_playOn 91 = .ok (.isub, 1) := by decide +kernel
theorem dX0_playOn_92 : decode cX0_playOn 92 = .ok (.invokevirtual 33, 3) := by decide +kernel
theorem dX0_playOn_95 : decode cX0_playOn 95 = .ok (.istore 8, 2) := by decide +kernel
theorem dX0_playOn_97 : decode cX0_playOn 97 = .ok (.iload 5, 2) := by decide +kernel
theorem dX0_playOn_99 : decode cX0_playOn 99 = .ok (.iload 8, 2) := by decide +kernel
theorem dX0_playOn_101 : decode cX0_playOn 101 = .ok (.iadd, 1) := by decide +kernel
theorem dX0_playOn_102 : decode cX0_playOn 102 = .ok (.istore 5, 2) := by decide +kernel
theorem dX0_playOn_104 : decode cX0_playOn 104 = .ok (.iload 8, 2) := by decide +kernel
theorem dX0_playOn_106 : decode cX0_playOn 106 = .ok (.iload 7, 2) := by decide +kernel
theorem dX0_playOn_108 : decode cX0_playOn 108 = .ok (.bipush 48, 2) := by decide +kernel
theorem dX0_playOn_110 : decode cX0_playOn 110 = .ok (.isub, 1) := by decide +kernel
theorem dX0_playOn_111 : decode cX0_playOn 111 = .ok (.if_icmp .ge 6, 3) := by decide +kernel
theorem dX0_playOn_114 : decode cX0_playOn 114 = .ok (.iload 5, 2) := by decide +kernel
theorem dX0_playOn_116 : decode cX0_playOn 116 = .ok (.ireturn, 1) := by decide +kernel
theorem dX0_playOn_117 : decode cX0_playOn 117 = .ok (.iload_n 2, 1) := by decide +kernel
theorem dX0_playOn_118 : decode cX0_playOn 118 = .ok (.iload 7, 2) := by decide +kernel
theorem dX0_playOn_120 : decode cX0_playOn 120 = .ok (.invokestatic 19, 3) := by decide +kernel
theorem dX0_playOn_123 : decode cX0_playOn 123 = .ok (.istore_n 2, 1) := by decide +kernel
theorem dX0_playOn_124 : decode cX0_playOn 124 = .ok (.iinc 6 1, 3) := by decide +kernel
theorem dX0_playOn_127 : decode cX0_playOn 127 = .ok (.goto (-114), 3) := by decide +kernel
theorem dX0_playOn_130 : decode cX0_playOn 130 = .ok (.iload 5, 2) := by decide +kernel
theorem dX0_playOn_132 : decode cX0_playOn 132 = .ok (.ireturn, 1) := by decide +kernel
theorem dX0_placeBehind_0 : decode cX0_placeBehind 0 = .ok (.iload_n 0, 1) := by decide +kernel
theorem dX0_placeBehind_1 : decode cX0_placeBehind 1 = .ok (.tableswitch 101 0 3 #[31, 57, 71, 89], 31) := by decide +kernel
theorem dX0_placeBehind_32 : decode cX0_placeBehind 32 = .ok (.iload_n 1, 1) := by decide +kernel
theorem dX0_placeBehind_33 : decode cX0_placeBehind 33 = .ok (.bipush 116, 2) := by decide +kernel
theorem dX0_placeBehind_35 : decode cX0_placeBehind 35 = .ok (.if_icmp .ne 5, 3) := by decide +kernel
theorem dX0_placeBehind_38 : decode cX0_placeBehind 38 = .ok (.iconst 3, 1) := by decide +kernel
theorem dX0_placeBehind_39 : decode cX0_placeBehind 39 = .ok (.ireturn, 1) := by decide +kernel
theorem dX0_placeBehind_40 : decode cX0_placeBehind 40 = .ok (.iload_n 1, 1) := by decide +kernel
theorem dX0_placeBehind_41 : decode cX0_placeBehind 41 = .ok (.bipush 48, 2) := by decide +kernel
theorem dX0_placeBehind_43 : decode cX0_placeBehind 43 = .ok (.if_icmp .lt 13, 3) := by decide +kernel
theorem dX0_placeBehind_46 : decode cX0_placeBehind 46 = .ok (.iload_n 1, 1) := by decide +kernel
theorem dX0_placeBehind_47 : decode cX0_placeBehind 47 = .ok (.bipush 50, 2) := by decide +kernel
theorem dX0_placeBehind_49 : decode cX0_placeBehind 49 = .ok (.if_icmp .gt 7, 3) := by decide +kernel
theorem dX0_placeBehind_52 : decode cX0_placeBehind 52 = .ok (.iconst 1, 1) := by decide +kernel
theorem dX0_placeBehind_53 : decode cX0_placeBehind 53 = .ok (.goto 4, 3) := by decide +kernel
theorem dX0_placeBehind_56 : decode cX0_placeBehind 56 = .ok (.iconst 4, 1) := by decide +kernel
theorem dX0_placeBehind_57 : decode cX0_placeBehind 57 = .ok (.ireturn, 1) := by decide +kernel
theorem dX0_placeBehind_58 : decode cX0_placeBehind 58 = .ok (.iload_n 1, 1) := by decide +kernel
theorem dX0_placeBehind_59 : decode cX0_placeBehind 59 = .ok (.invokestatic 29, 3) := by decide +kernel
theorem dX0_placeBehind_62 : decode cX0_placeBehind 62 = .ok (.iconst (-1), 1) := by decide +kernel
theorem dX0_placeBehind_63 : decode cX0_placeBehind 63 = .ok (.if_icmp .ne 7, 3) := by decide +kernel
theorem dX0_placeBehind_66 : decode cX0_placeBehind 66 = .ok (.iconst 4, 1) := by decide +kernel
theorem dX0_placeBehind_67 : decode cX0_placeBehind 67 = .ok (.goto 4, 3) := by decide +kernel
theorem dX0_placeBehind_70 : decode cX0_placeBehind 70 = .ok (.iconst 2, 1) := by decide +kernel
theorem dX0_placeBehind_71 : decode cX0_placeBehind 71 = .ok (.ireturn, 1) := by decide +kernel
theorem dX0_placeBehind_72 : decode cX0_placeBehind 72 = .ok (.iload_n 1, 1) := by decide +kernel
theorem dX0_placeBehind_73 : decode cX0_placeBehind 73 = .ok (.bipush 49, 2) := by decide +kernel
theorem dX0_placeBehind_75 : decode cX0_placeBehind 75 = .ok (.if_icmp .lt 13, 3) := by decide +kernel
theorem dX0_placeBehind_78 : decode cX0_placeBehind 78 = .ok (.iload_n 1, 1) := by decide +kernel
theorem dX0_placeBehind_79 : decode cX0_placeBehind 79 = .ok (.bipush 56, 2) := by decide +kernel
theorem dX0_placeBehind_81 : decode cX0_placeBehind 81 = .ok (.if_icmp .gt 7, 3) := by decide +kernel
theorem dX0_placeBehind_84 : decode cX0_placeBehind 84 = .ok (.iconst 3, 1) := by decide +kernel
theorem dX0_placeBehind_85 : decode cX0_placeBehind 85 = .ok (.goto 4, 3) := by decide +kernel
theorem dX0_placeBehind_88 : decode cX0_placeBehind 88 = .ok (.iconst 4, 1) := by decide +kernel
theorem dX0_placeBehind_89 : decode cX0_placeBehind 89 = .ok (.ireturn, 1) := by decide +kernel
theorem dX0_placeBehind_90 : decode cX0_placeBehind 90 = .ok (.iload_n 1, 1) := by decide +kernel
theorem dX0_placeBehind_91 : decode cX0_placeBehind 91 = .ok (.bipush 59, 2) := by decide +kernel
theorem dX0_placeBehind_93 : decode cX0_placeBehind 93 = .ok (.if_icmp .ne 7, 3) := by decide +kernel
theorem dX0_placeBehind_96 : decode cX0_placeBehind 96 = .ok (.iconst 0, 1) := by decide +kernel
theorem dX0_placeBehind_97 : decode cX0_placeBehind 97 = .ok (.goto 4, 3) := by decide +kernel
theorem dX0_placeBehind_100 : decode cX0_placeBehind 100 = .ok (.iconst 4, 1) := by decide +kernel
theorem dX0_placeBehind_101 : decode cX0_placeBehind 101 = .ok (.ireturn, 1) := by decide +kernel
theorem dX0_placeBehind_102 : decode cX0_placeBehind 102 = .ok (.iconst 4, 1) := by decide +kernel
theorem dX0_placeBehind_103 : decode cX0_placeBehind 103 = .ok (.ireturn, 1) := by decide +kernel
theorem dX0_directionOf_0 : decode cX0_directionOf 0 = .ok (.iload_n 0, 1) := by decide +kernel
theorem dX0_directionOf_1 : decode cX0_directionOf 1 = .ok (.lookupswitch 51 #[(101, 45), (110, 43), (115, 47), (119, 49)], 43) := by decide +kernel
theorem dX0_directionOf_44 : decode cX0_directionOf 44 = .ok (.iconst 0, 1) := by decide +kernel
theorem dX0_directionOf_45 : decode cX0_directionOf 45 = .ok (.ireturn, 1) := by decide +kernel
theorem dX0_directionOf_46 : decode cX0_directionOf 46 = .ok (.iconst 1, 1) := by decide +kernel
theorem dX0_directionOf_47 : decode cX0_directionOf 47 = .ok (.ireturn, 1) := by decide +kernel
theorem dX0_directionOf_48 : decode cX0_directionOf 48 = .ok (.iconst 2, 1) := by decide +kernel
theorem dX0_directionOf_49 : decode cX0_directionOf 49 = .ok (.ireturn, 1) := by decide +kernel
theorem dX0_directionOf_50 : decode cX0_directionOf 50 = .ok (.iconst 3, 1) := by decide +kernel
theorem dX0_directionOf_51 : decode cX0_directionOf 51 = .ok (.ireturn, 1) := by decide +kernel
theorem dX0_directionOf_52 : decode cX0_directionOf 52 = .ok (.iconst (-1), 1) := by decide +kernel
theorem dX0_directionOf_53 : decode cX0_directionOf 53 = .ok (.ireturn, 1) := by decide +kernel
theorem dX1_leading_0 : decode cX1_leading 0 = .ok (.iload_n 2, 1) := by decide +kernel
theorem dX1_leading_1 : decode cX1_leading 1 = .ok (.tableswitch 59 0 3 #[31, 39, 45, 51], 31) := by decide +kernel
theorem dX1_leading_32 : decode cX1_leading 32 = .ok (.iload_n 0, 1) := by decide +kernel
theorem dX1_leading_33 : decode cX1_leading 33 = .ok (.iload_n 1, 1) := by decide +kernel
theorem dX1_leading_34 : decode cX1_leading 34 = .ok (.iconst 1, 1) := by decide +kernel
theorem dX1_leading_35 : decode cX1_leading 35 = .ok (.isub, 1) := by decide +kernel
theorem dX1_leading_36 : decode cX1_leading 36 = .ok (.invokestatic 9, 3) := by decide +kernel
theorem dX1_leading_39 : decode cX1_leading 39 = .ok (.ireturn, 1) := by decide +kernel
theorem dX1_leading_40 : decode cX1_leading 40 = .ok (.iload_n 0, 1) := by decide +kernel
theorem dX1_leading_41 : decode cX1_leading 41 = .ok (.iload_n 1, 1) := by decide +kernel
theorem dX1_leading_42 : decode cX1_leading 42 = .ok (.invokestatic 15, 3) := by decide +kernel
theorem dX1_leading_45 : decode cX1_leading 45 = .ok (.ireturn, 1) := by decide +kernel
theorem dX1_leading_46 : decode cX1_leading 46 = .ok (.iload_n 0, 1) := by decide +kernel
theorem dX1_leading_47 : decode cX1_leading 47 = .ok (.iload_n 1, 1) := by decide +kernel
theorem dX1_leading_48 : decode cX1_leading 48 = .ok (.invokestatic 9, 3) := by decide +kernel
theorem dX1_leading_51 : decode cX1_leading 51 = .ok (.ireturn, 1) := by decide +kernel
theorem dX1_leading_52 : decode cX1_leading 52 = .ok (.iload_n 0, 1) := by decide +kernel
theorem dX1_leading_53 : decode cX1_leading 53 = .ok (.iconst 1, 1) := by decide +kernel
theorem dX1_leading_54 : decode cX1_leading 54 = .ok (.isub, 1) := by decide +kernel
theorem dX1_leading_55 : decode cX1_leading 55 = .ok (.iload_n 1, 1) := by decide +kernel
theorem dX1_leading_56 : decode cX1_leading 56 = .ok (.invokestatic 15, 3) := by decide +kernel
theorem dX1_leading_59 : decode cX1_leading 59 = .ok (.ireturn, 1) := by decide +kernel
theorem dX1_leading_60 : decode cX1_leading 60 = .ok (.iconst (-1), 1) := by decide +kernel
theorem dX1_leading_61 : decode cX1_leading 61 = .ok (.ireturn, 1) := by decide +kernel
theorem dX1_leadingEast_0 : decode cX1_leadingEast 0 = .ok (.iload_n 0, 1) := by decide +kernel
theorem dX1_leadingEast_1 : decode cX1_leadingEast 1 = .ok (.ifCond .lt 23, 3) := by decide +kernel
theorem dX1_leadingEast_4 : decode cX1_leadingEast 4 = .ok (.iload_n 0, 1) := by decide +kernel
theorem dX1_leadingEast_5 : decode cX1_leadingEast 5 = .ok (.bipush 8, 2) := by decide +kernel
theorem dX1_leadingEast_7 : decode cX1_leadingEast 7 = .ok (.if_icmp .ge 17, 3) := by decide +kernel
theorem dX1_leadingEast_10 : decode cX1_leadingEast 10 = .ok (.iload_n 1, 1) := by decide +kernel
theorem dX1_leadingEast_11 : decode cX1_leadingEast 11 = .ok (.ifCond .lt 13, 3) := by decide +kernel
theorem dX1_leadingEast_14 : decode cX1_leadingEast 14 = .ok (.iload_n 1, 1) := by decide +kernel
theorem dX1_leadingEast_15 : decode cX1_leadingEast 15 = .ok (.bipush 9, 2) := by decide +kernel
theorem dX1_leadingEast_17 : decode cX1_leadingEast 17 = .ok (.if_icmp .ge 7, 3) := by decide +kernel
theorem dX1_leadingEast_20 : decode cX1_leadingEast 20 = .ok (.iconst 1, 1) := by decide +kernel
theorem dX1_leadingEast_21 : decode cX1_leadingEast 21 = .ok (.goto 4, 3) := by decide +kernel
theorem dX1_leadingEast_24 : decode cX1_leadingEast 24 = .ok (.iconst 0, 1) := by decide +kernel
theorem dX1_leadingEast_25 : decode cX1_leadingEast 25 = .ok (.istore_n 2, 1) := by decide +kernel
theorem dX1_leadingEast_26 : decode cX1_leadingEast 26 = .ok (.iload_n 2, 1) := by decide +kernel
theorem dX1_leadingEast_27 : decode cX1_leadingEast 27 = .ok (.ifCond .eq 12, 3) := by decide +kernel
theorem dX1_leadingEast_30 : decode cX1_leadingEast 30 = .ok (.bipush 8, 2) := by decide +kernel
theorem dX1_leadingEast_32 : decode cX1_leadingEast 32 = .ok (.iload_n 1, 1) := by decide +kernel
theorem dX1_leadingEast_33 : decode cX1_leadingEast 33 = .ok (.imul, 1) := by decide +kernel
theorem dX1_leadingEast_34 : decode cX1_leadingEast 34 = .ok (.iload_n 0, 1) := by decide +kernel
theorem dX1_leadingEast_35 : decode cX1_leadingEast 35 = .ok (.iadd, 1) := by decide +kernel
theorem dX1_leadingEast_36 : decode cX1_leadingEast 36 = .ok (.goto 4, 3) := by decide +kernel
theorem dX1_leadingEast_39 : decode cX1_leadingEast 39 = .ok (.iconst (-1), 1) := by decide +kernel
theorem dX1_leadingEast_40 : decode cX1_leadingEast 40 = .ok (.ireturn, 1) := by decide +kernel
theorem dX1_leadingSouth_0 : decode cX1_leadingSouth 0 = .ok (.iload_n 0, 1) := by decide +kernel
theorem dX1_leadingSouth_1 : decode cX1_leadingSouth 1 = .ok (.ifCond .lt 23, 3) := by decide +kernel
theorem dX1_leadingSouth_4 : decode cX1_leadingSouth 4 = .ok (.iload_n 0, 1) := by decide +kernel
theorem dX1_leadingSouth_5 : decode cX1_leadingSouth 5 = .ok (.bipush 9, 2) := by decide +kernel
theorem dX1_leadingSouth_7 : decode cX1_leadingSouth 7 = .ok (.if_icmp .ge 17, 3) := by decide +kernel
theorem dX1_leadingSouth_10 : decode cX1_leadingSouth 10 = .ok (.iload_n 1, 1) := by decide +kernel
theorem dX1_leadingSouth_11 : decode cX1_leadingSouth 11 = .ok (.ifCond .lt 13, 3) := by decide +kernel
theorem dX1_leadingSouth_14 : decode cX1_leadingSouth 14 = .ok (.iload_n 1, 1) := by decide +kernel
theorem dX1_leadingSouth_15 : decode cX1_leadingSouth 15 = .ok (.bipush 8, 2) := by decide +kernel
theorem dX1_leadingSouth_17 : decode cX1_leadingSouth 17 = .ok (.if_icmp .ge 7, 3) := by decide +kernel
theorem dX1_leadingSouth_20 : decode cX1_leadingSouth 20 = .ok (.iconst 1, 1) := by decide +kernel
theorem dX1_leadingSouth_21 : decode cX1_leadingSouth 21 = .ok (.goto 4, 3) := by decide +kernel
theorem dX1_leadingSouth_24 : decode cX1_leadingSouth 24 = .ok (.iconst 0, 1) := by decide +kernel
theorem dX1_leadingSouth_25 : decode cX1_leadingSouth 25 = .ok (.istore_n 2, 1) := by decide +kernel
theorem dX1_leadingSouth_26 : decode cX1_leadingSouth 26 = .ok (.iload_n 2, 1) := by decide +kernel
theorem dX1_leadingSouth_27 : decode cX1_leadingSouth 27 = .ok (.ifCond .eq 15, 3) := by decide +kernel
theorem dX1_leadingSouth_30 : decode cX1_leadingSouth 30 = .ok (.bipush 72, 2) := by decide +kernel
theorem dX1_leadingSouth_32 : decode cX1_leadingSouth 32 = .ok (.bipush 9, 2) := by decide +kernel
theorem dX1_leadingSouth_34 : decode cX1_leadingSouth 34 = .ok (.iload_n 1, 1) := by decide +kernel
theorem dX1_leadingSouth_35 : decode cX1_leadingSouth 35 = .ok (.imul, 1) := by decide +kernel
theorem dX1_leadingSouth_36 : decode cX1_leadingSouth 36 = .ok (.iadd, 1) := by decide +kernel
theorem dX1_leadingSouth_37 : decode cX1_leadingSouth 37 = .ok (.iload_n 0, 1) := by decide +kernel
theorem dX1_leadingSouth_38 : decode cX1_leadingSouth 38 = .ok (.iadd, 1) := by decide +kernel
theorem dX1_leadingSouth_39 : decode cX1_leadingSouth 39 = .ok (.goto 4, 3) := by decide +kernel
theorem dX1_leadingSouth_42 : decode cX1_leadingSouth 42 = .ok (.iconst (-1), 1) := by decide +kernel
theorem dX1_leadingSouth_43 : decode cX1_leadingSouth 43 = .ok (.ireturn, 1) := by decide +kernel
theorem dX1_leadsEast_0 : decode cX1_leadsEast 0 = .ok (.iload_n 0, 1) := by decide +kernel
theorem dX1_leadsEast_1 : decode cX1_leadsEast 1 = .ok (.bipush 72, 2) := by decide +kernel
theorem dX1_leadsEast_3 : decode cX1_leadsEast 3 = .ok (.if_icmp .ge 7, 3) := by decide +kernel
theorem dX1_leadsEast_6 : decode cX1_leadsEast 6 = .ok (.iconst 1, 1) := by decide +kernel
theorem dX1_leadsEast_7 : decode cX1_leadsEast 7 = .ok (.goto 4, 3) := by decide +kernel
theorem dX1_leadsEast_10 : decode cX1_leadsEast 10 = .ok (.iconst 0, 1) := by decide +kernel
theorem dX1_leadsEast_11 : decode cX1_leadsEast 11 = .ok (.ireturn, 1) := by decide +kernel
theorem dX1_higherCell_0 : decode cX1_higherCell 0 = .ok (.iload_n 0, 1) := by decide +kernel
theorem dX1_higherCell_1 : decode cX1_higherCell 1 = .ok (.invokestatic 18, 3) := by decide +kernel
theorem dX1_higherCell_4 : decode cX1_higherCell 4 = .ok (.ifCond .eq 15, 3) := by decide +kernel
theorem dX1_higherCell_7 : decode cX1_higherCell 7 = .ok (.iload_n 0, 1) := by decide +kernel
theorem dX1_higherCell_8 : decode cX1_higherCell 8 = .ok (.bipush 8, 2) := by decide +kernel
theorem dX1_higherCell_10 : decode cX1_higherCell 10 = .ok (.irem, 1) := by decide +kernel
theorem dX1_higherCell_11 : decode cX1_higherCell 11 = .ok (.iload_n 0, 1) := by decide +kernel
theorem dX1_higherCell_12 : decode cX1_higherCell 12 = .ok (.bipush 8, 2) := by decide +kernel
theorem dX1_higherCell_14 : decode cX1_higherCell 14 = .ok (.idiv, 1) := by decide +kernel
theorem dX1_higherCell_15 : decode cX1_higherCell 15 = .ok (.invokestatic 22, 3) := by decide +kernel
theorem dX1_higherCell_18 : decode cX1_higherCell 18 = .ok (.lreturn, 1) := by decide +kernel
theorem dX1_higherCell_19 : decode cX1_higherCell 19 = .ok (.iload_n 0, 1) := by decide +kernel
theorem dX1_higherCell_20 : decode cX1_higherCell 20 = .ok (.bipush 72, 2) := by decide +kernel
theorem dX1_higherCell_22 : decode cX1_higherCell 22 = .ok (.isub, 1) := by decide +kernel
theorem dX1_higherCell_23 : decode cX1_higherCell 23 = .ok (.istore_n 1, 1) := by decide +kernel
theorem dX1_higherCell_24 : decode cX1_higherCell 24 = .ok (.iload_n 1, 1) := by decide +kernel
theorem dX1_higherCell_25 : decode cX1_higherCell 25 = .ok (.bipush 9, 2) := by decide +kernel
theorem dX1_higherCell_27 : decode cX1_higherCell 27 = .ok (.irem, 1) := by decide +kernel
theorem dX1_higherCell_28 : decode cX1_higherCell 28 = .ok (.iload_n 1, 1) := by decide +kernel
theorem dX1_higherCell_29 : decode cX1_higherCell 29 = .ok (.bipush 9, 2) := by decide +kernel
theorem dX1_higherCell_31 : decode cX1_higherCell 31 = .ok (.idiv, 1) := by decide +kernel
theorem dX1_higherCell_32 : decode cX1_higherCell 32 = .ok (.invokestatic 22, 3) := by decide +kernel
theorem dX1_higherCell_35 : decode cX1_higherCell 35 = .ok (.lreturn, 1) := by decide +kernel
theorem dX1_lowerCell_0 : decode cX1_lowerCell 0 = .ok (.iload_n 0, 1) := by decide +kernel
theorem dX1_lowerCell_1 : decode cX1_lowerCell 1 = .ok (.invokestatic 18, 3) := by decide +kernel
theorem dX1_lowerCell_4 : decode cX1_lowerCell 4 = .ok (.ifCond .eq 17, 3) := by decide +kernel
theorem dX1_lowerCell_7 : decode cX1_lowerCell 7 = .ok (.iload_n 0, 1) := by decide +kernel
theorem dX1_lowerCell_8 : decode cX1_lowerCell 8 = .ok (.bipush 8, 2) := by decide +kernel
theorem dX1_lowerCell_10 : decode cX1_lowerCell 10 = .ok (.irem, 1) := by decide +kernel
theorem dX1_lowerCell_11 : decode cX1_lowerCell 11 = .ok (.iload_n 0, 1) := by decide +kernel
theorem dX1_lowerCell_12 : decode cX1_lowerCell 12 = .ok (.bipush 8, 2) := by decide +kernel
theorem dX1_lowerCell_14 : decode cX1_lowerCell 14 = .ok (.idiv, 1) := by decide +kernel
theorem dX1_lowerCell_15 : decode cX1_lowerCell 15 = .ok (.iconst 1, 1) := by decide +kernel
theorem dX1_lowerCell_16 : decode cX1_lowerCell 16 = .ok (.isub, 1) := by decide +kernel
theorem dX1_lowerCell_17 : decode cX1_lowerCell 17 = .ok (.invokestatic 22, 3) := by decide +kernel
theorem dX1_lowerCell_20 : decode cX1_lowerCell 20 = .ok (.lreturn, 1) := by decide +kernel
theorem dX1_lowerCell_21 : decode cX1_lowerCell 21 = .ok (.iload_n 0, 1) := by decide +kernel
theorem dX1_lowerCell_22 : decode cX1_lowerCell 22 = .ok (.bipush 72, 2) := by decide +kernel
theorem dX1_lowerCell_24 : decode cX1_lowerCell 24 = .ok (.isub, 1) := by decide +kernel
theorem dX1_lowerCell_25 : decode cX1_lowerCell 25 = .ok (.istore_n 1, 1) := by decide +kernel
theorem dX1_lowerCell_26 : decode cX1_lowerCell 26 = .ok (.iload_n 1, 1) := by decide +kernel
theorem dX1_lowerCell_27 : decode cX1_lowerCell 27 = .ok (.bipush 9, 2) := by decide +kernel
theorem dX1_lowerCell_29 : decode cX1_lowerCell 29 = .ok (.irem, 1) := by decide +kernel
theorem dX1_lowerCell_30 : decode cX1_lowerCell 30 = .ok (.iconst 1, 1) := by decide +kernel
theorem dX1_lowerCell_31 : decode cX1_lowerCell 31 = .ok (.isub, 1) := by decide +kernel
theorem dX1_lowerCell_32 : decode cX1_lowerCell 32 = .ok (.iload_n 1, 1) := by decide +kernel
theorem dX1_lowerCell_33 : decode cX1_lowerCell 33 = .ok (.bipush 9, 2) := by decide +kernel
theorem dX1_lowerCell_35 : decode cX1_lowerCell 35 = .ok (.idiv, 1) := by decide +kernel
theorem dX1_lowerCell_36 : decode cX1_lowerCell 36 = .ok (.invokestatic 22, 3) := by decide +kernel
theorem dX1_lowerCell_39 : decode cX1_lowerCell 39 = .ok (.lreturn, 1) := by decide +kernel
theorem dX1_cellsAt_0 : decode cX1_cellsAt 0 = .ok (.iload_n 0, 1) := by decide +kernel
theorem dX1_cellsAt_1 : decode cX1_cellsAt 1 = .ok (.invokestatic 26, 3) := by decide +kernel
theorem dX1_cellsAt_4 : decode cX1_cellsAt 4 = .ok (.iload_n 0, 1) := by decide +kernel
theorem dX1_cellsAt_5 : decode cX1_cellsAt 5 = .ok (.invokestatic 30, 3) := by decide +kernel
theorem dX1_cellsAt_8 : decode cX1_cellsAt 8 = .ok (.lor, 1) := by decide +kernel
theorem dX1_cellsAt_9 : decode cX1_cellsAt 9 = .ok (.lreturn, 1) := by decide +kernel
theorem dX2_init_0 : decode cX2_init 0 = .ok (.aload_n 0, 1) := by decide +kernel
theorem dX2_init_1 : decode cX2_init 1 = .ok (.invokespecial 3, 3) := by decide +kernel
theorem dX2_init_4 : decode cX2_init 4 = .ok (.aload_n 0, 1) := by decide +kernel
theorem dX2_init_5 : decode cX2_init 5 = .ok (.ldc2_w 9, 3) := by decide +kernel
theorem dX2_init_8 : decode cX2_init 8 = .ok (.putfield 11, 3) := by decide +kernel
theorem dX2_init_11 : decode cX2_init 11 = .ok (.aload_n 0, 1) := by decide +kernel
theorem dX2_init_12 : decode cX2_init 12 = .ok (.lconst 0, 1) := by decide +kernel
theorem dX2_init_13 : decode cX2_init 13 = .ok (.putfield 17, 3) := by decide +kernel
theorem dX2_init_16 : decode cX2_init 16 = .ok (.aload_n 0, 1) := by decide +kernel
theorem dX2_init_17 : decode cX2_init 17 = .ok (.lconst 0, 1) := by decide +kernel
theorem dX2_init_18 : decode cX2_init 18 = .ok (.putfield 20, 3) := by decide +kernel
theorem dX2_init_21 : decode cX2_init 21 = .ok (.aload_n 0, 1) := by decide +kernel
theorem dX2_init_22 : decode cX2_init 22 = .ok (.sipush 144, 3) := by decide +kernel
theorem dX2_init_25 : decode cX2_init 25 = .ok (.newarray .int, 2) := by decide +kernel
theorem dX2_init_27 : decode cX2_init 27 = .ok (.putfield 23, 3) := by decide +kernel
theorem dX2_init_30 : decode cX2_init 30 = .ok (.aload_n 0, 1) := by decide +kernel
theorem dX2_init_31 : decode cX2_init 31 = .ok (.iconst 3, 1) := by decide +kernel
theorem dX2_init_32 : decode cX2_init 32 = .ok (.newarray .int, 2) := by decide +kernel
theorem dX2_init_34 : decode cX2_init 34 = .ok (.dup, 1) := by decide +kernel
theorem dX2_init_35 : decode cX2_init 35 = .ok (.iconst 0, 1) := by decide +kernel
theorem dX2_init_36 : decode cX2_init 36 = .ok (.iconst 2, 1) := by decide +kernel
theorem dX2_init_37 : decode cX2_init 37 = .ok (.iastore, 1) := by decide +kernel
theorem dX2_init_38 : decode cX2_init 38 = .ok (.dup, 1) := by decide +kernel
theorem dX2_init_39 : decode cX2_init 39 = .ok (.iconst 1, 1) := by decide +kernel
theorem dX2_init_40 : decode cX2_init 40 = .ok (.iconst 3, 1) := by decide +kernel
theorem dX2_init_41 : decode cX2_init 41 = .ok (.iastore, 1) := by decide +kernel
theorem dX2_init_42 : decode cX2_init 42 = .ok (.dup, 1) := by decide +kernel
theorem dX2_init_43 : decode cX2_init 43 = .ok (.iconst 2, 1) := by decide +kernel
theorem dX2_init_44 : decode cX2_init 44 = .ok (.iconst 2, 1) := by decide +kernel
theorem dX2_init_45 : decode cX2_init 45 = .ok (.iastore, 1) := by decide +kernel
theorem dX2_init_46 : decode cX2_init 46 = .ok (.putfield 27, 3) := by decide +kernel
theorem dX2_init_49 : decode cX2_init 49 = .ok (.aload_n 0, 1) := by decide +kernel
theorem dX2_init_50 : decode cX2_init 50 = .ok (.iconst 3, 1) := by decide +kernel
theorem dX2_init_51 : decode cX2_init 51 = .ok (.anewarray 30, 3) := by decide +kernel
theorem dX2_init_54 : decode cX2_init 54 = .ok (.dup, 1) := by decide +kernel
theorem dX2_init_55 : decode cX2_init 55 = .ok (.iconst 0, 1) := by decide +kernel
theorem dX2_init_56 : decode cX2_init 56 = .ok (.new 30, 3) := by decide +kernel
theorem dX2_init_59 : decode cX2_init 59 = .ok (.dup, 1) := by decide +kernel
theorem dX2_init_60 : decode cX2_init 60 = .ok (.iconst 0, 1) := by decide +kernel
theorem dX2_init_61 : decode cX2_init 61 = .ok (.iconst 0, 1) := by decide +kernel
theorem dX2_init_62 : decode cX2_init 62 = .ok (.invokespecial 32, 3) := by decide +kernel
theorem dX2_init_65 : decode cX2_init 65 = .ok (.aastore, 1) := by decide +kernel
theorem dX2_init_66 : decode cX2_init 66 = .ok (.dup, 1) := by decide +kernel
theorem dX2_init_67 : decode cX2_init 67 = .ok (.iconst 1, 1) := by decide +kernel
theorem dX2_init_68 : decode cX2_init 68 = .ok (.new 30, 3) := by decide +kernel
theorem dX2_init_71 : decode cX2_init 71 = .ok (.dup, 1) := by decide +kernel
theorem dX2_init_72 : decode cX2_init 72 = .ok (.bipush 8, 2) := by decide +kernel
theorem dX2_init_74 : decode cX2_init 74 = .ok (.iconst 0, 1) := by decide +kernel
theorem dX2_init_75 : decode cX2_init 75 = .ok (.invokespecial 32, 3) := by decide +kernel
theorem dX2_init_78 : decode cX2_init 78 = .ok (.aastore, 1) := by decide +kernel
theorem dX2_init_79 : decode cX2_init 79 = .ok (.dup, 1) := by decide +kernel
theorem dX2_init_80 : decode cX2_init 80 = .ok (.iconst 2, 1) := by decide +kernel
theorem dX2_init_81 : decode cX2_init 81 = .ok (.new 30, 3) := by decide +kernel
theorem dX2_init_84 : decode cX2_init 84 = .ok (.dup, 1) := by decide +kernel
theorem dX2_init_85 : decode cX2_init 85 = .ok (.iconst 0, 1) := by decide +kernel
theorem dX2_init_86 : decode cX2_init 86 = .ok (.bipush 8, 2) := by decide +kernel
theorem dX2_init_88 : decode cX2_init 88 = .ok (.invokespecial 32, 3) := by decide +kernel
theorem dX2_init_91 : decode cX2_init 91 = .ok (.aastore, 1) := by decide +kernel
theorem dX2_init_92 : decode cX2_init 92 = .ok (.putfield 35, 3) := by decide +kernel
theorem dX2_init_95 : decode cX2_init 95 = .ok (.aload_n 0, 1) := by decide +kernel
theorem dX2_init_96 : decode cX2_init 96 = .ok (.iconst 0, 1) := by decide +kernel
theorem dX2_init_97 : decode cX2_init 97 = .ok (.putfield 39, 3) := by decide +kernel
theorem dX2_init_100 : decode cX2_init 100 = .ok (.aload_n 0, 1) := by decide +kernel
theorem dX2_init_101 : decode cX2_init 101 = .ok (.iconst 0, 1) := by decide +kernel
theorem dX2_init_102 : decode cX2_init 102 = .ok (.putfield 43, 3) := by decide +kernel
theorem dX2_init_105 : decode cX2_init 105 = .ok (.aload_n 0, 1) := by decide +kernel
theorem dX2_init_106 : decode cX2_init 106 = .ok (.iconst 0, 1) := by decide +kernel
theorem dX2_init_107 : decode cX2_init 107 = .ok (.putfield 46, 3) := by decide +kernel
theorem dX2_init_110 : decode cX2_init 110 = .ok (.aload_n 0, 1) := by decide +kernel
theorem dX2_init_111 : decode cX2_init 111 = .ok (.bipush 60, 2) := by decide +kernel
theorem dX2_init_113 : decode cX2_init 113 = .ok (.putfield 49, 3) := by decide +kernel
theorem dX2_init_116 : decode cX2_init 116 = .ok (.return_, 1) := by decide +kernel
theorem dX2_copyFrom_0 : decode cX2_copyFrom 0 = .ok (.aload_n 0, 1) := by decide +kernel
theorem dX2_copyFrom_1 : decode cX2_copyFrom 1 = .ok (.aload_n 1, 1) := by decide +kernel
theorem dX2_copyFrom_2 : decode cX2_copyFrom 2 = .ok (.getfield 11, 3) := by decide +kernel
theorem dX2_copyFrom_5 : decode cX2_copyFrom 5 = .ok (.putfield 11, 3) := by decide +kernel
theorem dX2_copyFrom_8 : decode cX2_copyFrom 8 = .ok (.aload_n 0, 1) := by decide +kernel
theorem dX2_copyFrom_9 : decode cX2_copyFrom 9 = .ok (.aload_n 1, 1) := by decide +kernel
theorem dX2_copyFrom_10 : decode cX2_copyFrom 10 = .ok (.getfield 17, 3) := by decide +kernel
theorem dX2_copyFrom_13 : decode cX2_copyFrom 13 = .ok (.putfield 17, 3) := by decide +kernel
theorem dX2_copyFrom_16 : decode cX2_copyFrom 16 = .ok (.aload_n 0, 1) := by decide +kernel
theorem dX2_copyFrom_17 : decode cX2_copyFrom 17 = .ok (.aload_n 1, 1) := by decide +kernel
theorem dX2_copyFrom_18 : decode cX2_copyFrom 18 = .ok (.getfield 20, 3) := by decide +kernel
theorem dX2_copyFrom_21 : decode cX2_copyFrom 21 = .ok (.putfield 20, 3) := by decide +kernel
theorem dX2_copyFrom_24 : decode cX2_copyFrom 24 = .ok (.aload_n 1, 1) := by decide +kernel
theorem dX2_copyFrom_25 : decode cX2_copyFrom 25 = .ok (.getfield 23, 3) := by decide +kernel
theorem dX2_copyFrom_28 : decode cX2_copyFrom 28 = .ok (.iconst 0, 1) := by decide +kernel
theorem dX2_copyFrom_29 : decode cX2_copyFrom 29 = .ok (.aload_n 0, 1) := by decide +kernel
theorem dX2_copyFrom_30 : decode cX2_copyFrom 30 = .ok (.getfield 23, 3) := by decide +kernel
theorem dX2_copyFrom_33 : decode cX2_copyFrom 33 = .ok (.iconst 0, 1) := by decide +kernel
theorem dX2_copyFrom_34 : decode cX2_copyFrom 34 = .ok (.sipush 144, 3) := by decide +kernel
theorem dX2_copyFrom_37 : decode cX2_copyFrom 37 = .ok (.invokestatic 52, 3) := by decide +kernel
theorem dX2_copyFrom_40 : decode cX2_copyFrom 40 = .ok (.aload_n 1, 1) := by decide +kernel
theorem dX2_copyFrom_41 : decode cX2_copyFrom 41 = .ok (.getfield 27, 3) := by decide +kernel
theorem dX2_copyFrom_44 : decode cX2_copyFrom 44 = .ok (.iconst 0, 1) := by decide +kernel
theorem dX2_copyFrom_45 : decode cX2_copyFrom 45 = .ok (.aload_n 0, 1) := by decide +kernel
theorem dX2_copyFrom_46 : decode cX2_copyFrom 46 = .ok (.getfield 27, 3) := by decide +kernel
theorem dX2_copyFrom_49 : decode cX2_copyFrom 49 = .ok (.iconst 0, 1) := by decide +kernel
theorem dX2_copyFrom_50 : decode cX2_copyFrom 50 = .ok (.iconst 3, 1) := by decide +kernel
theorem dX2_copyFrom_51 : decode cX2_copyFrom 51 = .ok (.invokestatic 52, 3) := by decide +kernel
theorem dX2_copyFrom_54 : decode cX2_copyFrom 54 = .ok (.iconst 0, 1) := by decide +kernel
theorem dX2_copyFrom_55 : decode cX2_copyFrom 55 = .ok (.istore_n 2, 1) := by decide +kernel
theorem dX2_copyFrom_56 : decode cX2_copyFrom 56 = .ok (.iload_n 2, 1) := by decide +kernel
theorem dX2_copyFrom_57 : decode cX2_copyFrom 57 = .ok (.iconst 3, 1) := by decide +kernel
theorem dX2_copyFrom_58 : decode cX2_copyFrom 58 = .ok (.if_icmp .ge 24, 3) := by decide +kernel
theorem dX2_copyFrom_61 : decode cX2_copyFrom 61 = .ok (.aload_n 0, 1) := by decide +kernel
theorem dX2_copyFrom_62 : decode cX2_copyFrom 62 = .ok (.getfield 35, 3) := by decide +kernel
theorem dX2_copyFrom_65 : decode cX2_copyFrom 65 = .ok (.iload_n 2, 1) := by decide +kernel
theorem dX2_copyFrom_66 : decode cX2_copyFrom 66 = .ok (.aaload, 1) := by decide +kernel
theorem dX2_copyFrom_67 : decode cX2_copyFrom 67 = .ok (.aload_n 1, 1) := by decide +kernel
theorem dX2_copyFrom_68 : decode cX2_copyFrom 68 = .ok (.getfield 35, 3) := by decide +kernel
theorem dX2_copyFrom_71 : decode cX2_copyFrom 71 = .ok (.iload_n 2, 1) := by decide +kernel
theorem dX2_copyFrom_72 : decode cX2_copyFrom 72 = .ok (.aaload, 1) := by decide +kernel
theorem dX2_copyFrom_73 : decode cX2_copyFrom 73 = .ok (.invokevirtual 58, 3) := by decide +kernel
theorem dX2_copyFrom_76 : decode cX2_copyFrom 76 = .ok (.iinc 2 1, 3) := by decide +kernel
theorem dX2_copyFrom_79 : decode cX2_copyFrom 79 = .ok (.goto (-23), 3) := by decide +kernel
theorem dX2_copyFrom_82 : decode cX2_copyFrom 82 = .ok (.aload_n 0, 1) := by decide +kernel
theorem dX2_copyFrom_83 : decode cX2_copyFrom 83 = .ok (.aload_n 1, 1) := by decide +kernel
theorem dX2_copyFrom_84 : decode cX2_copyFrom 84 = .ok (.getfield 39, 3) := by decide +kernel
theorem dX2_copyFrom_87 : decode cX2_copyFrom 87 = .ok (.putfield 39, 3) := by decide +kernel
theorem dX2_copyFrom_90 : decode cX2_copyFrom 90 = .ok (.aload_n 0, 1) := by decide +kernel
theorem dX2_copyFrom_91 : decode cX2_copyFrom 91 = .ok (.aload_n 1, 1) := by decide +kernel
theorem dX2_copyFrom_92 : decode cX2_copyFrom 92 = .ok (.getfield 43, 3) := by decide +kernel
theorem dX2_copyFrom_95 : decode cX2_copyFrom 95 = .ok (.putfield 43, 3) := by decide +kernel
theorem dX2_copyFrom_98 : decode cX2_copyFrom 98 = .ok (.aload_n 0, 1) := by decide +kernel
theorem dX2_copyFrom_99 : decode cX2_copyFrom 99 = .ok (.aload_n 1, 1) := by decide +kernel
theorem dX2_copyFrom_100 : decode cX2_copyFrom 100 = .ok (.getfield 46, 3) := by decide +kernel
theorem dX2_copyFrom_103 : decode cX2_copyFrom 103 = .ok (.putfield 46, 3) := by decide +kernel
theorem dX2_copyFrom_106 : decode cX2_copyFrom 106 = .ok (.aload_n 0, 1) := by decide +kernel
theorem dX2_copyFrom_107 : decode cX2_copyFrom 107 = .ok (.aload_n 1, 1) := by decide +kernel
theorem dX2_copyFrom_108 : decode cX2_copyFrom 108 = .ok (.getfield 49, 3) := by decide +kernel
theorem dX2_copyFrom_111 : decode cX2_copyFrom 111 = .ok (.putfield 49, 3) := by decide +kernel
theorem dX2_copyFrom_114 : decode cX2_copyFrom 114 = .ok (.return_, 1) := by decide +kernel
theorem dX2_makeSteps_0 : decode cX2_makeSteps 0 = .ok (.iconst 0, 1) := by decide +kernel
theorem dX2_makeSteps_1 : decode cX2_makeSteps 1 = .ok (.istore 4, 2) := by decide +kernel
theorem dX2_makeSteps_3 : decode cX2_makeSteps 3 = .ok (.iload 4, 2) := by decide +kernel
theorem dX2_makeSteps_5 : decode cX2_makeSteps 5 = .ok (.iload_n 3, 1) := by decide +kernel
theorem dX2_makeSteps_6 : decode cX2_makeSteps 6 = .ok (.if_icmp .ge 24, 3) := by decide +kernel
theorem dX2_makeSteps_9 : decode cX2_makeSteps 9 = .ok (.aload_n 0, 1) := by decide +kernel
theorem dX2_makeSteps_10 : decode cX2_makeSteps 10 = .ok (.iload_n 1, 1) := by decide +kernel
theorem dX2_makeSteps_11 : decode cX2_makeSteps 11 = .ok (.iload_n 2, 1) := by decide +kernel
theorem dX2_makeSteps_12 : decode cX2_makeSteps 12 = .ok (.invokevirtual 62, 3) := by decide +kernel
theorem dX2_makeSteps_15 : decode cX2_makeSteps 15 = .ok (.ifCond .ne 15, 3) := by decide +kernel
theorem dX2_makeSteps_18 : decode cX2_makeSteps 18 = .ok (.aload_n 0, 1) := by decide +kernel
theorem dX2_makeSteps_19 : decode cX2_makeSteps 19 = .ok (.iload_n 1, 1) := by decide +kernel
theorem dX2_makeSteps_20 : decode cX2_makeSteps 20 = .ok (.iload_n 2, 1) := by decide +kernel
theorem dX2_makeSteps_21 : decode cX2_makeSteps 21 = .ok (.invokevirtual 66, 3) := by decide +kernel
theorem dX2_makeSteps_24 : decode cX2_makeSteps 24 = .ok (.iinc 4 1, 3) := by decide +kernel
theorem dX2_makeSteps_27 : decode cX2_makeSteps 27 = .ok (.goto (-24), 3) := by decide +kernel
theorem dX2_makeSteps_30 : decode cX2_makeSteps 30 = .ok (.iload 4, 2) := by decide +kernel
theorem dX2_makeSteps_32 : decode cX2_makeSteps 32 = .ok (.ireturn, 1) := by decide +kernel
theorem dX2_reasonAgainst_0 : decode cX2_reasonAgainst 0 = .ok (.aload_n 0, 1) := by decide +kernel
theorem dX2_reasonAgainst_1 : decode cX2_reasonAgainst 1 = .ok (.getfield 35, 3) := by decide +kernel
theorem dX2_reasonAgainst_4 : decode cX2_reasonAgainst 4 = .ok (.iload_n 1, 1) := by decide +kernel
theorem dX2_reasonAgainst_5 : decode cX2_reasonAgainst 5 = .ok (.aaload, 1) := by decide +kernel
theorem dX2_reasonAgainst_6 : decode cX2_reasonAgainst 6 = .ok (.astore_n 3, 1) := by decide +kernel
theorem dX2_reasonAgainst_7 : decode cX2_reasonAgainst 7 = .ok (.aload_n 3, 1) := by decide +kernel
theorem dX2_reasonAgainst_8 : decode cX2_reasonAgainst 8 = .ok (.getfield 69, 3) := by decide +kernel
theorem dX2_reasonAgainst_11 : decode cX2_reasonAgainst 11 = .ok (.aload_n 3, 1) := by decide +kernel
theorem dX2_reasonAgainst_12 : decode cX2_reasonAgainst 12 = .ok (.getfield 72, 3) := by decide +kernel
theorem dX2_reasonAgainst_15 : decode cX2_reasonAgainst 15 = .ok (.iload_n 2, 1) := by decide +kernel
theorem dX2_reasonAgainst_16 : decode cX2_reasonAgainst 16 = .ok (.invokestatic 75, 3) := by decide +kernel
theorem dX2_reasonAgainst_19 : decode cX2_reasonAgainst 19 = .ok (.istore 4, 2) := by decide +kernel
theorem dX2_reasonAgainst_21 : decode cX2_reasonAgainst 21 = .ok (.iload 4, 2) := by decide +kernel
theorem dX2_reasonAgainst_23 : decode cX2_reasonAgainst 23 = .ok (.iconst (-1), 1) := by decide +kernel
theorem dX2_reasonAgainst_24 : decode cX2_reasonAgainst 24 = .ok (.if_icmp .ne 5, 3) := by decide +kernel
theorem dX2_reasonAgainst_27 : decode cX2_reasonAgainst 27 = .ok (.iconst 1, 1) := by decide +kernel
theorem dX2_reasonAgainst_28 : decode cX2_reasonAgainst 28 = .ok (.ireturn, 1) := by decide +kernel
theorem dX2_reasonAgainst_29 : decode cX2_reasonAgainst 29 = .ok (.aload_n 0, 1) := by decide +kernel
theorem dX2_reasonAgainst_30 : decode cX2_reasonAgainst 30 = .ok (.aload_n 3, 1) := by decide +kernel
theorem dX2_reasonAgainst_31 : decode cX2_reasonAgainst 31 = .ok (.iload_n 2, 1) := by decide +kernel
theorem dX2_reasonAgainst_32 : decode cX2_reasonAgainst 32 = .ok (.invokevirtual 81, 3) := by decide +kernel
theorem dX2_reasonAgainst_35 : decode cX2_reasonAgainst 35 = .ok (.aload_n 3, 1) := by decide +kernel
theorem dX2_reasonAgainst_36 : decode cX2_reasonAgainst 36 = .ok (.iload_n 2, 1) := by decide +kernel
theorem dX2_reasonAgainst_37 : decode cX2_reasonAgainst 37 = .ok (.invokevirtual 85, 3) := by decide +kernel
theorem dX2_reasonAgainst_40 : decode cX2_reasonAgainst 40 = .ok (.invokevirtual 88, 3) := by decide +kernel
theorem dX2_reasonAgainst_43 : decode cX2_reasonAgainst 43 = .ok (.ifCond .eq 5, 3) := by decide +kernel
theorem dX2_reasonAgainst_46 : decode cX2_reasonAgainst 46 = .ok (.iconst 2, 1) := by decide +kernel
theorem dX2_reasonAgainst_47 : decode cX2_reasonAgainst 47 = .ok (.ireturn, 1) := by decide +kernel
theorem dX2_reasonAgainst_48 : decode cX2_reasonAgainst 48 = .ok (.iload 4, 2) := by decide +kernel
theorem dX2_reasonAgainst_50 : decode cX2_reasonAgainst 50 = .ok (.invokestatic 92, 3) := by decide +kernel
theorem dX2_reasonAgainst_53 : decode cX2_reasonAgainst 53 = .ok (.lstore 5, 2) := by decide +kernel
theorem dX2_reasonAgainst_55 : decode cX2_reasonAgainst 55 = .ok (.lload 5, 2) := by decide +kernel
theorem dX2_reasonAgainst_57 : decode cX2_reasonAgainst 57 = .ok (.aload_n 0, 1) := by decide +kernel
theorem dX2_reasonAgainst_58 : decode cX2_reasonAgainst 58 = .ok (.getfield 11, 3) := by decide +kernel
theorem dX2_reasonAgainst_61 : decode cX2_reasonAgainst 61 = .ok (.land, 1) := by decide +kernel
theorem dX2_reasonAgainst_62 : decode cX2_reasonAgainst 62 = .ok (.lconst 0, 1) := by decide +kernel
theorem dX2_reasonAgainst_63 : decode cX2_reasonAgainst 63 = .ok (.lcmp, 1) := by decide +kernel
theorem dX2_reasonAgainst_64 : decode cX2_reasonAgainst 64 = .ok (.ifCond .ne 5, 3) := by decide +kernel
theorem dX2_reasonAgainst_67 : decode cX2_reasonAgainst 67 = .ok (.iconst 3, 1) := by decide +kernel
theorem dX2_reasonAgainst_68 : decode cX2_reasonAgainst 68 = .ok (.ireturn, 1) := by decide +kernel
theorem dX2_reasonAgainst_69 : decode cX2_reasonAgainst 69 = .ok (.aload_n 0, 1) := by decide +kernel
theorem dX2_reasonAgainst_70 : decode cX2_reasonAgainst 70 = .ok (.iload_n 1, 1) := by decide +kernel
theorem dX2_reasonAgainst_71 : decode cX2_reasonAgainst 71 = .ok (.lload 5, 2) := by decide +kernel
theorem dX2_reasonAgainst_73 : decode cX2_reasonAgainst 73 = .ok (.invokevirtual 96, 3) := by decide +kernel
theorem dX2_reasonAgainst_76 : decode cX2_reasonAgainst 76 = .ok (.iconst (-1), 1) := by decide +kernel
theorem dX2_reasonAgainst_77 : decode cX2_reasonAgainst 77 = .ok (.if_icmp .eq 7, 3) := by decide +kernel
theorem dX2_reasonAgainst_80 : decode cX2_reasonAgainst 80 = .ok (.iconst 1, 1) := by decide +kernel
theorem dX2_reasonAgainst_81 : decode cX2_reasonAgainst 81 = .ok (.goto 4, 3) := by decide +kernel
theorem dX2_reasonAgainst_84 : decode cX2_reasonAgainst 84 = .ok (.iconst 0, 1) := by decide +kernel
theorem dX2_reasonAgainst_85 : decode cX2_reasonAgainst 85 = .ok (.istore 7, 2) := by decide +kernel
theorem dX2_reasonAgainst_87 : decode cX2_reasonAgainst 87 = .ok (.iload 7, 2) := by decide +kernel
theorem dX2_reasonAgainst_89 : decode cX2_reasonAgainst 89 = .ok (.ifCond .eq 20, 3) := by decide +kernel
theorem dX2_reasonAgainst_92 : decode cX2_reasonAgainst 92 = .ok (.aload_n 3, 1) := by decide +kernel
theorem dX2_reasonAgainst_93 : decode cX2_reasonAgainst 93 = .ok (.getfield 100, 3) := by decide +kernel
theorem dX2_reasonAgainst_96 : decode cX2_reasonAgainst 96 = .ok (.aload_n 0, 1) := by decide +kernel
theorem dX2_reasonAgainst_97 : decode cX2_reasonAgainst 97 = .ok (.getfield 27, 3) := by decide +kernel
theorem dX2_reasonAgainst_100 : decode cX2_reasonAgainst 100 = .ok (.iconst 0, 1) := by decide +kernel
theorem dX2_reasonAgainst_101 : decode cX2_reasonAgainst 101 = .ok (.iaload, 1) := by decide +kernel
theorem dX2_reasonAgainst_102 : decode cX2_reasonAgainst 102 = .ok (.if_icmp .ge 7, 3) := by decide +kernel
theorem dX2_reasonAgainst_105 : decode cX2_reasonAgainst 105 = .ok (.iconst 4, 1) := by decide +kernel
theorem dX2_reasonAgainst_106 : decode cX2_reasonAgainst 106 = .ok (.goto 4, 3) := by decide +kernel
theorem dX2_reasonAgainst_109 : decode cX2_reasonAgainst 109 = .ok (.iconst 0, 1) := by decide +kernel
theorem dX2_reasonAgainst_110 : decode cX2_reasonAgainst 110 = .ok (.ireturn, 1) := by decide +kernel
theorem dX2_makeStep_0 : decode cX2_makeStep 0 = .ok (.aload_n 0, 1) := by decide +kernel
theorem dX2_makeStep_1 : decode cX2_makeStep 1 = .ok (.getfield 35, 3) := by decide +kernel
theorem dX2_makeStep_4 : decode cX2_makeStep 4 = .ok (.iload_n 1, 1) := by decide +kernel
theorem dX2_makeStep_5 : decode cX2_makeStep 5 = .ok (.aaload, 1) := by decide +kernel
theorem dX2_makeStep_6 : decode cX2_makeStep 6 = .ok (.astore_n 3, 1) := by decide +kernel
theorem dX2_makeStep_7 : decode cX2_makeStep 7 = .ok (.aload_n 3, 1) := by decide +kernel
theorem dX2_makeStep_8 : decode cX2_makeStep 8 = .ok (.getfield 69, 3) := by decide +kernel
theorem dX2_makeStep_11 : decode cX2_makeStep 11 = .ok (.aload_n 3, 1) := by decide +kernel
theorem dX2_makeStep_12 : decode cX2_makeStep 12 = .ok (.getfield 72, 3) := by decide +kernel
theorem dX2_makeStep_15 : decode cX2_makeStep 15 = .ok (.iload_n 2, 1) := by decide +kernel
theorem dX2_makeStep_16 : decode cX2_makeStep 16 = .ok (.invokestatic 75, 3) := by decide +kernel
theorem dX2_makeStep_19 : decode cX2_makeStep 19 = .ok (.istore 4, 2) := by decide +kernel
theorem dX2_makeStep_21 : decode cX2_makeStep 21 = .ok (.iload 4, 2) := by decide +kernel
theorem dX2_makeStep_23 : decode cX2_makeStep 23 = .ok (.iconst (-1), 1) := by decide +kernel
theorem dX2_makeStep_24 : decode cX2_makeStep 24 = .ok (.if_icmp .ne 4, 3) := by decide +kernel
theorem dX2_makeStep_27 : decode cX2_makeStep 27 = .ok (.return_, 1) := by decide +kernel
theorem dX2_makeStep_28 : decode cX2_makeStep 28 = .ok (.iload 4, 2) := by decide +kernel
theorem dX2_makeStep_30 : decode cX2_makeStep 30 = .ok (.invokestatic 92, 3) := by decide +kernel
theorem dX2_makeStep_33 : decode cX2_makeStep 33 = .ok (.aload_n 0, 1) := by decide +kernel
theorem dX2_makeStep_34 : decode cX2_makeStep 34 = .ok (.getfield 11, 3) := by decide +kernel
theorem dX2_makeStep_37 : decode cX2_makeStep 37 = .ok (.land, 1) := by decide +kernel
theorem dX2_makeStep_38 : decode cX2_makeStep 38 = .ok (.lstore 5, 2) := by decide +kernel
theorem dX2_makeStep_40 : decode cX2_makeStep 40 = .ok (.aload_n 0, 1) := by decide +kernel
theorem dX2_makeStep_41 : decode cX2_makeStep 41 = .ok (.aload_n 3, 1) := by decide +kernel
theorem dX2_makeStep_42 : decode cX2_makeStep 42 = .ok (.aload_n 0, 1) := by decide +kernel
theorem dX2_makeStep_43 : decode cX2_makeStep 43 = .ok (.iload_n 1, 1) := by decide +kernel
theorem dX2_makeStep_44 : decode cX2_makeStep 44 = .ok (.lload 5, 2) := by decide +kernel
theorem dX2_makeStep_46 : decode cX2_makeStep 46 = .ok (.invokevirtual 96, 3) := by decide +kernel
theorem dX2_makeStep_49 : decode cX2_makeStep 49 = .ok (.invokevirtual 103, 3) := by decide +kernel
theorem dX2_makeStep_52 : decode cX2_makeStep 52 = .ok (.aload_n 3, 1) := by decide +kernel
theorem dX2_makeStep_53 : decode cX2_makeStep 53 = .ok (.iload_n 2, 1) := by decide +kernel
theorem dX2_makeStep_54 : decode cX2_makeStep 54 = .ok (.invokevirtual 107, 3) := by decide +kernel
theorem dX2_makeStep_57 : decode cX2_makeStep 57 = .ok (.aload_n 0, 1) := by decide +kernel
theorem dX2_makeStep_58 : decode cX2_makeStep 58 = .ok (.getfield 23, 3) := by decide +kernel
theorem dX2_makeStep_61 : decode cX2_makeStep 61 = .ok (.iload 4, 2) := by decide +kernel
theorem dX2_makeStep_63 : decode cX2_makeStep 63 = .ok (.dup2, 1) := by decide +kernel
theorem dX2_makeStep_64 : decode cX2_makeStep 64 = .ok (.iaload, 1) := by decide +kernel
theorem dX2_makeStep_65 : decode cX2_makeStep 65 = .ok (.iconst 1, 1) := by decide +kernel
theorem dX2_makeStep_66 : decode cX2_makeStep 66 = .ok (.iadd, 1) := by decide +kernel
theorem dX2_makeStep_67 : decode cX2_makeStep 67 = .ok (.iastore, 1) := by decide +kernel
theorem dX2_makeStep_68 : decode cX2_makeStep 68 = .ok (.aload_n 0, 1) := by decide +kernel
theorem dX2_makeStep_69 : decode cX2_makeStep 69 = .ok (.getfield 23, 3) := by decide +kernel
theorem dX2_makeStep_72 : decode cX2_makeStep 72 = .ok (.iload 4, 2) := by decide +kernel
theorem dX2_makeStep_74 : decode cX2_makeStep 74 = .ok (.iaload, 1) := by decide +kernel
theorem dX2_makeStep_75 : decode cX2_makeStep 75 = .ok (.aload_n 0, 1) := by decide +kernel
theorem dX2_makeStep_76 : decode cX2_makeStep 76 = .ok (.getfield 27, 3) := by decide +kernel
theorem dX2_makeStep_79 : decode cX2_makeStep 79 = .ok (.iconst 1, 1) := by decide +kernel
theorem dX2_makeStep_80 : decode cX2_makeStep 80 = .ok (.iaload, 1) := by decide +kernel
theorem dX2_makeStep_81 : decode cX2_makeStep 81 = .ok (.if_icmp .le 22, 3) := by decide +kernel
theorem dX2_makeStep_84 : decode cX2_makeStep 84 = .ok (.aload_n 0, 1) := by decide +kernel
theorem dX2_makeStep_85 : decode cX2_makeStep 85 = .ok (.dup, 1) := by decide +kernel
theorem dX2_makeStep_86 : decode cX2_makeStep 86 = .ok (.getfield 39, 3) := by decide +kernel
theorem dX2_makeStep_89 : decode cX2_makeStep 89 = .ok (.iconst 1, 1) := by decide +kernel
theorem dX2_makeStep_90 : decode cX2_makeStep 90 = .ok (.iadd, 1) := by decide +kernel
theorem dX2_makeStep_91 : decode cX2_makeStep 91 = .ok (.putfield 39, 3) := by decide +kernel
theorem dX2_makeStep_94 : decode cX2_makeStep 94 = .ok (.aload_n 0, 1) := by decide +kernel
theorem dX2_makeStep_95 : decode cX2_makeStep 95 = .ok (.lload 5, 2) := by decide +kernel
theorem dX2_makeStep_97 : decode cX2_makeStep 97 = .ok (.invokevirtual 111, 3) := by decide +kernel
theorem dX2_makeStep_100 : decode cX2_makeStep 100 = .ok (.goto 34, 3) := by decide +kernel
theorem dX2_makeStep_103 : decode cX2_makeStep 103 = .ok (.lload 5, 2) := by decide +kernel
theorem dX2_makeStep_105 : decode cX2_makeStep 105 = .ok (.invokestatic 115, 3) := by decide +kernel
theorem dX2_makeStep_108 : decode cX2_makeStep 108 = .ok (.iconst 2, 1) := by decide +kernel
theorem dX2_makeStep_109 : decode cX2_makeStep 109 = .ok (.if_icmp .ne 25, 3) := by decide +kernel
theorem dX2_makeStep_112 : decode cX2_makeStep 112 = .ok (.aload_n 0, 1) := by decide +kernel
theorem dX2_makeStep_113 : decode cX2_makeStep 113 = .ok (.iload 4, 2) := by decide +kernel
theorem dX2_makeStep_115 : decode cX2_makeStep 115 = .ok (.invokevirtual 121, 3) := by decide +kernel
theorem dX2_makeStep_118 : decode cX2_makeStep 118 = .ok (.ifCond .ne 16, 3) := by decide +kernel
theorem dX2_makeStep_121 : decode cX2_makeStep 121 = .ok (.aload_n 0, 1) := by decide +kernel
theorem dX2_makeStep_122 : decode cX2_makeStep 122 = .ok (.iload 4, 2) := by decide +kernel
theorem dX2_makeStep_124 : decode cX2_makeStep 124 = .ok (.invokevirtual 125, 3) := by decide +kernel
theorem dX2_makeStep_127 : decode cX2_makeStep 127 = .ok (.aload_n 0, 1) := by decide +kernel
theorem dX2_makeStep_128 : decode cX2_makeStep 128 = .ok (.aload_n 3, 1) := by decide +kernel
theorem dX2_makeStep_129 : decode cX2_makeStep 129 = .ok (.iload 4, 2) := by decide +kernel
theorem dX2_makeStep_131 : decode cX2_makeStep 131 = .ok (.invokevirtual 128, 3) := by decide +kernel
theorem dX2_makeStep_134 : decode cX2_makeStep 134 = .ok (.return_, 1) := by decide +kernel
theorem dX2_isTaken_0 : decode cX2_isTaken 0 = .ok (.iconst 0, 1) := by decide +kernel
theorem dX2_isTaken_1 : decode cX2_isTaken 1 = .ok (.istore_n 3, 1) := by decide +kernel
theorem dX2_isTaken_2 : decode cX2_isTaken 2 = .ok (.iload_n 3, 1) := by decide +kernel
theorem dX2_isTaken_3 : decode cX2_isTaken 3 = .ok (.iconst 3, 1) := by decide +kernel
theorem dX2_isTaken_4 : decode cX2_isTaken 4 = .ok (.if_icmp .ge 37, 3) := by decide +kernel
theorem dX2_isTaken_7 : decode cX2_isTaken 7 = .ok (.aload_n 0, 1) := by decide +kernel
theorem dX2_isTaken_8 : decode cX2_isTaken 8 = .ok (.getfield 35, 3) := by decide +kernel
theorem dX2_isTaken_11 : decode cX2_isTaken 11 = .ok (.iload_n 3, 1) := by decide +kernel
theorem dX2_isTaken_12 : decode cX2_isTaken 12 = .ok (.aaload, 1) := by decide +kernel
theorem dX2_isTaken_13 : decode cX2_isTaken 13 = .ok (.getfield 69, 3) := by decide +kernel
theorem dX2_isTaken_16 : decode cX2_isTaken 16 = .ok (.iload_n 1, 1) := by decide +kernel
theorem dX2_isTaken_17 : decode cX2_isTaken 17 = .ok (.if_icmp .ne 18, 3) := by decide +kernel
theorem dX2_isTaken_20 : decode cX2_isTaken 20 = .ok (.aload_n 0, 1) := by decide +kernel
theorem dX2_isTaken_21 : decode cX2_isTaken 21 = .ok (.getfield 35, 3) := by decide +kernel
theorem dX2_isTaken_24 : decode cX2_isTaken 24 = .ok (.iload_n 3, 1) := by decide +kernel
theorem dX2_isTaken_25 : decode cX2_isTaken 25 = .ok (.aaload, 1) := by decide +kernel
theorem dX2_isTaken_26 : decode cX2_isTaken 26 = .ok (.getfield 72, 3) := by decide +kernel
theorem dX2_isTaken_29 : decode cX2_isTaken 29 = .ok (.iload_n 2, 1) := by decide +kernel
theorem dX2_isTaken_30 : decode cX2_isTaken 30 = .ok (.if_icmp .ne 5, 3) := by decide +kernel
theorem dX2_isTaken_33 : decode cX2_isTaken 33 = .ok (.iconst 1, 1) := by decide +kernel
theorem dX2_isTaken_34 : decode cX2_isTaken 34 = .ok (.ireturn, 1) := by decide +kernel
theorem dX2_isTaken_35 : decode cX2_isTaken 35 = .ok (.iinc 3 1, 3) := by decide +kernel
theorem dX2_isTaken_38 : decode cX2_isTaken 38 = .ok (.goto (-36), 3) := by decide +kernel
theorem dX2_isTaken_41 : decode cX2_isTaken 41 = .ok (.iconst 0, 1) := by decide +kernel
theorem dX2_isTaken_42 : decode cX2_isTaken 42 = .ok (.ireturn, 1) := by decide +kernel
theorem dX2_tollTaker_0 : decode cX2_tollTaker 0 = .ok (.lload_n 2, 1) := by decide +kernel
theorem dX2_tollTaker_1 : decode cX2_tollTaker 1 = .ok (.invokestatic 115, 3) := by decide +kernel
theorem dX2_tollTaker_4 : decode cX2_tollTaker 4 = .ok (.iconst 2, 1) := by decide +kernel
theorem dX2_tollTaker_5 : decode cX2_tollTaker 5 = .ok (.if_icmp .eq 5, 3) := by decide +kernel
theorem dX2_tollTaker_8 : decode cX2_tollTaker 8 = .ok (.iconst (-1), 1) := by decide +kernel
theorem dX2_tollTaker_9 : decode cX2_tollTaker 9 = .ok (.ireturn, 1) := by decide +kernel
theorem dX2_tollTaker_10 : decode cX2_tollTaker 10 = .ok (.iconst 0, 1) := by decide +kernel
theorem dX2_tollTaker_11 : decode cX2_tollTaker 11 = .ok (.istore 4, 2) := by decide +kernel
theorem dX2_tollTaker_13 : decode cX2_tollTaker 13 = .ok (.iload 4, 2) := by decide +kernel
theorem dX2_tollTaker_15 : decode cX2_tollTaker 15 = .ok (.iconst 3, 1) := by decide +kernel
theorem dX2_tollTaker_16 : decode cX2_tollTaker 16 = .ok (.if_icmp .ge 35, 3) := by decide +kernel
theorem dX2_tollTaker_19 : decode cX2_tollTaker 19 = .ok (.iload 4, 2) := by decide +kernel
theorem dX2_tollTaker_21 : decode cX2_tollTaker 21 = .ok (.iload_n 1, 1) := by decide +kernel
theorem dX2_tollTaker_22 : decode cX2_tollTaker 22 = .ok (.if_icmp .eq 23, 3) := by decide +kernel
theorem dX2_tollTaker_25 : decode cX2_tollTaker 25 = .ok (.aload_n 0, 1) := by decide +kernel
theorem dX2_tollTaker_26 : decode cX2_tollTaker 26 = .ok (.getfield 35, 3) := by decide +kernel
theorem dX2_tollTaker_29 : decode cX2_tollTaker 29 = .ok (.iload 4, 2) := by decide +kernel
theorem dX2_tollTaker_31 : decode cX2_tollTaker 31 = .ok (.aaload, 1) := by decide +kernel
theorem dX2_tollTaker_32 : decode cX2_tollTaker 32 = .ok (.getfield 131, 3) := by decide +kernel
theorem dX2_tollTaker_35 : decode cX2_tollTaker 35 = .ok (.lload_n 2, 1) := by decide +kernel
theorem dX2_tollTaker_36 : decode cX2_tollTaker 36 = .ok (.land, 1) := by decide +kernel
theorem dX2_tollTaker_37 : decode cX2_tollTaker 37 = .ok (.lload_n 2, 1) := by decide +kernel
theorem dX2_tollTaker_38 : decode cX2_tollTaker 38 = .ok (.lcmp, 1) := by decide +kernel
theorem dX2_tollTaker_39 : decode cX2_tollTaker 39 = .ok (.ifCond .ne 6, 3) := by decide +kernel
theorem dX2_tollTaker_42 : decode cX2_tollTaker 42 = .ok (.iload 4, 2) := by decide +kernel
theorem dX2_tollTaker_44 : decode cX2_tollTaker 44 = .ok (.ireturn, 1) := by decide +kernel
theorem dX2_tollTaker_45 : decode cX2_tollTaker 45 = .ok (.iinc 4 1, 3) := by decide +kernel
theorem dX2_tollTaker_48 : decode cX2_tollTaker 48 = .ok (.goto (-35), 3) := by decide +kernel
theorem dX2_tollTaker_51 : decode cX2_tollTaker 51 = .ok (.iconst (-1), 1) := by decide +kernel
theorem dX2_tollTaker_52 : decode cX2_tollTaker 52 = .ok (.ireturn, 1) := by decide +kernel
theorem dX2_payToll_0 : decode cX2_payToll 0 = .ok (.iload_n 2, 1) := by decide +kernel
theorem dX2_payToll_1 : decode cX2_payToll 1 = .ok (.iconst (-1), 1) := by decide +kernel
theorem dX2_payToll_2 : decode cX2_payToll 2 = .ok (.if_icmp .ne 4, 3) := by decide +kernel
theorem dX2_payToll_5 : decode cX2_payToll 5 = .ok (.return_, 1) := by decide +kernel
theorem dX2_payToll_6 : decode cX2_payToll 6 = .ok (.aload_n 0, 1) := by decide +kernel
theorem dX2_payToll_7 : decode cX2_payToll 7 = .ok (.getfield 27, 3) := by decide +kernel
theorem dX2_payToll_10 : decode cX2_payToll 10 = .ok (.iconst 0, 1) := by decide +kernel
theorem dX2_payToll_11 : decode cX2_payToll 11 = .ok (.iaload, 1) := by decide +kernel
theorem dX2_payToll_12 : decode cX2_payToll 12 = .ok (.istore_n 3, 1) := by decide +kernel
theorem dX2_payToll_13 : decode cX2_payToll 13 = .ok (.aload_n 1, 1) := by decide +kernel
theorem dX2_payToll_14 : decode cX2_payToll 14 = .ok (.dup, 1) := by decide +kernel
theorem dX2_payToll_15 : decode cX2_payToll 15 = .ok (.getfield 100, 3) := by decide +kernel
theorem dX2_payToll_18 : decode cX2_payToll 18 = .ok (.iload_n 3, 1) := by decide +kernel
theorem dX2_payToll_19 : decode cX2_payToll 19 = .ok (.isub, 1) := by decide +kernel
theorem dX2_payToll_20 : decode cX2_payToll 20 = .ok (.putfield 100, 3) := by decide +kernel
theorem dX2_payToll_23 : decode cX2_payToll 23 = .ok (.aload_n 1, 1) := by decide +kernel
theorem dX2_payToll_24 : decode cX2_payToll 24 = .ok (.dup, 1) := by decide +kernel
theorem dX2_payToll_25 : decode cX2_payToll 25 = .ok (.getfield 134, 3) := by decide +kernel
theorem dX2_payToll_28 : decode cX2_payToll 28 = .ok (.iload_n 3, 1) := by decide +kernel
theorem dX2_payToll_29 : decode cX2_payToll 29 = .ok (.iadd, 1) := by decide +kernel
theorem dX2_payToll_30 : decode cX2_payToll 30 = .ok (.putfield 134, 3) := by decide +kernel
theorem dX2_payToll_33 : decode cX2_payToll 33 = .ok (.aload_n 0, 1) := by decide +kernel
theorem dX2_payToll_34 : decode cX2_payToll 34 = .ok (.getfield 35, 3) := by decide +kernel
theorem dX2_payToll_37 : decode cX2_payToll 37 = .ok (.iload_n 2, 1) := by decide +kernel
theorem dX2_payToll_38 : decode cX2_payToll 38 = .ok (.aaload, 1) := by decide +kernel
theorem dX2_payToll_39 : decode cX2_payToll 39 = .ok (.dup, 1) := by decide +kernel
theorem dX2_payToll_40 : decode cX2_payToll 40 = .ok (.getfield 100, 3) := by decide +kernel
theorem dX2_payToll_43 : decode cX2_payToll 43 = .ok (.iload_n 3, 1) := by decide +kernel
theorem dX2_payToll_44 : decode cX2_payToll 44 = .ok (.iadd, 1) := by decide +kernel
theorem dX2_payToll_45 : decode cX2_payToll 45 = .ok (.putfield 100, 3) := by decide +kernel
theorem dX2_payToll_48 : decode cX2_payToll 48 = .ok (.aload_n 0, 1) := by decide +kernel
theorem dX2_payToll_49 : decode cX2_payToll 49 = .ok (.getfield 35, 3) := by decide +kernel
theorem dX2_payToll_52 : decode cX2_payToll 52 = .ok (.iload_n 2, 1) := by decide +kernel
theorem dX2_payToll_53 : decode cX2_payToll 53 = .ok (.aaload, 1) := by decide +kernel
theorem dX2_payToll_54 : decode cX2_payToll 54 = .ok (.dup, 1) := by decide +kernel
theorem dX2_payToll_55 : decode cX2_payToll 55 = .ok (.getfield 137, 3) := by decide +kernel
theorem dX2_payToll_58 : decode cX2_payToll 58 = .ok (.iload_n 3, 1) := by decide +kernel
theorem dX2_payToll_59 : decode cX2_payToll 59 = .ok (.iadd, 1) := by decide +kernel
theorem dX2_payToll_60 : decode cX2_payToll 60 = .ok (.putfield 137, 3) := by decide +kernel
theorem dX2_payToll_63 : decode cX2_payToll 63 = .ok (.return_, 1) := by decide +kernel
theorem dX2_isCut_0 : decode cX2_isCut 0 = .ok (.iload_n 1, 1) := by decide +kernel
theorem dX2_isCut_1 : decode cX2_isCut 1 = .ok (.invokestatic 140, 3) := by decide +kernel
theorem dX2_isCut_4 : decode cX2_isCut 4 = .ok (.ifCond .eq 10, 3) := by decide +kernel
theorem dX2_isCut_7 : decode cX2_isCut 7 = .ok (.aload_n 0, 1) := by decide +kernel
theorem dX2_isCut_8 : decode cX2_isCut 8 = .ok (.getfield 17, 3) := by decide +kernel
theorem dX2_isCut_11 : decode cX2_isCut 11 = .ok (.goto 7, 3) := by decide +kernel
theorem dX2_isCut_14 : decode cX2_isCut 14 = .ok (.aload_n 0, 1) := by decide +kernel
theorem dX2_isCut_15 : decode cX2_isCut 15 = .ok (.getfield 20, 3) := by decide +kernel
theorem dX2_isCut_18 : decode cX2_isCut 18 = .ok (.lstore_n 2, 1) := by decide +kernel
theorem dX2_isCut_19 : decode cX2_isCut 19 = .ok (.lload_n 2, 1) := by decide +kernel
theorem dX2_isCut_20 : decode cX2_isCut 20 = .ok (.iload_n 1, 1) := by decide +kernel
theorem dX2_isCut_21 : decode cX2_isCut 21 = .ok (.invokestatic 143, 3) := by decide +kernel
theorem dX2_isCut_24 : decode cX2_isCut 24 = .ok (.land, 1) := by decide +kernel
theorem dX2_isCut_25 : decode cX2_isCut 25 = .ok (.lconst 0, 1) := by decide +kernel
theorem dX2_isCut_26 : decode cX2_isCut 26 = .ok (.lcmp, 1) := by decide +kernel
theorem dX2_isCut_27 : decode cX2_isCut 27 = .ok (.ifCond .eq 7, 3) := by decide +kernel
theorem dX2_isCut_30 : decode cX2_isCut 30 = .ok (.iconst 1, 1) := by decide +kernel
theorem dX2_isCut_31 : decode cX2_isCut 31 = .ok (.goto 4, 3) := by decide +kernel
theorem dX2_isCut_34 : decode cX2_isCut 34 = .ok (.iconst 0, 1) := by decide +kernel
theorem dX2_isCut_35 : decode cX2_isCut 35 = .ok (.ireturn, 1) := by decide +kernel
theorem dX2_cutLine_0 : decode cX2_cutLine 0 = .ok (.iload_n 1, 1) := by decide +kernel
theorem dX2_cutLine_1 : decode cX2_cutLine 1 = .ok (.invokestatic 140, 3) := by decide +kernel
theorem dX2_cutLine_4 : decode cX2_cutLine 4 = .ok (.ifCond .eq 19, 3) := by decide +kernel
theorem dX2_cutLine_7 : decode cX2_cutLine 7 = .ok (.aload_n 0, 1) := by decide +kernel
theorem dX2_cutLine_8 : decode cX2_cutLine 8 = .ok (.dup, 1) := by decide +kernel
theorem dX2_cutLine_9 : decode cX2_cutLine 9 = .ok (.getfield 17, 3) := by decide +kernel
theorem dX2_cutLine_12 : decode cX2_cutLine 12 = .ok (.iload_n 1, 1) := by decide +kernel
theorem dX2_cutLine_13 : decode cX2_cutLine 13 = .ok (.invokestatic 143, 3) := by decide +kernel
theorem dX2_cutLine_16 : decode cX2_cutLine 16 = .ok (.lor, 1) := by decide +kernel
theorem dX2_cutLine_17 : decode cX2_cutLine 17 = .ok (.putfield 17, 3) := by decide +kernel
theorem dX2_cutLine_20 : decode cX2_cutLine 20 = .ok (.goto 16, 3) := by decide +kernel
theorem dX2_cutLine_23 : decode cX2_cutLine 23 = .ok (.aload_n 0, 1) := by decide +kernel
theorem dX2_cutLine_24 : decode cX2_cutLine 24 = .ok (.dup, 1) := by decide +kernel
theorem dX2_cutLine_25 : decode cX2_cutLine 25 = .ok (.getfield 20, 3) := by decide +kernel
theorem dX2_cutLine_28 : decode cX2_cutLine 28 = .ok (.iload_n 1, 1) := by decide +kernel
theorem dX2_cutLine_29 : decode cX2_cutLine 29 = .ok (.invokestatic 143, 3) := by decide +kernel
theorem dX2_cutLine_32 : decode cX2_cutLine 32 = .ok (.lor, 1) := by decide +kernel
theorem dX2_cutLine_33 : decode cX2_cutLine 33 = .ok (.putfield 20, 3) := by decide +kernel
theorem dX2_cutLine_36 : decode cX2_cutLine 36 = .ok (.return_, 1) := by decide +kernel
theorem dX2_partRink_0 : decode cX2_partRink 0 = .ok (.iload_n 2, 1) := by decide +kernel
theorem dX2_partRink_1 : decode cX2_partRink 1 = .ok (.invokestatic 146, 3) := by decide +kernel
theorem dX2_partRink_4 : decode cX2_partRink 4 = .ok (.lstore_n 3, 1) := by decide +kernel
theorem dX2_partRink_5 : decode cX2_partRink 5 = .ok (.iload_n 2, 1) := by decide +kernel
theorem dX2_partRink_6 : decode cX2_partRink 6 = .ok (.invokestatic 143, 3) := by decide +kernel
theorem dX2_partRink_9 : decode cX2_partRink 9 = .ok (.lstore 5, 2) := by decide +kernel
theorem dX2_partRink_11 : decode cX2_partRink 11 = .ok (.aload_n 0, 1) := by decide +kernel
theorem dX2_partRink_12 : decode cX2_partRink 12 = .ok (.lload_n 3, 1) := by decide +kernel
theorem dX2_partRink_13 : decode cX2_partRink 13 = .ok (.invokevirtual 149, 3) := by decide +kernel
theorem dX2_partRink_16 : decode cX2_partRink 16 = .ok (.lstore 7, 2) := by decide +kernel
theorem dX2_partRink_18 : decode cX2_partRink 18 = .ok (.lload 7, 2) := by decide +kernel
theorem dX2_partRink_20 : decode cX2_partRink 20 = .ok (.lload 5, 2) := by decide +kernel
theorem dX2_partRink_22 : decode cX2_partRink 22 = .ok (.land, 1) := by decide +kernel
theorem dX2_partRink_23 : decode cX2_partRink 23 = .ok (.lconst 0, 1) := by decide +kernel
theorem dX2_partRink_24 : decode cX2_partRink 24 = .ok (.lcmp, 1) := by decide +kernel
theorem dX2_partRink_25 : decode cX2_partRink 25 = .ok (.ifCond .ne 12, 3) := by decide +kernel
theorem dX2_partRink_28 : decode cX2_partRink 28 = .ok (.aload_n 0, 1) := by decide +kernel
theorem dX2_partRink_29 : decode cX2_partRink 29 = .ok (.lload_n 3, 1) := by decide +kernel
theorem dX2_partRink_30 : decode cX2_partRink 30 = .ok (.invokevirtual 153, 3) := by decide +kernel
theorem dX2_partRink_33 : decode cX2_partRink 33 = .ok (.iconst (-1), 1) := by decide +kernel
theorem dX2_partRink_34 : decode cX2_partRink 34 = .ok (.if_icmp .eq 4, 3) := by decide +kernel
theorem dX2_partRink_37 : decode cX2_partRink 37 = .ok (.return_, 1) := by decide +kernel
theorem dX2_partRink_38 : decode cX2_partRink 38 = .ok (.aload_n 0, 1) := by decide +kernel
theorem dX2_partRink_39 : decode cX2_partRink 39 = .ok (.lload 5, 2) := by decide +kernel
theorem dX2_partRink_41 : decode cX2_partRink 41 = .ok (.invokevirtual 149, 3) := by decide +kernel
theorem dX2_partRink_44 : decode cX2_partRink 44 = .ok (.lstore 9, 2) := by decide +kernel
theorem dX2_partRink_46 : decode cX2_partRink 46 = .ok (.lload 7, 2) := by decide +kernel
theorem dX2_partRink_48 : decode cX2_partRink 48 = .ok (.invokestatic 115, 3) := by decide +kernel
theorem dX2_partRink_51 : decode cX2_partRink 51 = .ok (.lload 9, 2) := by decide +kernel
theorem dX2_partRink_53 : decode cX2_partRink 53 = .ok (.invokestatic 115, 3) := by decide +kernel
theorem dX2_partRink_56 : decode cX2_partRink 56 = .ok (.isub, 1) := by decide +kernel
theorem dX2_partRink_57 : decode cX2_partRink 57 = .ok (.istore 11, 2) := by decide +kernel
theorem dX2_partRink_59 : decode cX2_partRink 59 = .ok (.iload 11, 2) := by decide +kernel
theorem dX2_partRink_61 : decode cX2_partRink 61 = .ok (.ifCond .lt 21, 3) := by decide +kernel
theorem dX2_partRink_64 : decode cX2_partRink 64 = .ok (.iload 11, 2) := by decide +kernel
theorem dX2_partRink_66 : decode cX2_partRink 66 = .ok (.ifCond .ne 20, 3) := by decide +kernel
theorem dX2_partRink_69 : decode cX2_partRink 69 = .ok (.lload 7, 2) := by decide +kernel
theorem dX2_partRink_71 : decode cX2_partRink 71 = .ok (.invokestatic 156, 3) := by decide +kernel
theorem dX2_partRink_74 : decode cX2_partRink 74 = .ok (.lload 9, 2) := by decide +kernel
theorem dX2_partRink_76 : decode cX2_partRink 76 = .ok (.invokestatic 156, 3) := by decide +kernel
theorem dX2_partRink_79 : decode cX2_partRink 79 = .ok (.if_icmp .ge 7, 3) := by decide +kernel
theorem dX2_partRink_82 : decode cX2_partRink 82 = .ok (.iconst 1, 1) := by decide +kernel
theorem dX2_partRink_83 : decode cX2_partRink 83 = .ok (.goto 4, 3) := by decide +kernel
theorem dX2_partRink_86 : decode cX2_partRink 86 = .ok (.iconst 0, 1) := by decide +kernel
theorem dX2_partRink_87 : decode cX2_partRink 87 = .ok (.istore 12, 2) := by decide +kernel
theorem dX2_partRink_89 : decode cX2_partRink 89 = .ok (.aload_n 1, 1) := by decide +kernel
theorem dX2_partRink_90 : decode cX2_partRink 90 = .ok (.dup, 1) := by decide +kernel
theorem dX2_partRink_91 : decode cX2_partRink 91 = .ok (.getfield 131, 3) := by decide +kernel
theorem dX2_partRink_94 : decode cX2_partRink 94 = .ok (.iload 12, 2) := by decide +kernel
theorem dX2_partRink_96 : decode cX2_partRink 96 = .ok (.ifCond .eq 8, 3) := by decide +kernel
theorem dX2_partRink_99 : decode cX2_partRink 99 = .ok (.lload 7, 2) := by decide +kernel
theorem dX2_partRink_101 : decode cX2_partRink 101 = .ok (.goto 5, 3) := by decide +kernel
theorem dX2_partRink_104 : decode cX2_partRink 104 = .ok (.lload 9, 2) := by decide +kernel
theorem dX2_partRink_106 : decode cX2_partRink 106 = .ok (.lor, 1) := by decide +kernel
theorem dX2_partRink_107 : decode cX2_partRink 107 = .ok (.putfield 131, 3) := by decide +kernel
theorem dX2_partRink_110 : decode cX2_partRink 110 = .ok (.return_, 1) := by decide +kernel
theorem dX2_isIce_0 : decode cX2_isIce 0 = .ok (.aload_n 0, 1) := by decide +kernel
theorem dX2_isIce_1 : decode cX2_isIce 1 = .ok (.getfield 11, 3) := by decide +kernel
theorem dX2_isIce_4 : decode cX2_isIce 4 = .ok (.lload_n 1, 1) := by decide +kernel
theorem dX2_isIce_5 : decode cX2_isIce 5 = .ok (.land, 1) := by decide +kernel
theorem dX2_isIce_6 : decode cX2_isIce 6 = .ok (.lconst 0, 1) := by decide +kernel
theorem dX2_isIce_7 : decode cX2_isIce 7 = .ok (.lcmp, 1) := by decide +kernel
theorem dX2_isIce_8 : decode cX2_isIce 8 = .ok (.ifCond .eq 7, 3) := by decide +kernel
theorem dX2_isIce_11 : decode cX2_isIce 11 = .ok (.iconst 1, 1) := by decide +kernel
theorem dX2_isIce_12 : decode cX2_isIce 12 = .ok (.goto 4, 3) := by decide +kernel
theorem dX2_isIce_15 : decode cX2_isIce 15 = .ok (.iconst 0, 1) := by decide +kernel
theorem dX2_isIce_16 : decode cX2_isIce 16 = .ok (.ireturn, 1) := by decide +kernel
theorem dX2_iceCells_0 : decode cX2_iceCells 0 = .ok (.aload_n 0, 1) := by decide +kernel
theorem dX2_iceCells_1 : decode cX2_iceCells 1 = .ok (.getfield 11, 3) := by decide +kernel
theorem dX2_iceCells_4 : decode cX2_iceCells 4 = .ok (.invokestatic 115, 3) := by decide +kernel
theorem dX2_iceCells_7 : decode cX2_iceCells 7 = .ok (.ireturn, 1) := by decide +kernel
theorem dX2_makeWater_0 : decode cX2_makeWater 0 = .ok (.aload_n 0, 1) := by decide +kernel
theorem dX2_makeWater_1 : decode cX2_makeWater 1 = .ok (.dup, 1) := by decide +kernel
theorem dX2_makeWater_2 : decode cX2_makeWater 2 = .ok (.getfield 11, 3) := by decide +kernel
theorem dX2_makeWater_5 : decode cX2_makeWater 5 = .ok (.lload_n 1, 1) := by decide +kernel
theorem dX2_makeWater_6 : decode cX2_makeWater 6 = .ok (.ldc2_w 9, 3) := by decide +kernel
theorem dX2_makeWater_9 : decode cX2_makeWater 9 = .ok (.lxor, 1) := by decide +kernel
theorem dX2_makeWater_10 : decode cX2_makeWater 10 = .ok (.land, 1) := by decide +kernel
theorem dX2_makeWater_11 : decode cX2_makeWater 11 = .ok (.putfield 11, 3) := by decide +kernel
theorem dX2_makeWater_14 : decode cX2_makeWater 14 = .ok (.iconst 0, 1) := by decide +kernel
theorem dX2_makeWater_15 : decode cX2_makeWater 15 = .ok (.istore_n 3, 1) := by decide +kernel
theorem dX2_makeWater_16 : decode cX2_makeWater 16 = .ok (.iload_n 3, 1) := by decide +kernel
theorem dX2_makeWater_17 : decode cX2_makeWater 17 = .ok (.iconst 3, 1) := by decide +kernel
theorem dX2_makeWater_18 : decode cX2_makeWater 18 = .ok (.if_icmp .ge 28, 3) := by decide +kernel
theorem dX2_makeWater_21 : decode cX2_makeWater 21 = .ok (.aload_n 0, 1) := by decide +kernel
theorem dX2_makeWater_22 : decode cX2_makeWater 22 = .ok (.getfield 35, 3) := by decide +kernel
theorem dX2_makeWater_25 : decode cX2_makeWater 25 = .ok (.iload_n 3, 1) := by decide +kernel
theorem dX2_makeWater_26 : decode cX2_makeWater 26 = .ok (.aaload, 1) := by decide +kernel
theorem dX2_makeWater_27 : decode cX2_makeWater 27 = .ok (.dup, 1) := by decide +kernel
theorem dX2_makeWater_28 : decode cX2_makeWater 28 = .ok (.getfield 131, 3) := by decide +kernel
theorem dX2_makeWater_31 : decode cX2_makeWater 31 = .ok (.lload_n 1, 1) := by decide +kernel
theorem dX2_makeWater_32 : decode cX2_makeWater 32 = .ok (.ldc2_w 9, 3) := by decide +kernel
theorem dX2_makeWater_35 : decode cX2_makeWater 35 = .ok (.lxor, 1) := by decide +kernel
theorem dX2_makeWater_36 : decode cX2_makeWater 36 = .ok (.land, 1) := by decide +kernel
theorem dX2_makeWater_37 : decode cX2_makeWater 37 = .ok (.putfield 131, 3) := by decide +kernel
theorem dX2_makeWater_40 : decode cX2_makeWater 40 = .ok (.iinc 3 1, 3) := by decide +kernel
theorem dX2_makeWater_43 : decode cX2_makeWater 43 = .ok (.goto (-27), 3) := by decide +kernel
theorem dX2_makeWater_46 : decode cX2_makeWater 46 = .ok (.aload_n 0, 1) := by decide +kernel
theorem dX2_makeWater_47 : decode cX2_makeWater 47 = .ok (.dup, 1) := by decide +kernel
theorem dX2_makeWater_48 : decode cX2_makeWater 48 = .ok (.getfield 46, 3) := by decide +kernel
theorem dX2_makeWater_51 : decode cX2_makeWater 51 = .ok (.lload_n 1, 1) := by decide +kernel
theorem dX2_makeWater_52 : decode cX2_makeWater 52 = .ok (.invokestatic 115, 3) := by decide +kernel
theorem dX2_makeWater_55 : decode cX2_makeWater 55 = .ok (.iadd, 1) := by decide +kernel
theorem dX2_makeWater_56 : decode cX2_makeWater 56 = .ok (.putfield 46, 3) := by decide +kernel
theorem dX2_makeWater_59 : decode cX2_makeWater 59 = .ok (.return_, 1) := by decide +kernel
theorem dX2_thawOnce_0 : decode cX2_thawOnce 0 = .ok (.aload_n 0, 1) := by decide +kernel
theorem dX2_thawOnce_1 : decode cX2_thawOnce 1 = .ok (.getfield 11, 3) := by decide +kernel
theorem dX2_thawOnce_4 : decode cX2_thawOnce 4 = .ok (.aload_n 0, 1) := by decide +kernel
theorem dX2_thawOnce_5 : decode cX2_thawOnce 5 = .ok (.getfield 27, 3) := by decide +kernel
theorem dX2_thawOnce_8 : decode cX2_thawOnce 8 = .ok (.iconst 2, 1) := by decide +kernel
theorem dX2_thawOnce_9 : decode cX2_thawOnce 9 = .ok (.iaload, 1) := by decide +kernel
theorem dX2_thawOnce_10 : decode cX2_thawOnce 10 = .ok (.invokestatic 159, 3) := by decide +kernel
theorem dX2_thawOnce_13 : decode cX2_thawOnce 13 = .ok (.lstore_n 1, 1) := by decide +kernel
theorem dX2_thawOnce_14 : decode cX2_thawOnce 14 = .ok (.aload_n 0, 1) := by decide +kernel
theorem dX2_thawOnce_15 : decode cX2_thawOnce 15 = .ok (.lload_n 1, 1) := by decide +kernel
theorem dX2_thawOnce_16 : decode cX2_thawOnce 16 = .ok (.invokevirtual 111, 3) := by decide +kernel
theorem dX2_thawOnce_19 : decode cX2_thawOnce 19 = .ok (.aload_n 0, 1) := by decide +kernel
theorem dX2_thawOnce_20 : decode cX2_thawOnce 20 = .ok (.dup, 1) := by decide +kernel
theorem dX2_thawOnce_21 : decode cX2_thawOnce 21 = .ok (.getfield 43, 3) := by decide +kernel
theorem dX2_thawOnce_24 : decode cX2_thawOnce 24 = .ok (.iconst 1, 1) := by decide +kernel
theorem dX2_thawOnce_25 : decode cX2_thawOnce 25 = .ok (.iadd, 1) := by decide +kernel
theorem dX2_thawOnce_26 : decode cX2_thawOnce 26 = .ok (.putfield 43, 3) := by decide +kernel
theorem dX2_thawOnce_29 : decode cX2_thawOnce 29 = .ok (.lload_n 1, 1) := by decide +kernel
theorem dX2_thawOnce_30 : decode cX2_thawOnce 30 = .ok (.invokestatic 115, 3) := by decide +kernel
theorem dX2_thawOnce_33 : decode cX2_thawOnce 33 = .ok (.ireturn, 1) := by decide +kernel
theorem dX2_thawsUntilCalm_0 : decode cX2_thawsUntilCalm 0 = .ok (.aload_n 0, 1) := by decide +kernel
theorem dX2_thawsUntilCalm_1 : decode cX2_thawsUntilCalm 1 = .ok (.getfield 11, 3) := by decide +kernel
theorem dX2_thawsUntilCalm_4 : decode cX2_thawsUntilCalm 4 = .ok (.lstore_n 1, 1) := by decide +kernel
theorem dX2_thawsUntilCalm_5 : decode cX2_thawsUntilCalm 5 = .ok (.iconst 0, 1) := by decide +kernel
theorem dX2_thawsUntilCalm_6 : decode cX2_thawsUntilCalm 6 = .ok (.istore_n 3, 1) := by decide +kernel
theorem dX2_thawsUntilCalm_7 : decode cX2_thawsUntilCalm 7 = .ok (.iload_n 3, 1) := by decide +kernel
theorem dX2_thawsUntilCalm_8 : decode cX2_thawsUntilCalm 8 = .ok (.bipush 64, 2) := by decide +kernel
theorem dX2_thawsUntilCalm_10 : decode cX2_thawsUntilCalm 10 = .ok (.if_icmp .ge 39, 3) := by decide +kernel
theorem dX2_thawsUntilCalm_13 : decode cX2_thawsUntilCalm 13 = .ok (.lload_n 1, 1) := by decide +kernel
theorem dX2_thawsUntilCalm_14 : decode cX2_thawsUntilCalm 14 = .ok (.aload_n 0, 1) := by decide +kernel
theorem dX2_thawsUntilCalm_15 : decode cX2_thawsUntilCalm 15 = .ok (.getfield 27, 3) := by decide +kernel
theorem dX2_thawsUntilCalm_18 : decode cX2_thawsUntilCalm 18 = .ok (.iconst 2, 1) := by decide +kernel
theorem dX2_thawsUntilCalm_19 : decode cX2_thawsUntilCalm 19 = .ok (.iaload, 1) := by decide +kernel
theorem dX2_thawsUntilCalm_20 : decode cX2_thawsUntilCalm 20 = .ok (.invokestatic 159, 3) := by decide +kernel
theorem dX2_thawsUntilCalm_23 : decode cX2_thawsUntilCalm 23 = .ok (.lstore 4, 2) := by decide +kernel
theorem dX2_thawsUntilCalm_25 : decode cX2_thawsUntilCalm 25 = .ok (.lload 4, 2) := by decide +kernel
theorem dX2_thawsUntilCalm_27 : decode cX2_thawsUntilCalm 27 = .ok (.lconst 0, 1) := by decide +kernel
theorem dX2_thawsUntilCalm_28 : decode cX2_thawsUntilCalm 28 = .ok (.lcmp, 1) := by decide +kernel
theorem dX2_thawsUntilCalm_29 : decode cX2_thawsUntilCalm 29 = .ok (.ifCond .ne 5, 3) := by decide +kernel
theorem dX2_thawsUntilCalm_32 : decode cX2_thawsUntilCalm 32 = .ok (.iload_n 3, 1) := by decide +kernel
theorem dX2_thawsUntilCalm_33 : decode cX2_thawsUntilCalm 33 = .ok (.ireturn, 1) := by decide +kernel
theorem dX2_thawsUntilCalm_34 : decode cX2_thawsUntilCalm 34 = .ok (.lload_n 1, 1) := by decide +kernel
theorem dX2_thawsUntilCalm_35 : decode cX2_thawsUntilCalm 35 = .ok (.lload 4, 2) := by decide +kernel
theorem dX2_thawsUntilCalm_37 : decode cX2_thawsUntilCalm 37 = .ok (.ldc2_w 9, 3) := by decide +kernel
theorem dX2_thawsUntilCalm_40 : decode cX2_thawsUntilCalm 40 = .ok (.lxor, 1) := by decide +kernel
theorem dX2_thawsUntilCalm_41 : decode cX2_thawsUntilCalm 41 = .ok (.land, 1) := by decide +kernel
theorem dX2_thawsUntilCalm_42 : decode cX2_thawsUntilCalm 42 = .ok (.lstore_n 1, 1) := by decide +kernel
theorem dX2_thawsUntilCalm_43 : decode cX2_thawsUntilCalm 43 = .ok (.iinc 3 1, 3) := by decide +kernel
theorem dX2_thawsUntilCalm_46 : decode cX2_thawsUntilCalm 46 = .ok (.goto (-39), 3) := by decide +kernel
theorem dX2_thawsUntilCalm_49 : decode cX2_thawsUntilCalm 49 = .ok (.bipush 64, 2) := by decide +kernel
theorem dX2_thawsUntilCalm_51 : decode cX2_thawsUntilCalm 51 = .ok (.ireturn, 1) := by decide +kernel
theorem dX2_thawsUntilWater_0 : decode cX2_thawsUntilWater 0 = .ok (.aload_n 0, 1) := by decide +kernel
theorem dX2_thawsUntilWater_1 : decode cX2_thawsUntilWater 1 = .ok (.getfield 11, 3) := by decide +kernel
theorem dX2_thawsUntilWater_4 : decode cX2_thawsUntilWater 4 = .ok (.lstore_n 3, 1) := by decide +kernel
theorem dX2_thawsUntilWater_5 : decode cX2_thawsUntilWater 5 = .ok (.iconst 0, 1) := by decide +kernel
theorem dX2_thawsUntilWater_6 : decode cX2_thawsUntilWater 6 = .ok (.istore 5, 2) := by decide +kernel
theorem dX2_thawsUntilWater_8 : decode cX2_thawsUntilWater 8 = .ok (.iload 5, 2) := by decide +kernel
theorem dX2_thawsUntilWater_10 : decode cX2_thawsUntilWater 10 = .ok (.bipush 64, 2) := by decide +kernel
theorem dX2_thawsUntilWater_12 : decode cX2_thawsUntilWater 12 = .ok (.if_icmp .gt 50, 3) := by decide +kernel
theorem dX2_thawsUntilWater_15 : decode cX2_thawsUntilWater 15 = .ok (.lload_n 3, 1) := by decide +kernel
theorem dX2_thawsUntilWater_16 : decode cX2_thawsUntilWater 16 = .ok (.lload_n 1, 1) := by decide +kernel
theorem dX2_thawsUntilWater_17 : decode cX2_thawsUntilWater 17 = .ok (.land, 1) := by decide +kernel
theorem dX2_thawsUntilWater_18 : decode cX2_thawsUntilWater 18 = .ok (.lconst 0, 1) := by decide +kernel
theorem dX2_thawsUntilWater_19 : decode cX2_thawsUntilWater 19 = .ok (.lcmp, 1) := by decide +kernel
theorem dX2_thawsUntilWater_20 : decode cX2_thawsUntilWater 20 = .ok (.ifCond .ne 6, 3) := by decide +kernel
theorem dX2_thawsUntilWater_23 : decode cX2_thawsUntilWater 23 = .ok (.iload 5, 2) := by decide +kernel
theorem dX2_thawsUntilWater_25 : decode cX2_thawsUntilWater 25 = .ok (.ireturn, 1) := by decide +kernel
theorem dX2_thawsUntilWater_26 : decode cX2_thawsUntilWater 26 = .ok (.lload_n 3, 1) := by decide +kernel
theorem dX2_thawsUntilWater_27 : decode cX2_thawsUntilWater 27 = .ok (.aload_n 0, 1) := by decide +kernel
theorem dX2_thawsUntilWater_28 : decode cX2_thawsUntilWater 28 = .ok (.getfield 27, 3) := by decide +kernel
theorem dX2_thawsUntilWater_31 : decode cX2_thawsUntilWater 31 = .ok (.iconst 2, 1) := by decide +kernel
theorem dX2_thawsUntilWater_32 : decode cX2_thawsUntilWater 32 = .ok (.iaload, 1) := by decide +kernel
theorem dX2_thawsUntilWater_33 : decode cX2_thawsUntilWater 33 = .ok (.invokestatic 159, 3) := by decide +kernel
theorem dX2_thawsUntilWater_36 : decode cX2_thawsUntilWater 36 = .ok (.lstore 6, 2) := by decide +kernel
theorem dX2_thawsUntilWater_38 : decode cX2_thawsUntilWater 38 = .ok (.lload 6, 2) := by decide +kernel
theorem dX2_thawsUntilWater_40 : decode cX2_thawsUntilWater 40 = .ok (.lconst 0, 1) := by decide +kernel
theorem dX2_thawsUntilWater_41 : decode cX2_thawsUntilWater 41 = .ok (.lcmp, 1) := by decide +kernel
theorem dX2_thawsUntilWater_42 : decode cX2_thawsUntilWater 42 = .ok (.ifCond .ne 5, 3) := by decide +kernel
theorem dX2_thawsUntilWater_45 : decode cX2_thawsUntilWater 45 = .ok (.iconst (-1), 1) := by decide +kernel
theorem dX2_thawsUntilWater_46 : decode cX2_thawsUntilWater 46 = .ok (.ireturn, 1) := by decide +kernel
theorem dX2_thawsUntilWater_47 : decode cX2_thawsUntilWater 47 = .ok (.lload_n 3, 1) := by decide +kernel
theorem dX2_thawsUntilWater_48 : decode cX2_thawsUntilWater 48 = .ok (.lload 6, 2) := by decide +kernel
theorem dX2_thawsUntilWater_50 : decode cX2_thawsUntilWater 50 = .ok (.ldc2_w 9, 3) := by decide +kernel
theorem dX2_thawsUntilWater_53 : decode cX2_thawsUntilWater 53 = .ok (.lxor, 1) := by decide +kernel
theorem dX2_thawsUntilWater_54 : decode cX2_thawsUntilWater 54 = .ok (.land, 1) := by decide +kernel
theorem dX2_thawsUntilWater_55 : decode cX2_thawsUntilWater 55 = .ok (.lstore_n 3, 1) := by decide +kernel
theorem dX2_thawsUntilWater_56 : decode cX2_thawsUntilWater 56 = .ok (.iinc 5 1, 3) := by decide +kernel
theorem dX2_thawsUntilWater_59 : decode cX2_thawsUntilWater 59 = .ok (.goto (-51), 3) := by decide +kernel
theorem dX2_thawsUntilWater_62 : decode cX2_thawsUntilWater 62 = .ok (.iconst (-1), 1) := by decide +kernel
theorem dX2_thawsUntilWater_63 : decode cX2_thawsUntilWater 63 = .ok (.ireturn, 1) := by decide +kernel
theorem dX2_rinkOf_0 : decode cX2_rinkOf 0 = .ok (.aload_n 0, 1) := by decide +kernel
theorem dX2_rinkOf_1 : decode cX2_rinkOf 1 = .ok (.getfield 11, 3) := by decide +kernel
theorem dX2_rinkOf_4 : decode cX2_rinkOf 4 = .ok (.aload_n 0, 1) := by decide +kernel
theorem dX2_rinkOf_5 : decode cX2_rinkOf 5 = .ok (.getfield 11, 3) := by decide +kernel
theorem dX2_rinkOf_8 : decode cX2_rinkOf 8 = .ok (.invokestatic 163, 3) := by decide +kernel
theorem dX2_rinkOf_11 : decode cX2_rinkOf 11 = .ok (.land, 1) := by decide +kernel
theorem dX2_rinkOf_12 : decode cX2_rinkOf 12 = .ok (.aload_n 0, 1) := by decide +kernel
theorem dX2_rinkOf_13 : decode cX2_rinkOf 13 = .ok (.getfield 17, 3) := by decide +kernel
theorem dX2_rinkOf_16 : decode cX2_rinkOf 16 = .ok (.ldc2_w 9, 3) := by decide +kernel
theorem dX2_rinkOf_19 : decode cX2_rinkOf 19 = .ok (.lxor, 1) := by decide +kernel
theorem dX2_rinkOf_20 : decode cX2_rinkOf 20 = .ok (.land, 1) := by decide +kernel
theorem dX2_rinkOf_21 : decode cX2_rinkOf 21 = .ok (.lstore_n 3, 1) := by decide +kernel
theorem dX2_rinkOf_22 : decode cX2_rinkOf 22 = .ok (.aload_n 0, 1) := by decide +kernel
theorem dX2_rinkOf_23 : decode cX2_rinkOf 23 = .ok (.getfield 11, 3) := by decide +kernel
theorem dX2_rinkOf_26 : decode cX2_rinkOf 26 = .ok (.aload_n 0, 1) := by decide +kernel
theorem dX2_rinkOf_27 : decode cX2_rinkOf 27 = .ok (.getfield 11, 3) := by decide +kernel
theorem dX2_rinkOf_30 : decode cX2_rinkOf 30 = .ok (.invokestatic 166, 3) := by decide +kernel
theorem dX2_rinkOf_33 : decode cX2_rinkOf 33 = .ok (.land, 1) := by decide +kernel
theorem dX2_rinkOf_34 : decode cX2_rinkOf 34 = .ok (.aload_n 0, 1) := by decide +kernel
theorem dX2_rinkOf_35 : decode cX2_rinkOf 35 = .ok (.getfield 20, 3) := by decide +kernel
theorem dX2_rinkOf_38 : decode cX2_rinkOf 38 = .ok (.ldc2_w 9, 3) := by decide +kernel
theorem dX2_rinkOf_41 : decode cX2_rinkOf 41 = .ok (.lxor, 1) := by decide +kernel
theorem dX2_rinkOf_42 : decode cX2_rinkOf 42 = .ok (.land, 1) := by decide +kernel
theorem dX2_rinkOf_43 : decode cX2_rinkOf 43 = .ok (.lstore 5, 2) := by decide +kernel
theorem dX2_rinkOf_45 : decode cX2_rinkOf 45 = .ok (.lload_n 1, 1) := by decide +kernel
theorem dX2_rinkOf_46 : decode cX2_rinkOf 46 = .ok (.aload_n 0, 1) := by decide +kernel
theorem dX2_rinkOf_47 : decode cX2_rinkOf 47 = .ok (.getfield 11, 3) := by decide +kernel
theorem dX2_rinkOf_50 : decode cX2_rinkOf 50 = .ok (.land, 1) := by decide +kernel
theorem dX2_rinkOf_51 : decode cX2_rinkOf 51 = .ok (.lstore 7, 2) := by decide +kernel
theorem dX2_rinkOf_53 : decode cX2_rinkOf 53 = .ok (.iconst 0, 1) := by decide +kernel
theorem dX2_rinkOf_54 : decode cX2_rinkOf 54 = .ok (.istore 9, 2) := by decide +kernel
theorem dX2_rinkOf_56 : decode cX2_rinkOf 56 = .ok (.iload 9, 2) := by decide +kernel
theorem dX2_rinkOf_58 : decode cX2_rinkOf 58 = .ok (.bipush 64, 2) := by decide +kernel
theorem dX2_rinkOf_60 : decode cX2_rinkOf 60 = .ok (.if_icmp .ge 62, 3) := by decide +kernel
theorem dX2_rinkOf_63 : decode cX2_rinkOf 63 = .ok (.lload 7, 2) := by decide +kernel
theorem dX2_rinkOf_65 : decode cX2_rinkOf 65 = .ok (.lload 7, 2) := by decide +kernel
theorem dX2_rinkOf_67 : decode cX2_rinkOf 67 = .ok (.lload_n 3, 1) := by decide +kernel
theorem dX2_rinkOf_68 : decode cX2_rinkOf 68 = .ok (.land, 1) := by decide +kernel
theorem dX2_rinkOf_69 : decode cX2_rinkOf 69 = .ok (.invokestatic 169, 3) := by decide +kernel
theorem dX2_rinkOf_72 : decode cX2_rinkOf 72 = .ok (.lor, 1) := by decide +kernel
theorem dX2_rinkOf_73 : decode cX2_rinkOf 73 = .ok (.lload 7, 2) := by decide +kernel
theorem dX2_rinkOf_75 : decode cX2_rinkOf 75 = .ok (.invokestatic 163, 3) := by decide +kernel
theorem dX2_rinkOf_78 : decode cX2_rinkOf 78 = .ok (.lload_n 3, 1) := by decide +kernel
theorem dX2_rinkOf_79 : decode cX2_rinkOf 79 = .ok (.land, 1) := by decide +kernel
theorem dX2_rinkOf_80 : decode cX2_rinkOf 80 = .ok (.lor, 1) := by decide +kernel
theorem dX2_rinkOf_81 : decode cX2_rinkOf 81 = .ok (.lload 7, 2) := by decide +kernel
theorem dX2_rinkOf_83 : decode cX2_rinkOf 83 = .ok (.lload 5, 2) := by decide +kernel
theorem dX2_rinkOf_85 : decode cX2_rinkOf 85 = .ok (.land, 1) := by decide +kernel
theorem dX2_rinkOf_86 : decode cX2_rinkOf 86 = .ok (.invokestatic 172, 3) := by decide +kernel
theorem dX2_rinkOf_89 : decode cX2_rinkOf 89 = .ok (.lor, 1) := by decide +kernel
theorem dX2_rinkOf_90 : decode cX2_rinkOf 90 = .ok (.lload 7, 2) := by decide +kernel
theorem dX2_rinkOf_92 : decode cX2_rinkOf 92 = .ok (.invokestatic 166, 3) := by decide +kernel
theorem dX2_rinkOf_95 : decode cX2_rinkOf 95 = .ok (.lload 5, 2) := by decide +kernel
theorem dX2_rinkOf_97 : decode cX2_rinkOf 97 = .ok (.land, 1) := by decide +kernel
theorem dX2_rinkOf_98 : decode cX2_rinkOf 98 = .ok (.lor, 1) := by decide +kernel
theorem dX2_rinkOf_99 : decode cX2_rinkOf 99 = .ok (.lstore 10, 2) := by decide +kernel
theorem dX2_rinkOf_101 : decode cX2_rinkOf 101 = .ok (.lload 10, 2) := by decide +kernel
theorem dX2_rinkOf_103 : decode cX2_rinkOf 103 = .ok (.lload 7, 2) := by decide +kernel
theorem dX2_rinkOf_105 : decode cX2_rinkOf 105 = .ok (.lcmp, 1) := by decide +kernel
theorem dX2_rinkOf_106 : decode cX2_rinkOf 106 = .ok (.ifCond .ne 6, 3) := by decide +kernel
theorem dX2_rinkOf_109 : decode cX2_rinkOf 109 = .ok (.lload 7, 2) := by decide +kernel
theorem dX2_rinkOf_111 : decode cX2_rinkOf 111 = .ok (.lreturn, 1) := by decide +kernel
theorem dX2_rinkOf_112 : decode cX2_rinkOf 112 = .ok (.lload 10, 2) := by decide +kernel
theorem dX2_rinkOf_114 : decode cX2_rinkOf 114 = .ok (.lstore 7, 2) := by decide +kernel
theorem dX2_rinkOf_116 : decode cX2_rinkOf 116 = .ok (.iinc 9 1, 3) := by decide +kernel
theorem dX2_rinkOf_119 : decode cX2_rinkOf 119 = .ok (.goto (-63), 3) := by decide +kernel
theorem dX2_rinkOf_122 : decode cX2_rinkOf 122 = .ok (.lload 7, 2) := by decide +kernel
theorem dX2_rinkOf_124 : decode cX2_rinkOf 124 = .ok (.lreturn, 1) := by decide +kernel
theorem dX2_rinkWithRank_0 : decode cX2_rinkWithRank 0 = .ok (.aload_n 0, 1) := by decide +kernel
theorem dX2_rinkWithRank_1 : decode cX2_rinkWithRank 1 = .ok (.getfield 11, 3) := by decide +kernel
theorem dX2_rinkWithRank_4 : decode cX2_rinkWithRank 4 = .ok (.lstore_n 2, 1) := by decide +kernel
theorem dX2_rinkWithRank_5 : decode cX2_rinkWithRank 5 = .ok (.iconst 0, 1) := by decide +kernel
theorem dX2_rinkWithRank_6 : decode cX2_rinkWithRank 6 = .ok (.istore 4, 2) := by decide +kernel
theorem dX2_rinkWithRank_8 : decode cX2_rinkWithRank 8 = .ok (.iload 4, 2) := by decide +kernel
theorem dX2_rinkWithRank_10 : decode cX2_rinkWithRank 10 = .ok (.bipush 64, 2) := by decide +kernel
theorem dX2_rinkWithRank_12 : decode cX2_rinkWithRank 12 = .ok (.if_icmp .ge 43, 3) := by decide +kernel
theorem dX2_rinkWithRank_15 : decode cX2_rinkWithRank 15 = .ok (.lload_n 2, 1) := by decide +kernel
theorem dX2_rinkWithRank_16 : decode cX2_rinkWithRank 16 = .ok (.lconst 0, 1) := by decide +kernel
theorem dX2_rinkWithRank_17 : decode cX2_rinkWithRank 17 = .ok (.lcmp, 1) := by decide +kernel
theorem dX2_rinkWithRank_18 : decode cX2_rinkWithRank 18 = .ok (.ifCond .eq 37, 3) := by decide +kernel
theorem dX2_rinkWithRank_21 : decode cX2_rinkWithRank 21 = .ok (.aload_n 0, 1) := by decide +kernel
theorem dX2_rinkWithRank_22 : decode cX2_rinkWithRank 22 = .ok (.lload_n 2, 1) := by decide +kernel
theorem dX2_rinkWithRank_23 : decode cX2_rinkWithRank 23 = .ok (.invokestatic 175, 3) := by decide +kernel
theorem dX2_rinkWithRank_26 : decode cX2_rinkWithRank 26 = .ok (.invokevirtual 149, 3) := by decide +kernel
theorem dX2_rinkWithRank_29 : decode cX2_rinkWithRank 29 = .ok (.lstore 5, 2) := by decide +kernel
theorem dX2_rinkWithRank_31 : decode cX2_rinkWithRank 31 = .ok (.iload 4, 2) := by decide +kernel
theorem dX2_rinkWithRank_33 : decode cX2_rinkWithRank 33 = .ok (.iload_n 1, 1) := by decide +kernel
theorem dX2_rinkWithRank_34 : decode cX2_rinkWithRank 34 = .ok (.if_icmp .ne 6, 3) := by decide +kernel
theorem dX2_rinkWithRank_37 : decode cX2_rinkWithRank 37 = .ok (.lload 5, 2) := by decide +kernel
theorem dX2_rinkWithRank_39 : decode cX2_rinkWithRank 39 = .ok (.lreturn, 1) := by decide +kernel
theorem dX2_rinkWithRank_40 : decode cX2_rinkWithRank 40 = .ok (.lload_n 2, 1) := by decide +kernel
theorem dX2_rinkWithRank_41 : decode cX2_rinkWithRank 41 = .ok (.lload 5, 2) := by decide +kernel
theorem dX2_rinkWithRank_43 : decode cX2_rinkWithRank 43 = .ok (.ldc2_w 9, 3) := by decide +kernel
theorem dX2_rinkWithRank_46 : decode cX2_rinkWithRank 46 = .ok (.lxor, 1) := by decide +kernel
theorem dX2_rinkWithRank_47 : decode cX2_rinkWithRank 47 = .ok (.land, 1) := by decide +kernel
theorem dX2_rinkWithRank_48 : decode cX2_rinkWithRank 48 = .ok (.lstore_n 2, 1) := by decide +kernel
theorem dX2_rinkWithRank_49 : decode cX2_rinkWithRank 49 = .ok (.iinc 4 1, 3) := by decide +kernel
theorem dX2_rinkWithRank_52 : decode cX2_rinkWithRank 52 = .ok (.goto (-44), 3) := by decide +kernel
theorem dX2_rinkWithRank_55 : decode cX2_rinkWithRank 55 = .ok (.lconst 0, 1) := by decide +kernel
theorem dX2_rinkWithRank_56 : decode cX2_rinkWithRank 56 = .ok (.lreturn, 1) := by decide +kernel
theorem dX2_rinksByGoing_0 : decode cX2_rinksByGoing 0 = .ok (.aload_n 0, 1) := by decide +kernel
theorem dX2_rinksByGoing_1 : decode cX2_rinksByGoing 1 = .ok (.aload_n 0, 1) := by decide +kernel
theorem dX2_rinksByGoing_2 : decode cX2_rinksByGoing 2 = .ok (.getfield 11, 3) := by decide +kernel
theorem dX2_rinksByGoing_5 : decode cX2_rinksByGoing 5 = .ok (.invokevirtual 178, 3) := by decide +kernel
theorem dX2_rinksByGoing_8 : decode cX2_rinksByGoing 8 = .ok (.ireturn, 1) := by decide +kernel
theorem dX2_rinksOwned_0 : decode cX2_rinksOwned 0 = .ok (.aload_n 0, 1) := by decide +kernel
theorem dX2_rinksOwned_1 : decode cX2_rinksOwned 1 = .ok (.aload_n 0, 1) := by decide +kernel
theorem dX2_rinksOwned_2 : decode cX2_rinksOwned 2 = .ok (.invokevirtual 181, 3) := by decide +kernel
theorem dX2_rinksOwned_5 : decode cX2_rinksOwned 5 = .ok (.invokevirtual 178, 3) := by decide +kernel
theorem dX2_rinksOwned_8 : decode cX2_rinksOwned 8 = .ok (.ireturn, 1) := by decide +kernel
theorem dX2_rinksOwnedBy_0 : decode cX2_rinksOwnedBy 0 = .ok (.aload_n 0, 1) := by decide +kernel
theorem dX2_rinksOwnedBy_1 : decode cX2_rinksOwnedBy 1 = .ok (.aload_n 0, 1) := by decide +kernel
theorem dX2_rinksOwnedBy_2 : decode cX2_rinksOwnedBy 2 = .ok (.getfield 35, 3) := by decide +kernel
theorem dX2_rinksOwnedBy_5 : decode cX2_rinksOwnedBy 5 = .ok (.iload_n 1, 1) := by decide +kernel
theorem dX2_rinksOwnedBy_6 : decode cX2_rinksOwnedBy 6 = .ok (.aaload, 1) := by decide +kernel
theorem dX2_rinksOwnedBy_7 : decode cX2_rinksOwnedBy 7 = .ok (.getfield 131, 3) := by decide +kernel
theorem dX2_rinksOwnedBy_10 : decode cX2_rinksOwnedBy 10 = .ok (.invokevirtual 178, 3) := by decide +kernel
theorem dX2_rinksOwnedBy_13 : decode cX2_rinksOwnedBy 13 = .ok (.ireturn, 1) := by decide +kernel
theorem dX2_rinksWithin_0 : decode cX2_rinksWithin 0 = .ok (.iconst 0, 1) := by decide +kernel
theorem dX2_rinksWithin_1 : decode cX2_rinksWithin 1 = .ok (.istore_n 3, 1) := by decide +kernel
theorem dX2_rinksWithin_2 : decode cX2_rinksWithin 2 = .ok (.lload_n 1, 1) := by decide +kernel
theorem dX2_rinksWithin_3 : decode cX2_rinksWithin 3 = .ok (.lstore 4, 2) := by decide +kernel
theorem dX2_rinksWithin_5 : decode cX2_rinksWithin 5 = .ok (.iconst 0, 1) := by decide +kernel
theorem dX2_rinksWithin_6 : decode cX2_rinksWithin 6 = .ok (.istore 6, 2) := by decide +kernel
theorem dX2_rinksWithin_8 : decode cX2_rinksWithin 8 = .ok (.iload 6, 2) := by decide +kernel
theorem dX2_rinksWithin_10 : decode cX2_rinksWithin 10 = .ok (.bipush 64, 2) := by decide +kernel
theorem dX2_rinksWithin_12 : decode cX2_rinksWithin 12 = .ok (.if_icmp .ge 37, 3) := by decide +kernel
theorem dX2_rinksWithin_15 : decode cX2_rinksWithin 15 = .ok (.lload 4, 2) := by decide +kernel
theorem dX2_rinksWithin_17 : decode cX2_rinksWithin 17 = .ok (.lconst 0, 1) := by decide +kernel
theorem dX2_rinksWithin_18 : decode cX2_rinksWithin 18 = .ok (.lcmp, 1) := by decide +kernel
theorem dX2_rinksWithin_19 : decode cX2_rinksWithin 19 = .ok (.ifCond .eq 30, 3) := by decide +kernel
theorem dX2_rinksWithin_22 : decode cX2_rinksWithin 22 = .ok (.lload 4, 2) := by decide +kernel
theorem dX2_rinksWithin_24 : decode cX2_rinksWithin 24 = .ok (.aload_n 0, 1) := by decide +kernel
theorem dX2_rinksWithin_25 : decode cX2_rinksWithin 25 = .ok (.lload 4, 2) := by decide +kernel
theorem dX2_rinksWithin_27 : decode cX2_rinksWithin 27 = .ok (.invokestatic 175, 3) := by decide +kernel
theorem dX2_rinksWithin_30 : decode cX2_rinksWithin 30 = .ok (.invokevirtual 149, 3) := by decide +kernel
theorem dX2_rinksWithin_33 : decode cX2_rinksWithin 33 = .ok (.ldc2_w 9, 3) := by decide +kernel
theorem dX2_rinksWithin_36 : decode cX2_rinksWithin 36 = .ok (.lxor, 1) := by decide +kernel
theorem dX2_rinksWithin_37 : decode cX2_rinksWithin 37 = .ok (.land, 1) := by decide +kernel
theorem dX2_rinksWithin_38 : decode cX2_rinksWithin 38 = .ok (.lstore 4, 2) := by decide +kernel
theorem dX2_rinksWithin_40 : decode cX2_rinksWithin 40 = .ok (.iinc 3 1, 3) := by decide +kernel
theorem dX2_rinksWithin_43 : decode cX2_rinksWithin 43 = .ok (.iinc 6 1, 3) := by decide +kernel
theorem dX2_rinksWithin_46 : decode cX2_rinksWithin 46 = .ok (.goto (-38), 3) := by decide +kernel
theorem dX2_rinksWithin_49 : decode cX2_rinksWithin 49 = .ok (.iload_n 3, 1) := by decide +kernel
theorem dX2_rinksWithin_50 : decode cX2_rinksWithin 50 = .ok (.ireturn, 1) := by decide +kernel
theorem dX2_cellsOfRinks_0 : decode cX2_cellsOfRinks 0 = .ok (.iconst 0, 1) := by decide +kernel
theorem dX2_cellsOfRinks_1 : decode cX2_cellsOfRinks 1 = .ok (.istore_n 2, 1) := by decide +kernel
theorem dX2_cellsOfRinks_2 : decode cX2_cellsOfRinks 2 = .ok (.aload_n 0, 1) := by decide +kernel
theorem dX2_cellsOfRinks_3 : decode cX2_cellsOfRinks 3 = .ok (.getfield 11, 3) := by decide +kernel
theorem dX2_cellsOfRinks_6 : decode cX2_cellsOfRinks 6 = .ok (.lstore_n 3, 1) := by decide +kernel
theorem dX2_cellsOfRinks_7 : decode cX2_cellsOfRinks 7 = .ok (.iconst 0, 1) := by decide +kernel
theorem dX2_cellsOfRinks_8 : decode cX2_cellsOfRinks 8 = .ok (.istore 5, 2) := by decide +kernel
theorem dX2_cellsOfRinks_10 : decode cX2_cellsOfRinks 10 = .ok (.iload 5, 2) := by decide +kernel
theorem dX2_cellsOfRinks_12 : decode cX2_cellsOfRinks 12 = .ok (.bipush 64, 2) := by decide +kernel
theorem dX2_cellsOfRinks_14 : decode cX2_cellsOfRinks 14 = .ok (.if_icmp .ge 56, 3) := by decide +kernel
theorem dX2_cellsOfRinks_17 : decode cX2_cellsOfRinks 17 = .ok (.lload_n 3, 1) := by decide +kernel
theorem dX2_cellsOfRinks_18 : decode cX2_cellsOfRinks 18 = .ok (.lconst 0, 1) := by decide +kernel
theorem dX2_cellsOfRinks_19 : decode cX2_cellsOfRinks 19 = .ok (.lcmp, 1) := by decide +kernel
theorem dX2_cellsOfRinks_20 : decode cX2_cellsOfRinks 20 = .ok (.ifCond .eq 50, 3) := by decide +kernel
theorem dX2_cellsOfRinks_23 : decode cX2_cellsOfRinks 23 = .ok (.lload_n 3, 1) := by decide +kernel
theorem dX2_cellsOfRinks_24 : decode cX2_cellsOfRinks 24 = .ok (.invokestatic 175, 3) := by decide +kernel
theorem dX2_cellsOfRinks_27 : decode cX2_cellsOfRinks 27 = .ok (.lstore 6, 2) := by decide +kernel
theorem dX2_cellsOfRinks_29 : decode cX2_cellsOfRinks 29 = .ok (.aload_n 0, 1) := by decide +kernel
theorem dX2_cellsOfRinks_30 : decode cX2_cellsOfRinks 30 = .ok (.lload 6, 2) := by decide +kernel
theorem dX2_cellsOfRinks_32 : decode cX2_cellsOfRinks 32 = .ok (.invokevirtual 149, 3) := by decide +kernel
theorem dX2_cellsOfRinks_35 : decode cX2_cellsOfRinks 35 = .ok (.lstore 8, 2) := by decide +kernel
theorem dX2_cellsOfRinks_37 : decode cX2_cellsOfRinks 37 = .ok (.aload_n 0, 1) := by decide +kernel
theorem dX2_cellsOfRinks_38 : decode cX2_cellsOfRinks 38 = .ok (.lload 6, 2) := by decide +kernel
theorem dX2_cellsOfRinks_40 : decode cX2_cellsOfRinks 40 = .ok (.invokevirtual 153, 3) := by decide +kernel
theorem dX2_cellsOfRinks_43 : decode cX2_cellsOfRinks 43 = .ok (.iload_n 1, 1) := by decide +kernel
theorem dX2_cellsOfRinks_44 : decode cX2_cellsOfRinks 44 = .ok (.if_icmp .ne 11, 3) := by decide +kernel
theorem dX2_cellsOfRinks_47 : decode cX2_cellsOfRinks 47 = .ok (.iload_n 2, 1) := by decide +kernel
theorem dX2_cellsOfRinks_48 : decode cX2_cellsOfRinks 48 = .ok (.lload 8, 2) := by decide +kernel
theorem dX2_cellsOfRinks_50 : decode cX2_cellsOfRinks 50 = .ok (.invokestatic 115, 3) := by decide +kernel
theorem dX2_cellsOfRinks_53 : decode cX2_cellsOfRinks 53 = .ok (.iadd, 1) := by decide +kernel
theorem dX2_cellsOfRinks_54 : decode cX2_cellsOfRinks 54 = .ok (.istore_n 2, 1) := by decide +kernel
theorem dX2_cellsOfRinks_55 : decode cX2_cellsOfRinks 55 = .ok (.lload_n 3, 1) := by decide +kernel
theorem dX2_cellsOfRinks_56 : decode cX2_cellsOfRinks 56 = .ok (.lload 8, 2) := by decide +kernel
theorem dX2_cellsOfRinks_58 : decode cX2_cellsOfRinks 58 = .ok (.ldc2_w 9, 3) := by decide +kernel
theorem dX2_cellsOfRinks_61 : decode cX2_cellsOfRinks 61 = .ok (.lxor, 1) := by decide +kernel
theorem dX2_cellsOfRinks_62 : decode cX2_cellsOfRinks 62 = .ok (.land, 1) := by decide +kernel
theorem dX2_cellsOfRinks_63 : decode cX2_cellsOfRinks 63 = .ok (.lstore_n 3, 1) := by decide +kernel
theorem dX2_cellsOfRinks_64 : decode cX2_cellsOfRinks 64 = .ok (.iinc 5 1, 3) := by decide +kernel
theorem dX2_cellsOfRinks_67 : decode cX2_cellsOfRinks 67 = .ok (.goto (-57), 3) := by decide +kernel
theorem dX2_cellsOfRinks_70 : decode cX2_cellsOfRinks 70 = .ok (.iload_n 2, 1) := by decide +kernel
theorem dX2_cellsOfRinks_71 : decode cX2_cellsOfRinks 71 = .ok (.ireturn, 1) := by decide +kernel
theorem dX2_greatestRink_0 : decode cX2_greatestRink 0 = .ok (.iconst 0, 1) := by decide +kernel
theorem dX2_greatestRink_1 : decode cX2_greatestRink 1 = .ok (.istore_n 1, 1) := by decide +kernel
theorem dX2_greatestRink_2 : decode cX2_greatestRink 2 = .ok (.aload_n 0, 1) := by decide +kernel
theorem dX2_greatestRink_3 : decode cX2_greatestRink 3 = .ok (.getfield 11, 3) := by decide +kernel
theorem dX2_greatestRink_6 : decode cX2_greatestRink 6 = .ok (.lstore_n 2, 1) := by decide +kernel
theorem dX2_greatestRink_7 : decode cX2_greatestRink 7 = .ok (.iconst 0, 1) := by decide +kernel
theorem dX2_greatestRink_8 : decode cX2_greatestRink 8 = .ok (.istore 4, 2) := by decide +kernel
theorem dX2_greatestRink_10 : decode cX2_greatestRink 10 = .ok (.iload 4, 2) := by decide +kernel
theorem dX2_greatestRink_12 : decode cX2_greatestRink 12 = .ok (.bipush 64, 2) := by decide +kernel
theorem dX2_greatestRink_14 : decode cX2_greatestRink 14 = .ok (.if_icmp .ge 44, 3) := by decide +kernel
theorem dX2_greatestRink_17 : decode cX2_greatestRink 17 = .ok (.lload_n 2, 1) := by decide +kernel
theorem dX2_greatestRink_18 : decode cX2_greatestRink 18 = .ok (.lconst 0, 1) := by decide +kernel
theorem dX2_greatestRink_19 : decode cX2_greatestRink 19 = .ok (.lcmp, 1) := by decide +kernel
theorem dX2_greatestRink_20 : decode cX2_greatestRink 20 = .ok (.ifCond .eq 38, 3) := by decide +kernel
theorem dX2_greatestRink_23 : decode cX2_greatestRink 23 = .ok (.aload_n 0, 1) := by decide +kernel
theorem dX2_greatestRink_24 : decode cX2_greatestRink 24 = .ok (.lload_n 2, 1) := by decide +kernel
theorem dX2_greatestRink_25 : decode cX2_greatestRink 25 = .ok (.invokestatic 175, 3) := by decide +kernel
theorem dX2_greatestRink_28 : decode cX2_greatestRink 28 = .ok (.invokevirtual 149, 3) := by decide +kernel
theorem dX2_greatestRink_31 : decode cX2_greatestRink 31 = .ok (.lstore 5, 2) := by decide +kernel
theorem dX2_greatestRink_33 : decode cX2_greatestRink 33 = .ok (.iload_n 1, 1) := by decide +kernel
theorem dX2_greatestRink_34 : decode cX2_greatestRink 34 = .ok (.lload 5, 2) := by decide +kernel
theorem dX2_greatestRink_36 : decode cX2_greatestRink 36 = .ok (.invokestatic 115, 3) := by decide +kernel
theorem dX2_greatestRink_39 : decode cX2_greatestRink 39 = .ok (.invokestatic 185, 3) := by decide +kernel
theorem dX2_greatestRink_42 : decode cX2_greatestRink 42 = .ok (.istore_n 1, 1) := by decide +kernel
theorem dX2_greatestRink_43 : decode cX2_greatestRink 43 = .ok (.lload_n 2, 1) := by decide +kernel
theorem dX2_greatestRink_44 : decode cX2_greatestRink 44 = .ok (.lload 5, 2) := by decide +kernel
theorem dX2_greatestRink_46 : decode cX2_greatestRink 46 = .ok (.ldc2_w 9, 3) := by decide +kernel
theorem dX2_greatestRink_49 : decode cX2_greatestRink 49 = .ok (.lxor, 1) := by decide +kernel
theorem dX2_greatestRink_50 : decode cX2_greatestRink 50 = .ok (.land, 1) := by decide +kernel
theorem dX2_greatestRink_51 : decode cX2_greatestRink 51 = .ok (.lstore_n 2, 1) := by decide +kernel
theorem dX2_greatestRink_52 : decode cX2_greatestRink 52 = .ok (.iinc 4 1, 3) := by decide +kernel
theorem dX2_greatestRink_55 : decode cX2_greatestRink 55 = .ok (.goto (-45), 3) := by decide +kernel
theorem dX2_greatestRink_58 : decode cX2_greatestRink 58 = .ok (.iload_n 1, 1) := by decide +kernel
theorem dX2_greatestRink_59 : decode cX2_greatestRink 59 = .ok (.ireturn, 1) := by decide +kernel
theorem dX2_ownerOf_0 : decode cX2_ownerOf 0 = .ok (.iconst 0, 1) := by decide +kernel
theorem dX2_ownerOf_1 : decode cX2_ownerOf 1 = .ok (.istore_n 3, 1) := by decide +kernel
theorem dX2_ownerOf_2 : decode cX2_ownerOf 2 = .ok (.iload_n 3, 1) := by decide +kernel
theorem dX2_ownerOf_3 : decode cX2_ownerOf 3 = .ok (.iconst 3, 1) := by decide +kernel
theorem dX2_ownerOf_4 : decode cX2_ownerOf 4 = .ok (.if_icmp .ge 27, 3) := by decide +kernel
theorem dX2_ownerOf_7 : decode cX2_ownerOf 7 = .ok (.aload_n 0, 1) := by decide +kernel
theorem dX2_ownerOf_8 : decode cX2_ownerOf 8 = .ok (.getfield 35, 3) := by decide +kernel
theorem dX2_ownerOf_11 : decode cX2_ownerOf 11 = .ok (.iload_n 3, 1) := by decide +kernel
theorem dX2_ownerOf_12 : decode cX2_ownerOf 12 = .ok (.aaload, 1) := by decide +kernel
theorem dX2_ownerOf_13 : decode cX2_ownerOf 13 = .ok (.getfield 131, 3) := by decide +kernel
theorem dX2_ownerOf_16 : decode cX2_ownerOf 16 = .ok (.lload_n 1, 1) := by decide +kernel
theorem dX2_ownerOf_17 : decode cX2_ownerOf 17 = .ok (.land, 1) := by decide +kernel
theorem dX2_ownerOf_18 : decode cX2_ownerOf 18 = .ok (.lconst 0, 1) := by decide +kernel
theorem dX2_ownerOf_19 : decode cX2_ownerOf 19 = .ok (.lcmp, 1) := by decide +kernel
theorem dX2_ownerOf_20 : decode cX2_ownerOf 20 = .ok (.ifCond .eq 5, 3) := by decide +kernel
theorem dX2_ownerOf_23 : decode cX2_ownerOf 23 = .ok (.iload_n 3, 1) := by decide +kernel
theorem dX2_ownerOf_24 : decode cX2_ownerOf 24 = .ok (.ireturn, 1) := by decide +kernel
theorem dX2_ownerOf_25 : decode cX2_ownerOf 25 = .ok (.iinc 3 1, 3) := by decide +kernel
theorem dX2_ownerOf_28 : decode cX2_ownerOf 28 = .ok (.goto (-26), 3) := by decide +kernel
theorem dX2_ownerOf_31 : decode cX2_ownerOf 31 = .ok (.iconst (-1), 1) := by decide +kernel
theorem dX2_ownerOf_32 : decode cX2_ownerOf 32 = .ok (.ireturn, 1) := by decide +kernel
theorem dX2_ownedCells_0 : decode cX2_ownedCells 0 = .ok (.aload_n 0, 1) := by decide +kernel
theorem dX2_ownedCells_1 : decode cX2_ownedCells 1 = .ok (.invokevirtual 181, 3) := by decide +kernel
theorem dX2_ownedCells_4 : decode cX2_ownedCells 4 = .ok (.invokestatic 115, 3) := by decide +kernel
theorem dX2_ownedCells_7 : decode cX2_ownedCells 7 = .ok (.ireturn, 1) := by decide +kernel
theorem dX2_ownedByAny_0 : decode cX2_ownedByAny 0 = .ok (.lconst 0, 1) := by decide +kernel
theorem dX2_ownedByAny_1 : decode cX2_ownedByAny 1 = .ok (.lstore_n 1, 1) := by decide +kernel
theorem dX2_ownedByAny_2 : decode cX2_ownedByAny 2 = .ok (.iconst 0, 1) := by decide +kernel
theorem dX2_ownedByAny_3 : decode cX2_ownedByAny 3 = .ok (.istore_n 3, 1) := by decide +kernel
theorem dX2_ownedByAny_4 : decode cX2_ownedByAny 4 = .ok (.iload_n 3, 1) := by decide +kernel
theorem dX2_ownedByAny_5 : decode cX2_ownedByAny 5 = .ok (.iconst 3, 1) := by decide +kernel
theorem dX2_ownedByAny_6 : decode cX2_ownedByAny 6 = .ok (.if_icmp .ge 21, 3) := by decide +kernel
theorem dX2_ownedByAny_9 : decode cX2_ownedByAny 9 = .ok (.lload_n 1, 1) := by decide +kernel
theorem dX2_ownedByAny_10 : decode cX2_ownedByAny 10 = .ok (.aload_n 0, 1) := by decide +kernel
theorem dX2_ownedByAny_11 : decode cX2_ownedByAny 11 = .ok (.getfield 35, 3) := by decide +kernel
theorem dX2_ownedByAny_14 : decode cX2_ownedByAny 14 = .ok (.iload_n 3, 1) := by decide +kernel
theorem dX2_ownedByAny_15 : decode cX2_ownedByAny 15 = .ok (.aaload, 1) := by decide +kernel
theorem dX2_ownedByAny_16 : decode cX2_ownedByAny 16 = .ok (.getfield 131, 3) := by decide +kernel
theorem dX2_ownedByAny_19 : decode cX2_ownedByAny 19 = .ok (.lor, 1) := by decide +kernel
theorem dX2_ownedByAny_20 : decode cX2_ownedByAny 20 = .ok (.lstore_n 1, 1) := by decide +kernel
theorem dX2_ownedByAny_21 : decode cX2_ownedByAny 21 = .ok (.iinc 3 1, 3) := by decide +kernel
theorem dX2_ownedByAny_24 : decode cX2_ownedByAny 24 = .ok (.goto (-20), 3) := by decide +kernel
theorem dX2_ownedByAny_27 : decode cX2_ownedByAny 27 = .ok (.lload_n 1, 1) := by decide +kernel
theorem dX2_ownedByAny_28 : decode cX2_ownedByAny 28 = .ok (.lreturn, 1) := by decide +kernel
theorem dX2_allPurses_0 : decode cX2_allPurses 0 = .ok (.iconst 0, 1) := by decide +kernel
theorem dX2_allPurses_1 : decode cX2_allPurses 1 = .ok (.istore_n 1, 1) := by decide +kernel
theorem dX2_allPurses_2 : decode cX2_allPurses 2 = .ok (.iconst 0, 1) := by decide +kernel
theorem dX2_allPurses_3 : decode cX2_allPurses 3 = .ok (.istore_n 2, 1) := by decide +kernel
theorem dX2_allPurses_4 : decode cX2_allPurses 4 = .ok (.iload_n 2, 1) := by decide +kernel
theorem dX2_allPurses_5 : decode cX2_allPurses 5 = .ok (.iconst 3, 1) := by decide +kernel
theorem dX2_allPurses_6 : decode cX2_allPurses 6 = .ok (.if_icmp .ge 21, 3) := by decide +kernel
theorem dX2_allPurses_9 : decode cX2_allPurses 9 = .ok (.iload_n 1, 1) := by decide +kernel
theorem dX2_allPurses_10 : decode cX2_allPurses 10 = .ok (.aload_n 0, 1) := by decide +kernel
theorem dX2_allPurses_11 : decode cX2_allPurses 11 = .ok (.getfield 35, 3) := by decide +kernel
theorem dX2_allPurses_14 : decode cX2_allPurses 14 = .ok (.iload_n 2, 1) := by decide +kernel
theorem dX2_allPurses_15 : decode cX2_allPurses 15 = .ok (.aaload, 1) := by decide +kernel
theorem dX2_allPurses_16 : decode cX2_allPurses 16 = .ok (.getfield 100, 3) := by decide +kernel
theorem dX2_allPurses_19 : decode cX2_allPurses 19 = .ok (.iadd, 1) := by decide +kernel
theorem dX2_allPurses_20 : decode cX2_allPurses 20 = .ok (.istore_n 1, 1) := by decide +kernel
theorem dX2_allPurses_21 : decode cX2_allPurses 21 = .ok (.iinc 2 1, 3) := by decide +kernel
theorem dX2_allPurses_24 : decode cX2_allPurses 24 = .ok (.goto (-20), 3) := by decide +kernel
theorem dX2_allPurses_27 : decode cX2_allPurses 27 = .ok (.iload_n 1, 1) := by decide +kernel
theorem dX2_allPurses_28 : decode cX2_allPurses 28 = .ok (.ireturn, 1) := by decide +kernel
theorem dX3_init_0 : decode cX3_init 0 = .ok (.aload_n 0, 1) := by decide +kernel
theorem dX3_init_1 : decode cX3_init 1 = .ok (.invokespecial 3, 3) := by decide +kernel
theorem dX3_init_4 : decode cX3_init 4 = .ok (.aload_n 0, 1) := by decide +kernel
theorem dX3_init_5 : decode cX3_init 5 = .ok (.bipush 64, 2) := by decide +kernel
theorem dX3_init_7 : decode cX3_init 7 = .ok (.newarray .int, 2) := by decide +kernel
theorem dX3_init_9 : decode cX3_init 9 = .ok (.putfield 9, 3) := by decide +kernel
theorem dX3_init_12 : decode cX3_init 12 = .ok (.return_, 1) := by decide +kernel
theorem dX3_rinksByJoining_0 : decode cX3_rinksByJoining 0 = .ok (.iconst 0, 1) := by decide +kernel
theorem dX3_rinksByJoining_1 : decode cX3_rinksByJoining 1 = .ok (.istore_n 2, 1) := by decide +kernel
theorem dX3_rinksByJoining_2 : decode cX3_rinksByJoining 2 = .ok (.iload_n 2, 1) := by decide +kernel
theorem dX3_rinksByJoining_3 : decode cX3_rinksByJoining 3 = .ok (.bipush 64, 2) := by decide +kernel
theorem dX3_rinksByJoining_5 : decode cX3_rinksByJoining 5 = .ok (.if_icmp .ge 16, 3) := by decide +kernel
theorem dX3_rinksByJoining_8 : decode cX3_rinksByJoining 8 = .ok (.aload_n 0, 1) := by decide +kernel
theorem dX3_rinksByJoining_9 : decode cX3_rinksByJoining 9 = .ok (.getfield 9, 3) := by decide +kernel
theorem dX3_rinksByJoining_12 : decode cX3_rinksByJoining 12 = .ok (.iload_n 2, 1) := by decide +kernel
theorem dX3_rinksByJoining_13 : decode cX3_rinksByJoining 13 = .ok (.iload_n 2, 1) := by decide +kernel
theorem dX3_rinksByJoining_14 : decode cX3_rinksByJoining 14 = .ok (.iastore, 1) := by decide +kernel
theorem dX3_rinksByJoining_15 : decode cX3_rinksByJoining 15 = .ok (.iinc 2 1, 3) := by decide +kernel
theorem dX3_rinksByJoining_18 : decode cX3_rinksByJoining 18 = .ok (.goto (-16), 3) := by decide +kernel
theorem dX3_rinksByJoining_21 : decode cX3_rinksByJoining 21 = .ok (.aload_n 1, 1) := by decide +kernel
theorem dX3_rinksByJoining_22 : decode cX3_rinksByJoining 22 = .ok (.invokevirtual 15, 3) := by decide +kernel
theorem dX3_rinksByJoining_25 : decode cX3_rinksByJoining 25 = .ok (.istore_n 2, 1) := by decide +kernel
theorem dX3_rinksByJoining_26 : decode cX3_rinksByJoining 26 = .ok (.iconst 0, 1) := by decide +kernel
theorem dX3_rinksByJoining_27 : decode cX3_rinksByJoining 27 = .ok (.istore_n 3, 1) := by decide +kernel
theorem dX3_rinksByJoining_28 : decode cX3_rinksByJoining 28 = .ok (.iload_n 3, 1) := by decide +kernel
theorem dX3_rinksByJoining_29 : decode cX3_rinksByJoining 29 = .ok (.sipush 144, 3) := by decide +kernel
theorem dX3_rinksByJoining_32 : decode cX3_rinksByJoining 32 = .ok (.if_icmp .ge 49, 3) := by decide +kernel
theorem dX3_rinksByJoining_35 : decode cX3_rinksByJoining 35 = .ok (.iload_n 3, 1) := by decide +kernel
theorem dX3_rinksByJoining_36 : decode cX3_rinksByJoining 36 = .ok (.invokestatic 21, 3) := by decide +kernel
theorem dX3_rinksByJoining_39 : decode cX3_rinksByJoining 39 = .ok (.aload_n 1, 1) := by decide +kernel
theorem dX3_rinksByJoining_40 : decode cX3_rinksByJoining 40 = .ok (.getfield 27, 3) := by decide +kernel
theorem dX3_rinksByJoining_43 : decode cX3_rinksByJoining 43 = .ok (.land, 1) := by decide +kernel
theorem dX3_rinksByJoining_44 : decode cX3_rinksByJoining 44 = .ok (.lstore 4, 2) := by decide +kernel
theorem dX3_rinksByJoining_46 : decode cX3_rinksByJoining 46 = .ok (.lload 4, 2) := by decide +kernel
theorem dX3_rinksByJoining_48 : decode cX3_rinksByJoining 48 = .ok (.invokestatic 31, 3) := by decide +kernel
theorem dX3_rinksByJoining_51 : decode cX3_rinksByJoining 51 = .ok (.iconst 2, 1) := by decide +kernel
theorem dX3_rinksByJoining_52 : decode cX3_rinksByJoining 52 = .ok (.if_icmp .ne 23, 3) := by decide +kernel
theorem dX3_rinksByJoining_55 : decode cX3_rinksByJoining 55 = .ok (.aload_n 1, 1) := by decide +kernel
theorem dX3_rinksByJoining_56 : decode cX3_rinksByJoining 56 = .ok (.iload_n 3, 1) := by decide +kernel
theorem dX3_rinksByJoining_57 : decode cX3_rinksByJoining 57 = .ok (.invokevirtual 37, 3) := by decide +kernel
theorem dX3_rinksByJoining_60 : decode cX3_rinksByJoining 60 = .ok (.ifCond .ne 15, 3) := by decide +kernel
theorem dX3_rinksByJoining_63 : decode cX3_rinksByJoining 63 = .ok (.aload_n 0, 1) := by decide +kernel
theorem dX3_rinksByJoining_64 : decode cX3_rinksByJoining 64 = .ok (.lload 4, 2) := by decide +kernel
theorem dX3_rinksByJoining_66 : decode cX3_rinksByJoining 66 = .ok (.invokevirtual 41, 3) := by decide +kernel
theorem dX3_rinksByJoining_69 : decode cX3_rinksByJoining 69 = .ok (.ifCond .eq 6, 3) := by decide +kernel
theorem dX3_rinksByJoining_72 : decode cX3_rinksByJoining 72 = .ok (.iinc 2 (-1), 3) := by decide +kernel
theorem dX3_rinksByJoining_75 : decode cX3_rinksByJoining 75 = .ok (.iinc 3 1, 3) := by decide +kernel
theorem dX3_rinksByJoining_78 : decode cX3_rinksByJoining 78 = .ok (.goto (-50), 3) := by decide +kernel
theorem dX3_rinksByJoining_81 : decode cX3_rinksByJoining 81 = .ok (.iload_n 2, 1) := by decide +kernel
theorem dX3_rinksByJoining_82 : decode cX3_rinksByJoining 82 = .ok (.ireturn, 1) := by decide +kernel
theorem dX3_join_0 : decode cX3_join 0 = .ok (.aload_n 0, 1) := by decide +kernel
theorem dX3_join_1 : decode cX3_join 1 = .ok (.lload_n 1, 1) := by decide +kernel
theorem dX3_join_2 : decode cX3_join 2 = .ok (.invokestatic 45, 3) := by decide +kernel
theorem dX3_join_5 : decode cX3_join 5 = .ok (.invokevirtual 48, 3) := by decide +kernel
theorem dX3_join_8 : decode cX3_join 8 = .ok (.istore_n 3, 1) := by decide +kernel
theorem dX3_join_9 : decode cX3_join 9 = .ok (.aload_n 0, 1) := by decide +kernel
theorem dX3_join_10 : decode cX3_join 10 = .ok (.lload_n 1, 1) := by decide +kernel
theorem dX3_join_11 : decode cX3_join 11 = .ok (.lload_n 1, 1) := by decide +kernel
theorem dX3_join_12 : decode cX3_join 12 = .ok (.invokestatic 52, 3) := by decide +kernel
theorem dX3_join_15 : decode cX3_join 15 = .ok (.ldc2_w 56, 3) := by decide +kernel
theorem dX3_join_18 : decode cX3_join 18 = .ok (.lxor, 1) := by decide +kernel
theorem dX3_join_19 : decode cX3_join 19 = .ok (.land, 1) := by decide +kernel
theorem dX3_join_20 : decode cX3_join 20 = .ok (.invokestatic 45, 3) := by decide +kernel
theorem dX3_join_23 : decode cX3_join 23 = .ok (.invokevirtual 48, 3) := by decide +kernel
theorem dX3_join_26 : decode cX3_join 26 = .ok (.istore 4, 2) := by decide +kernel
theorem dX3_join_28 : decode cX3_join 28 = .ok (.aload_n 0, 1) := by decide +kernel
theorem dX3_join_29 : decode cX3_join 29 = .ok (.getfield 9, 3) := by decide +kernel
theorem dX3_join_32 : decode cX3_join 32 = .ok (.iload_n 3, 1) := by decide +kernel
theorem dX3_join_33 : decode cX3_join 33 = .ok (.iload 4, 2) := by decide +kernel
theorem dX3_join_35 : decode cX3_join 35 = .ok (.invokestatic 58, 3) := by decide +kernel
theorem dX3_join_38 : decode cX3_join 38 = .ok (.iload_n 3, 1) := by decide +kernel
theorem dX3_join_39 : decode cX3_join 39 = .ok (.iload 4, 2) := by decide +kernel
theorem dX3_join_41 : decode cX3_join 41 = .ok (.invokestatic 64, 3) := by decide +kernel
theorem dX3_join_44 : decode cX3_join 44 = .ok (.iastore, 1) := by decide +kernel
theorem dX3_join_45 : decode cX3_join 45 = .ok (.iload_n 3, 1) := by decide +kernel
theorem dX3_join_46 : decode cX3_join 46 = .ok (.iload 4, 2) := by decide +kernel
theorem dX3_join_48 : decode cX3_join 48 = .ok (.if_icmp .eq 7, 3) := by decide +kernel
theorem dX3_join_51 : decode cX3_join 51 = .ok (.iconst 1, 1) := by decide +kernel
theorem dX3_join_52 : decode cX3_join 52 = .ok (.goto 4, 3) := by decide +kernel
theorem dX3_join_55 : decode cX3_join 55 = .ok (.iconst 0, 1) := by decide +kernel
theorem dX3_join_56 : decode cX3_join 56 = .ok (.ireturn, 1) := by decide +kernel
theorem dX3_lowestJoined_0 : decode cX3_lowestJoined 0 = .ok (.iload_n 1, 1) := by decide +kernel
theorem dX3_lowestJoined_1 : decode cX3_lowestJoined 1 = .ok (.istore_n 2, 1) := by decide +kernel
theorem dX3_lowestJoined_2 : decode cX3_lowestJoined 2 = .ok (.iconst 0, 1) := by decide +kernel
theorem dX3_lowestJoined_3 : decode cX3_lowestJoined 3 = .ok (.istore_n 3, 1) := by decide +kernel
theorem dX3_lowestJoined_4 : decode cX3_lowestJoined 4 = .ok (.iload_n 3, 1) := by decide +kernel
theorem dX3_lowestJoined_5 : decode cX3_lowestJoined 5 = .ok (.bipush 64, 2) := by decide +kernel
theorem dX3_lowestJoined_7 : decode cX3_lowestJoined 7 = .ok (.if_icmp .ge 26, 3) := by decide +kernel
theorem dX3_lowestJoined_10 : decode cX3_lowestJoined 10 = .ok (.aload_n 0, 1) := by decide +kernel
theorem dX3_lowestJoined_11 : decode cX3_lowestJoined 11 = .ok (.getfield 9, 3) := by decide +kernel
theorem dX3_lowestJoined_14 : decode cX3_lowestJoined 14 = .ok (.iload_n 2, 1) := by decide +kernel
theorem dX3_lowestJoined_15 : decode cX3_lowestJoined 15 = .ok (.iaload, 1) := by decide +kernel
theorem dX3_lowestJoined_16 : decode cX3_lowestJoined 16 = .ok (.iload_n 2, 1) := by decide +kernel
theorem dX3_lowestJoined_17 : decode cX3_lowestJoined 17 = .ok (.if_icmp .eq 16, 3) := by decide +kernel
theorem dX3_lowestJoined_20 : decode cX3_lowestJoined 20 = .ok (.aload_n 0, 1) := by decide +kernel
theorem dX3_lowestJoined_21 : decode cX3_lowestJoined 21 = .ok (.getfield 9, 3) := by decide +kernel
theorem dX3_lowestJoined_24 : decode cX3_lowestJoined 24 = .ok (.iload_n 2, 1) := by decide +kernel
theorem dX3_lowestJoined_25 : decode cX3_lowestJoined 25 = .ok (.iaload, 1) := by decide +kernel
theorem dX3_lowestJoined_26 : decode cX3_lowestJoined 26 = .ok (.istore_n 2, 1) := by decide +kernel
theorem dX3_lowestJoined_27 : decode cX3_lowestJoined 27 = .ok (.iinc 3 1, 3) := by decide +kernel
theorem dX3_lowestJoined_30 : decode cX3_lowestJoined 30 = .ok (.goto (-26), 3) := by decide +kernel
theorem dX3_lowestJoined_33 : decode cX3_lowestJoined 33 = .ok (.iload_n 2, 1) := by decide +kernel
theorem dX3_lowestJoined_34 : decode cX3_lowestJoined 34 = .ok (.ireturn, 1) := by decide +kernel
theorem dX4_init_0 : decode cX4_init 0 = .ok (.aload_n 0, 1) := by decide +kernel
theorem dX4_init_1 : decode cX4_init 1 = .ok (.invokespecial 1, 3) := by decide +kernel
theorem dX4_init_4 : decode cX4_init 4 = .ok (.aload_n 0, 1) := by decide +kernel
theorem dX4_init_5 : decode cX4_init 5 = .ok (.bipush 6, 2) := by decide +kernel
theorem dX4_init_7 : decode cX4_init 7 = .ok (.anewarray 9, 3) := by decide +kernel
theorem dX4_init_10 : decode cX4_init 10 = .ok (.putfield 11, 3) := by decide +kernel
theorem dX4_init_13 : decode cX4_init 13 = .ok (.iconst 0, 1) := by decide +kernel
theorem dX4_init_14 : decode cX4_init 14 = .ok (.istore_n 1, 1) := by decide +kernel
theorem dX4_init_15 : decode cX4_init 15 = .ok (.iload_n 1, 1) := by decide +kernel
theorem dX4_init_16 : decode cX4_init 16 = .ok (.bipush 6, 2) := by decide +kernel
theorem dX4_init_18 : decode cX4_init 18 = .ok (.if_icmp .ge 22, 3) := by decide +kernel
theorem dX4_init_21 : decode cX4_init 21 = .ok (.aload_n 0, 1) := by decide +kernel
theorem dX4_init_22 : decode cX4_init 22 = .ok (.getfield 11, 3) := by decide +kernel
theorem dX4_init_25 : decode cX4_init 25 = .ok (.iload_n 1, 1) := by decide +kernel
theorem dX4_init_26 : decode cX4_init 26 = .ok (.new 9, 3) := by decide +kernel
theorem dX4_init_29 : decode cX4_init 29 = .ok (.dup, 1) := by decide +kernel
theorem dX4_init_30 : decode cX4_init 30 = .ok (.invokespecial 15, 3) := by decide +kernel
theorem dX4_init_33 : decode cX4_init 33 = .ok (.aastore, 1) := by decide +kernel
theorem dX4_init_34 : decode cX4_init 34 = .ok (.iinc 1 1, 3) := by decide +kernel
theorem dX4_init_37 : decode cX4_init 37 = .ok (.goto (-22), 3) := by decide +kernel
theorem dX4_init_40 : decode cX4_init 40 = .ok (.aload_n 0, 1) := by decide +kernel
theorem dX4_init_41 : decode cX4_init 41 = .ok (.iconst 0, 1) := by decide +kernel
theorem dX4_init_42 : decode cX4_init 42 = .ok (.putfield 16, 3) := by decide +kernel
theorem dX4_init_45 : decode cX4_init 45 = .ok (.aload_n 0, 1) := by decide +kernel
theorem dX4_init_46 : decode cX4_init 46 = .ok (.iconst 0, 1) := by decide +kernel
theorem dX4_init_47 : decode cX4_init 47 = .ok (.putfield 20, 3) := by decide +kernel
theorem dX4_init_50 : decode cX4_init 50 = .ok (.return_, 1) := by decide +kernel
theorem dX4_push_0 : decode cX4_push 0 = .ok (.aload_n 0, 1) := by decide +kernel
theorem dX4_push_1 : decode cX4_push 1 = .ok (.getfield 20, 3) := by decide +kernel
theorem dX4_push_4 : decode cX4_push 4 = .ok (.bipush 6, 2) := by decide +kernel
theorem dX4_push_6 : decode cX4_push 6 = .ok (.if_icmp .ne 26, 3) := by decide +kernel
theorem dX4_push_9 : decode cX4_push 9 = .ok (.aload_n 0, 1) := by decide +kernel
theorem dX4_push_10 : decode cX4_push 10 = .ok (.aload_n 0, 1) := by decide +kernel
theorem dX4_push_11 : decode cX4_push 11 = .ok (.getfield 16, 3) := by decide +kernel
theorem dX4_push_14 : decode cX4_push 14 = .ok (.iconst 1, 1) := by decide +kernel
theorem dX4_push_15 : decode cX4_push 15 = .ok (.iadd, 1) := by decide +kernel
theorem dX4_push_16 : decode cX4_push 16 = .ok (.bipush 6, 2) := by decide +kernel
theorem dX4_push_18 : decode cX4_push 18 = .ok (.irem, 1) := by decide +kernel
theorem dX4_push_19 : decode cX4_push 19 = .ok (.putfield 16, 3) := by decide +kernel
theorem dX4_push_22 : decode cX4_push 22 = .ok (.aload_n 0, 1) := by decide +kernel
theorem dX4_push_23 : decode cX4_push 23 = .ok (.dup, 1) := by decide +kernel
theorem dX4_push_24 : decode cX4_push 24 = .ok (.getfield 20, 3) := by decide +kernel
theorem dX4_push_27 : decode cX4_push 27 = .ok (.iconst 1, 1) := by decide +kernel
theorem dX4_push_28 : decode cX4_push 28 = .ok (.isub, 1) := by decide +kernel
theorem dX4_push_29 : decode cX4_push 29 = .ok (.putfield 20, 3) := by decide +kernel
theorem dX4_push_32 : decode cX4_push 32 = .ok (.aload_n 0, 1) := by decide +kernel
theorem dX4_push_33 : decode cX4_push 33 = .ok (.getfield 11, 3) := by decide +kernel
theorem dX4_push_36 : decode cX4_push 36 = .ok (.aload_n 0, 1) := by decide +kernel
theorem dX4_push_37 : decode cX4_push 37 = .ok (.getfield 16, 3) := by decide +kernel
theorem dX4_push_40 : decode cX4_push 40 = .ok (.aload_n 0, 1) := by decide +kernel
theorem dX4_push_41 : decode cX4_push 41 = .ok (.getfield 20, 3) := by decide +kernel
theorem dX4_push_44 : decode cX4_push 44 = .ok (.iadd, 1) := by decide +kernel
theorem dX4_push_45 : decode cX4_push 45 = .ok (.bipush 6, 2) := by decide +kernel
theorem dX4_push_47 : decode cX4_push 47 = .ok (.irem, 1) := by decide +kernel
theorem dX4_push_48 : decode cX4_push 48 = .ok (.aaload, 1) := by decide +kernel
theorem dX4_push_49 : decode cX4_push 49 = .ok (.aload_n 1, 1) := by decide +kernel
theorem dX4_push_50 : decode cX4_push 50 = .ok (.invokevirtual 23, 3) := by decide +kernel
theorem dX4_push_53 : decode cX4_push 53 = .ok (.aload_n 0, 1) := by decide +kernel
theorem dX4_push_54 : decode cX4_push 54 = .ok (.dup, 1) := by decide +kernel
theorem dX4_push_55 : decode cX4_push 55 = .ok (.getfield 20, 3) := by decide +kernel
theorem dX4_push_58 : decode cX4_push 58 = .ok (.iconst 1, 1) := by decide +kernel
theorem dX4_push_59 : decode cX4_push 59 = .ok (.iadd, 1) := by decide +kernel
theorem dX4_push_60 : decode cX4_push 60 = .ok (.putfield 20, 3) := by decide +kernel
theorem dX4_push_63 : decode cX4_push 63 = .ok (.return_, 1) := by decide +kernel
theorem dX4_popInto_0 : decode cX4_popInto 0 = .ok (.aload_n 0, 1) := by decide +kernel
theorem dX4_popInto_1 : decode cX4_popInto 1 = .ok (.dup, 1) := by decide +kernel
theorem dX4_popInto_2 : decode cX4_popInto 2 = .ok (.getfield 20, 3) := by decide +kernel
theorem dX4_popInto_5 : decode cX4_popInto 5 = .ok (.iconst 1, 1) := by decide +kernel
theorem dX4_popInto_6 : decode cX4_popInto 6 = .ok (.isub, 1) := by decide +kernel
theorem dX4_popInto_7 : decode cX4_popInto 7 = .ok (.putfield 20, 3) := by decide +kernel
theorem dX4_popInto_10 : decode cX4_popInto 10 = .ok (.aload_n 1, 1) := by decide +kernel
theorem dX4_popInto_11 : decode cX4_popInto 11 = .ok (.aload_n 0, 1) := by decide +kernel
theorem dX4_popInto_12 : decode cX4_popInto 12 = .ok (.getfield 11, 3) := by decide +kernel
theorem dX4_popInto_15 : decode cX4_popInto 15 = .ok (.aload_n 0, 1) := by decide +kernel
theorem dX4_popInto_16 : decode cX4_popInto 16 = .ok (.getfield 16, 3) := by decide +kernel
theorem dX4_popInto_19 : decode cX4_popInto 19 = .ok (.aload_n 0, 1) := by decide +kernel
theorem dX4_popInto_20 : decode cX4_popInto 20 = .ok (.getfield 20, 3) := by decide +kernel
theorem dX4_popInto_23 : decode cX4_popInto 23 = .ok (.iadd, 1) := by decide +kernel
theorem dX4_popInto_24 : decode cX4_popInto 24 = .ok (.bipush 6, 2) := by decide +kernel
theorem dX4_popInto_26 : decode cX4_popInto 26 = .ok (.irem, 1) := by decide +kernel
theorem dX4_popInto_27 : decode cX4_popInto 27 = .ok (.aaload, 1) := by decide +kernel
theorem dX4_popInto_28 : decode cX4_popInto 28 = .ok (.invokevirtual 23, 3) := by decide +kernel
theorem dX4_popInto_31 : decode cX4_popInto 31 = .ok (.return_, 1) := by decide +kernel
theorem dX5_init_0 : decode cX5_init 0 = .ok (.aload_n 0, 1) := by decide +kernel
theorem dX5_init_1 : decode cX5_init 1 = .ok (.invokespecial 3, 3) := by decide +kernel
theorem dX5_init_4 : decode cX5_init 4 = .ok (.aload_n 0, 1) := by decide +kernel
theorem dX5_init_5 : decode cX5_init 5 = .ok (.iload_n 1, 1) := by decide +kernel
theorem dX5_init_6 : decode cX5_init 6 = .ok (.putfield 9, 3) := by decide +kernel
theorem dX5_init_9 : decode cX5_init 9 = .ok (.aload_n 0, 1) := by decide +kernel
theorem dX5_init_10 : decode cX5_init 10 = .ok (.iload_n 2, 1) := by decide +kernel
theorem dX5_init_11 : decode cX5_init 11 = .ok (.putfield 15, 3) := by decide +kernel
theorem dX5_init_14 : decode cX5_init 14 = .ok (.aload_n 0, 1) := by decide +kernel
theorem dX5_init_15 : decode cX5_init 15 = .ok (.bipush 20, 2) := by decide +kernel
theorem dX5_init_17 : decode cX5_init 17 = .ok (.putfield 18, 3) := by decide +kernel
theorem dX5_init_20 : decode cX5_init 20 = .ok (.aload_n 0, 1) := by decide +kernel
theorem dX5_init_21 : decode cX5_init 21 = .ok (.iconst 0, 1) := by decide +kernel
theorem dX5_init_22 : decode cX5_init 22 = .ok (.putfield 21, 3) := by decide +kernel
theorem dX5_init_25 : decode cX5_init 25 = .ok (.aload_n 0, 1) := by decide +kernel
theorem dX5_init_26 : decode cX5_init 26 = .ok (.iconst 0, 1) := by decide +kernel
theorem dX5_init_27 : decode cX5_init 27 = .ok (.putfield 24, 3) := by decide +kernel
theorem dX5_init_30 : decode cX5_init 30 = .ok (.aload_n 0, 1) := by decide +kernel
theorem dX5_init_31 : decode cX5_init 31 = .ok (.iconst 0, 1) := by decide +kernel
theorem dX5_init_32 : decode cX5_init 32 = .ok (.putfield 27, 3) := by decide +kernel
theorem dX5_init_35 : decode cX5_init 35 = .ok (.aload_n 0, 1) := by decide +kernel
theorem dX5_init_36 : decode cX5_init 36 = .ok (.lconst 0, 1) := by decide +kernel
theorem dX5_init_37 : decode cX5_init 37 = .ok (.putfield 30, 3) := by decide +kernel
theorem dX5_init_40 : decode cX5_init 40 = .ok (.return_, 1) := by decide +kernel
theorem dX5_copyFrom_0 : decode cX5_copyFrom 0 = .ok (.aload_n 0, 1) := by decide +kernel
theorem dX5_copyFrom_1 : decode cX5_copyFrom 1 = .ok (.aload_n 1, 1) := by decide +kernel
theorem dX5_copyFrom_2 : decode cX5_copyFrom 2 = .ok (.getfield 9, 3) := by decide +kernel
theorem dX5_copyFrom_5 : decode cX5_copyFrom 5 = .ok (.putfield 9, 3) := by decide +kernel
theorem dX5_copyFrom_8 : decode cX5_copyFrom 8 = .ok (.aload_n 0, 1) := by decide +kernel
theorem dX5_copyFrom_9 : decode cX5_copyFrom 9 = .ok (.aload_n 1, 1) := by decide +kernel
theorem dX5_copyFrom_10 : decode cX5_copyFrom 10 = .ok (.getfield 15, 3) := by decide +kernel
theorem dX5_copyFrom_13 : decode cX5_copyFrom 13 = .ok (.putfield 15, 3) := by decide +kernel
theorem dX5_copyFrom_16 : decode cX5_copyFrom 16 = .ok (.aload_n 0, 1) := by decide +kernel
theorem dX5_copyFrom_17 : decode cX5_copyFrom 17 = .ok (.aload_n 1, 1) := by decide +kernel
theorem dX5_copyFrom_18 : decode cX5_copyFrom 18 = .ok (.getfield 18, 3) := by decide +kernel
theorem dX5_copyFrom_21 : decode cX5_copyFrom 21 = .ok (.putfield 18, 3) := by decide +kernel
theorem dX5_copyFrom_24 : decode cX5_copyFrom 24 = .ok (.aload_n 0, 1) := by decide +kernel
theorem dX5_copyFrom_25 : decode cX5_copyFrom 25 = .ok (.aload_n 1, 1) := by decide +kernel
theorem dX5_copyFrom_26 : decode cX5_copyFrom 26 = .ok (.getfield 21, 3) := by decide +kernel
theorem dX5_copyFrom_29 : decode cX5_copyFrom 29 = .ok (.putfield 21, 3) := by decide +kernel
theorem dX5_copyFrom_32 : decode cX5_copyFrom 32 = .ok (.aload_n 0, 1) := by decide +kernel
theorem dX5_copyFrom_33 : decode cX5_copyFrom 33 = .ok (.aload_n 1, 1) := by decide +kernel
theorem dX5_copyFrom_34 : decode cX5_copyFrom 34 = .ok (.getfield 24, 3) := by decide +kernel
theorem dX5_copyFrom_37 : decode cX5_copyFrom 37 = .ok (.putfield 24, 3) := by decide +kernel
theorem dX5_copyFrom_40 : decode cX5_copyFrom 40 = .ok (.aload_n 0, 1) := by decide +kernel
theorem dX5_copyFrom_41 : decode cX5_copyFrom 41 = .ok (.aload_n 1, 1) := by decide +kernel
theorem dX5_copyFrom_42 : decode cX5_copyFrom 42 = .ok (.getfield 27, 3) := by decide +kernel
theorem dX5_copyFrom_45 : decode cX5_copyFrom 45 = .ok (.putfield 27, 3) := by decide +kernel
theorem dX5_copyFrom_48 : decode cX5_copyFrom 48 = .ok (.aload_n 0, 1) := by decide +kernel
theorem dX5_copyFrom_49 : decode cX5_copyFrom 49 = .ok (.aload_n 1, 1) := by decide +kernel
theorem dX5_copyFrom_50 : decode cX5_copyFrom 50 = .ok (.getfield 30, 3) := by decide +kernel
theorem dX5_copyFrom_53 : decode cX5_copyFrom 53 = .ok (.putfield 30, 3) := by decide +kernel
theorem dX5_copyFrom_56 : decode cX5_copyFrom 56 = .ok (.return_, 1) := by decide +kernel
theorem dX5_ownedCells_0 : decode cX5_ownedCells 0 = .ok (.aload_n 0, 1) := by decide +kernel
theorem dX5_ownedCells_1 : decode cX5_ownedCells 1 = .ok (.getfield 30, 3) := by decide +kernel
theorem dX5_ownedCells_4 : decode cX5_ownedCells 4 = .ok (.invokestatic 34, 3) := by decide +kernel
theorem dX5_ownedCells_7 : decode cX5_ownedCells 7 = .ok (.ireturn, 1) := by decide +kernel
theorem dX5_move_0 : decode cX5_move 0 = .ok (.aload_n 0, 1) := by decide +kernel
theorem dX5_move_1 : decode cX5_move 1 = .ok (.aload_n 0, 1) := by decide +kernel
theorem dX5_move_2 : decode cX5_move 2 = .ok (.iload_n 1, 1) := by decide +kernel
theorem dX5_move_3 : decode cX5_move 3 = .ok (.invokevirtual 40, 3) := by decide +kernel
theorem dX5_move_6 : decode cX5_move 6 = .ok (.putfield 9, 3) := by decide +kernel
theorem dX5_move_9 : decode cX5_move 9 = .ok (.aload_n 0, 1) := by decide +kernel
theorem dX5_move_10 : decode cX5_move 10 = .ok (.aload_n 0, 1) := by decide +kernel
theorem dX5_move_11 : decode cX5_move 11 = .ok (.iload_n 1, 1) := by decide +kernel
theorem dX5_move_12 : decode cX5_move 12 = .ok (.invokevirtual 44, 3) := by decide +kernel
theorem dX5_move_15 : decode cX5_move 15 = .ok (.putfield 15, 3) := by decide +kernel
theorem dX5_move_18 : decode cX5_move 18 = .ok (.aload_n 0, 1) := by decide +kernel
theorem dX5_move_19 : decode cX5_move 19 = .ok (.dup, 1) := by decide +kernel
theorem dX5_move_20 : decode cX5_move 20 = .ok (.getfield 21, 3) := by decide +kernel
theorem dX5_move_23 : decode cX5_move 23 = .ok (.iconst 1, 1) := by decide +kernel
theorem dX5_move_24 : decode cX5_move 24 = .ok (.iadd, 1) := by decide +kernel
theorem dX5_move_25 : decode cX5_move 25 = .ok (.putfield 21, 3) := by decide +kernel
theorem dX5_move_28 : decode cX5_move 28 = .ok (.return_, 1) := by decide +kernel
theorem dX5_nextX_0 : decode cX5_nextX 0 = .ok (.iload_n 1, 1) := by decide +kernel
theorem dX5_nextX_1 : decode cX5_nextX 1 = .ok (.iconst 1, 1) := by decide +kernel
theorem dX5_nextX_2 : decode cX5_nextX 2 = .ok (.if_icmp .ne 12, 3) := by decide +kernel
theorem dX5_nextX_5 : decode cX5_nextX 5 = .ok (.aload_n 0, 1) := by decide +kernel
theorem dX5_nextX_6 : decode cX5_nextX 6 = .ok (.getfield 9, 3) := by decide +kernel
theorem dX5_nextX_9 : decode cX5_nextX 9 = .ok (.iconst 1, 1) := by decide +kernel
theorem dX5_nextX_10 : decode cX5_nextX 10 = .ok (.iadd, 1) := by decide +kernel
theorem dX5_nextX_11 : decode cX5_nextX 11 = .ok (.goto 21, 3) := by decide +kernel
theorem dX5_nextX_14 : decode cX5_nextX 14 = .ok (.iload_n 1, 1) := by decide +kernel
theorem dX5_nextX_15 : decode cX5_nextX 15 = .ok (.iconst 3, 1) := by decide +kernel
theorem dX5_nextX_16 : decode cX5_nextX 16 = .ok (.if_icmp .ne 12, 3) := by decide +kernel
theorem dX5_nextX_19 : decode cX5_nextX 19 = .ok (.aload_n 0, 1) := by decide +kernel
theorem dX5_nextX_20 : decode cX5_nextX 20 = .ok (.getfield 9, 3) := by decide +kernel
theorem dX5_nextX_23 : decode cX5_nextX 23 = .ok (.iconst 1, 1) := by decide +kernel
theorem dX5_nextX_24 : decode cX5_nextX 24 = .ok (.isub, 1) := by decide +kernel
theorem dX5_nextX_25 : decode cX5_nextX 25 = .ok (.goto 7, 3) := by decide +kernel
theorem dX5_nextX_28 : decode cX5_nextX 28 = .ok (.aload_n 0, 1) := by decide +kernel
theorem dX5_nextX_29 : decode cX5_nextX 29 = .ok (.getfield 9, 3) := by decide +kernel
theorem dX5_nextX_32 : decode cX5_nextX 32 = .ok (.ireturn, 1) := by decide +kernel
theorem dX5_nextY_0 : decode cX5_nextY 0 = .ok (.iload_n 1, 1) := by decide +kernel
theorem dX5_nextY_1 : decode cX5_nextY 1 = .ok (.iconst 2, 1) := by decide +kernel
theorem dX5_nextY_2 : decode cX5_nextY 2 = .ok (.if_icmp .ne 12, 3) := by decide +kernel
theorem dX5_nextY_5 : decode cX5_nextY 5 = .ok (.aload_n 0, 1) := by decide +kernel
theorem dX5_nextY_6 : decode cX5_nextY 6 = .ok (.getfield 15, 3) := by decide +kernel
theorem dX5_nextY_9 : decode cX5_nextY 9 = .ok (.iconst 1, 1) := by decide +kernel
theorem dX5_nextY_10 : decode cX5_nextY 10 = .ok (.iadd, 1) := by decide +kernel
theorem dX5_nextY_11 : decode cX5_nextY 11 = .ok (.goto 20, 3) := by decide +kernel
theorem dX5_nextY_14 : decode cX5_nextY 14 = .ok (.iload_n 1, 1) := by decide +kernel
theorem dX5_nextY_15 : decode cX5_nextY 15 = .ok (.ifCond .ne 12, 3) := by decide +kernel
theorem dX5_nextY_18 : decode cX5_nextY 18 = .ok (.aload_n 0, 1) := by decide +kernel
theorem dX5_nextY_19 : decode cX5_nextY 19 = .ok (.getfield 15, 3) := by decide +kernel
theorem dX5_nextY_22 : decode cX5_nextY 22 = .ok (.iconst 1, 1) := by decide +kernel
theorem dX5_nextY_23 : decode cX5_nextY 23 = .ok (.isub, 1) := by decide +kernel
theorem dX5_nextY_24 : decode cX5_nextY 24 = .ok (.goto 7, 3) := by decide +kernel
theorem dX5_nextY_27 : decode cX5_nextY 27 = .ok (.aload_n 0, 1) := by decide +kernel
theorem dX5_nextY_28 : decode cX5_nextY 28 = .ok (.getfield 15, 3) := by decide +kernel
theorem dX5_nextY_31 : decode cX5_nextY 31 = .ok (.ireturn, 1) := by decide +kernel
theorem dJ13_bitCount_95d88_0 : decode cJ13_bitCount_95d88 0 = .ok (.lload_n 0, 1) := by decide +kernel
theorem dJ13_bitCount_95d88_1 : decode cJ13_bitCount_95d88 1 = .ok (.lload_n 0, 1) := by decide +kernel
theorem dJ13_bitCount_95d88_2 : decode cJ13_bitCount_95d88 2 = .ok (.iconst 1, 1) := by decide +kernel
theorem dJ13_bitCount_95d88_3 : decode cJ13_bitCount_95d88 3 = .ok (.lushr, 1) := by decide +kernel
theorem dJ13_bitCount_95d88_4 : decode cJ13_bitCount_95d88 4 = .ok (.ldc2_w 314, 3) := by decide +kernel
theorem dJ13_bitCount_95d88_7 : decode cJ13_bitCount_95d88 7 = .ok (.land, 1) := by decide +kernel
theorem dJ13_bitCount_95d88_8 : decode cJ13_bitCount_95d88 8 = .ok (.lsub, 1) := by decide +kernel
theorem dJ13_bitCount_95d88_9 : decode cJ13_bitCount_95d88 9 = .ok (.lstore_n 0, 1) := by decide +kernel
theorem dJ13_bitCount_95d88_10 : decode cJ13_bitCount_95d88 10 = .ok (.lload_n 0, 1) := by decide +kernel
theorem dJ13_bitCount_95d88_11 : decode cJ13_bitCount_95d88 11 = .ok (.ldc2_w 316, 3) := by decide +kernel
theorem dJ13_bitCount_95d88_14 : decode cJ13_bitCount_95d88 14 = .ok (.land, 1) := by decide +kernel
theorem dJ13_bitCount_95d88_15 : decode cJ13_bitCount_95d88 15 = .ok (.lload_n 0, 1) := by decide +kernel
theorem dJ13_bitCount_95d88_16 : decode cJ13_bitCount_95d88 16 = .ok (.iconst 2, 1) := by decide +kernel
theorem dJ13_bitCount_95d88_17 : decode cJ13_bitCount_95d88 17 = .ok (.lushr, 1) := by decide +kernel
theorem dJ13_bitCount_95d88_18 : decode cJ13_bitCount_95d88 18 = .ok (.ldc2_w 316, 3) := by decide +kernel
theorem dJ13_bitCount_95d88_21 : decode cJ13_bitCount_95d88 21 = .ok (.land, 1) := by decide +kernel
theorem dJ13_bitCount_95d88_22 : decode cJ13_bitCount_95d88 22 = .ok (.ladd, 1) := by decide +kernel
theorem dJ13_bitCount_95d88_23 : decode cJ13_bitCount_95d88 23 = .ok (.lstore_n 0, 1) := by decide +kernel
theorem dJ13_bitCount_95d88_24 : decode cJ13_bitCount_95d88 24 = .ok (.lload_n 0, 1) := by decide +kernel
theorem dJ13_bitCount_95d88_25 : decode cJ13_bitCount_95d88 25 = .ok (.lload_n 0, 1) := by decide +kernel
theorem dJ13_bitCount_95d88_26 : decode cJ13_bitCount_95d88 26 = .ok (.iconst 4, 1) := by decide +kernel
theorem dJ13_bitCount_95d88_27 : decode cJ13_bitCount_95d88 27 = .ok (.lushr, 1) := by decide +kernel
theorem dJ13_bitCount_95d88_28 : decode cJ13_bitCount_95d88 28 = .ok (.ladd, 1) := by decide +kernel
theorem dJ13_bitCount_95d88_29 : decode cJ13_bitCount_95d88 29 = .ok (.ldc2_w 318, 3) := by decide +kernel
theorem dJ13_bitCount_95d88_32 : decode cJ13_bitCount_95d88 32 = .ok (.land, 1) := by decide +kernel
theorem dJ13_bitCount_95d88_33 : decode cJ13_bitCount_95d88 33 = .ok (.lstore_n 0, 1) := by decide +kernel
theorem dJ13_bitCount_95d88_34 : decode cJ13_bitCount_95d88 34 = .ok (.lload_n 0, 1) := by decide +kernel
theorem dJ13_bitCount_95d88_35 : decode cJ13_bitCount_95d88 35 = .ok (.lload_n 0, 1) := by decide +kernel
theorem dJ13_bitCount_95d88_36 : decode cJ13_bitCount_95d88 36 = .ok (.bipush 8, 2) := by decide +kernel
theorem dJ13_bitCount_95d88_38 : decode cJ13_bitCount_95d88 38 = .ok (.lushr, 1) := by decide +kernel
theorem dJ13_bitCount_95d88_39 : decode cJ13_bitCount_95d88 39 = .ok (.ladd, 1) := by decide +kernel
theorem dJ13_bitCount_95d88_40 : decode cJ13_bitCount_95d88 40 = .ok (.lstore_n 0, 1) := by decide +kernel
theorem dJ13_bitCount_95d88_41 : decode cJ13_bitCount_95d88 41 = .ok (.lload_n 0, 1) := by decide +kernel
theorem dJ13_bitCount_95d88_42 : decode cJ13_bitCount_95d88 42 = .ok (.lload_n 0, 1) := by decide +kernel
theorem dJ13_bitCount_95d88_43 : decode cJ13_bitCount_95d88 43 = .ok (.bipush 16, 2) := by decide +kernel
theorem dJ13_bitCount_95d88_45 : decode cJ13_bitCount_95d88 45 = .ok (.lushr, 1) := by decide +kernel
theorem dJ13_bitCount_95d88_46 : decode cJ13_bitCount_95d88 46 = .ok (.ladd, 1) := by decide +kernel
theorem dJ13_bitCount_95d88_47 : decode cJ13_bitCount_95d88 47 = .ok (.lstore_n 0, 1) := by decide +kernel
theorem dJ13_bitCount_95d88_48 : decode cJ13_bitCount_95d88 48 = .ok (.lload_n 0, 1) := by decide +kernel
theorem dJ13_bitCount_95d88_49 : decode cJ13_bitCount_95d88 49 = .ok (.lload_n 0, 1) := by decide +kernel
theorem dJ13_bitCount_95d88_50 : decode cJ13_bitCount_95d88 50 = .ok (.bipush 32, 2) := by decide +kernel
theorem dJ13_bitCount_95d88_52 : decode cJ13_bitCount_95d88 52 = .ok (.lushr, 1) := by decide +kernel
theorem dJ13_bitCount_95d88_53 : decode cJ13_bitCount_95d88 53 = .ok (.ladd, 1) := by decide +kernel
theorem dJ13_bitCount_95d88_54 : decode cJ13_bitCount_95d88 54 = .ok (.lstore_n 0, 1) := by decide +kernel
theorem dJ13_bitCount_95d88_55 : decode cJ13_bitCount_95d88 55 = .ok (.lload_n 0, 1) := by decide +kernel
theorem dJ13_bitCount_95d88_56 : decode cJ13_bitCount_95d88 56 = .ok (.l2i, 1) := by decide +kernel
theorem dJ13_bitCount_95d88_57 : decode cJ13_bitCount_95d88 57 = .ok (.bipush 127, 2) := by decide +kernel
theorem dJ13_bitCount_95d88_59 : decode cJ13_bitCount_95d88 59 = .ok (.iand, 1) := by decide +kernel
theorem dJ13_bitCount_95d88_60 : decode cJ13_bitCount_95d88 60 = .ok (.ireturn, 1) := by decide +kernel
theorem dJ9_max_7cf53_0 : decode cJ9_max_7cf53 0 = .ok (.iload_n 0, 1) := by decide +kernel
theorem dJ9_max_7cf53_1 : decode cJ9_max_7cf53 1 = .ok (.iload_n 1, 1) := by decide +kernel
theorem dJ9_max_7cf53_2 : decode cJ9_max_7cf53 2 = .ok (.if_icmp .lt 7, 3) := by decide +kernel
theorem dJ9_max_7cf53_5 : decode cJ9_max_7cf53 5 = .ok (.iload_n 0, 1) := by decide +kernel
theorem dJ9_max_7cf53_6 : decode cJ9_max_7cf53 6 = .ok (.goto 4, 3) := by decide +kernel
theorem dJ9_max_7cf53_9 : decode cJ9_max_7cf53 9 = .ok (.iload_n 1, 1) := by decide +kernel
theorem dJ9_max_7cf53_10 : decode cJ9_max_7cf53 10 = .ok (.ireturn, 1) := by decide +kernel
theorem dJ9_min_7cf53_0 : decode cJ9_min_7cf53 0 = .ok (.iload_n 0, 1) := by decide +kernel
theorem dJ9_min_7cf53_1 : decode cJ9_min_7cf53 1 = .ok (.iload_n 1, 1) := by decide +kernel
theorem dJ9_min_7cf53_2 : decode cJ9_min_7cf53 2 = .ok (.if_icmp .gt 7, 3) := by decide +kernel
theorem dJ9_min_7cf53_5 : decode cJ9_min_7cf53 5 = .ok (.iload_n 0, 1) := by decide +kernel
theorem dJ9_min_7cf53_6 : decode cJ9_min_7cf53 6 = .ok (.goto 4, 3) := by decide +kernel
theorem dJ9_min_7cf53_9 : decode cJ9_min_7cf53 9 = .ok (.iload_n 1, 1) := by decide +kernel
theorem dJ9_min_7cf53_10 : decode cJ9_min_7cf53 10 = .ok (.ireturn, 1) := by decide +kernel
