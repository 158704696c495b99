theorem dX0_init_0 : decode cX0_init 0 = .ok (.aload_n 0, 1) := by decide +kernel
theorem dX0_init_1 : decode cX0_init 1 = .ok (.invokespecial 3, 3) := by decide +kernel
theorem dX0_init_4 : decode cX0_init 4 = .ok (.aload_n 0, 1) := by decide +kernel
theorem dX0_init_5 : decode cX0_init 5 = .ok (.bipush 60, 2) := by decide +kernel
theorem dX0_init_7 : decode cX0_init 7 = .ok (.newarray .int, 2) := by decide +kernel
theorem dX0_init_9 : decode cX0_init 9 = .ok (.putfield 11, 3) := by decide +kernel
theorem dX0_init_12 : decode cX0_init 12 = .ok (.aload_n 0, 1) := by decide +kernel
theorem dX0_init_13 : decode cX0_init 13 = .ok (.iconst 0, 1) := by decide +kernel
theorem dX0_init_14 : decode cX0_init 14 = .ok (.putfield 15, 3) := by decide +kernel
theorem dX0_init_17 : decode cX0_init 17 = .ok (.return_, 1) := by decide +kernel
theorem dX0_isFull_0 : decode cX0_isFull 0 = .ok (.aload_n 0, 1) := by decide +kernel
theorem dX0_isFull_1 : decode cX0_isFull 1 = .ok (.getfield 15, 3) := by decide +kernel
theorem dX0_isFull_4 : decode cX0_isFull 4 = .ok (.bipush 60, 2) := by decide +kernel
theorem dX0_isFull_6 : decode cX0_isFull 6 = .ok (.if_icmp .lt 7, 3) := by decide +kernel
theorem dX0_isFull_9 : decode cX0_isFull 9 = .ok (.iconst 1, 1) := by decide +kernel
theorem dX0_isFull_10 : decode cX0_isFull 10 = .ok (.goto 4, 3) := by decide +kernel
theorem dX0_isFull_13 : decode cX0_isFull 13 = .ok (.iconst 0, 1) := by decide +kernel
theorem dX0_isFull_14 : decode cX0_isFull 14 = .ok (.ireturn, 1) := by decide +kernel
theorem dX0_add_0 : decode cX0_add 0 = .ok (.aload_n 0, 1) := by decide +kernel
theorem dX0_add_1 : decode cX0_add 1 = .ok (.getfield 11, 3) := by decide +kernel
theorem dX0_add_4 : decode cX0_add 4 = .ok (.aload_n 0, 1) := by decide +kernel
theorem dX0_add_5 : decode cX0_add 5 = .ok (.getfield 15, 3) := by decide +kernel
theorem dX0_add_8 : decode cX0_add 8 = .ok (.iload_n 1, 1) := by decide +kernel
theorem dX0_add_9 : decode cX0_add 9 = .ok (.iastore, 1) := by decide +kernel
theorem dX0_add_10 : decode cX0_add 10 = .ok (.aload_n 0, 1) := by decide +kernel
theorem dX0_add_11 : decode cX0_add 11 = .ok (.dup, 1) := by decide +kernel
theorem dX0_add_12 : decode cX0_add 12 = .ok (.getfield 15, 3) := by decide +kernel
theorem dX0_add_15 : decode cX0_add 15 = .ok (.iconst 1, 1) := by decide +kernel
theorem dX0_add_16 : decode cX0_add 16 = .ok (.iadd, 1) := by decide +kernel
theorem dX0_add_17 : decode cX0_add 17 = .ok (.putfield 15, 3) := by decide +kernel
theorem dX0_add_20 : decode cX0_add 20 = .ok (.return_, 1) := by decide +kernel
theorem dX0_errorIndex_0 : decode cX0_errorIndex 0 = .ok (.iconst 0, 1) := by decide +kernel
theorem dX0_errorIndex_1 : decode cX0_errorIndex 1 = .ok (.istore_n 1, 1) := by decide +kernel
theorem dX0_errorIndex_2 : decode cX0_errorIndex 2 = .ok (.iconst 0, 1) := by decide +kernel
theorem dX0_errorIndex_3 : decode cX0_errorIndex 3 = .ok (.istore_n 2, 1) := by decide +kernel
theorem dX0_errorIndex_4 : decode cX0_errorIndex 4 = .ok (.iload_n 2, 1) := by decide +kernel
theorem dX0_errorIndex_5 : decode cX0_errorIndex 5 = .ok (.aload_n 0, 1) := by decide +kernel
theorem dX0_errorIndex_6 : decode cX0_errorIndex 6 = .ok (.getfield 15, 3) := by decide +kernel
theorem dX0_errorIndex_9 : decode cX0_errorIndex 9 = .ok (.if_icmp .ge 27, 3) := by decide +kernel
theorem dX0_errorIndex_12 : decode cX0_errorIndex 12 = .ok (.iload_n 1, 1) := by decide +kernel
theorem dX0_errorIndex_13 : decode cX0_errorIndex 13 = .ok (.aload_n 0, 1) := by decide +kernel
theorem dX0_errorIndex_14 : decode cX0_errorIndex 14 = .ok (.getfield 11, 3) := by decide +kernel
theorem dX0_errorIndex_17 : decode cX0_errorIndex 17 = .ok (.iload_n 2, 1) := by decide +kernel
theorem dX0_errorIndex_18 : decode cX0_errorIndex 18 = .ok (.iaload, 1) := by decide +kernel
theorem dX0_errorIndex_19 : decode cX0_errorIndex 19 = .ok (.invokestatic 19, 3) := by decide +kernel
theorem dX0_errorIndex_22 : decode cX0_errorIndex 22 = .ok (.istore_n 1, 1) := by decide +kernel
theorem dX0_errorIndex_23 : decode cX0_errorIndex 23 = .ok (.iload_n 1, 1) := by decide +kernel
theorem dX0_errorIndex_24 : decode cX0_errorIndex 24 = .ok (.iconst 4, 1) := by decide +kernel
theorem dX0_errorIndex_25 : decode cX0_errorIndex 25 = .ok (.if_icmp .ne 5, 3) := by decide +kernel
theorem dX0_errorIndex_28 : decode cX0_errorIndex 28 = .ok (.iload_n 2, 1) := by decide +kernel
theorem dX0_errorIndex_29 : decode cX0_errorIndex 29 = .ok (.ireturn, 1) := by decide +kernel
theorem dX0_errorIndex_30 : decode cX0_errorIndex 30 = .ok (.iinc 2 1, 3) := by decide +kernel
theorem dX0_errorIndex_33 : decode cX0_errorIndex 33 = .ok (.goto (-29), 3) := by decide +kernel
theorem dX0_errorIndex_36 : decode cX0_errorIndex 36 = .ok (.aload_n 0, 1) := by decide +kernel
theorem dX0_errorIndex_37 : decode cX0_errorIndex 37 = .ok (.getfield 15, 3) := by decide +kernel
theorem dX0_errorIndex_40 : decode cX0_errorIndex 40 = .ok (.ireturn, 1) := by decide +kernel
theorem dX0_isComplete_0 : decode cX0_isComplete 0 = .ok (.iconst 0, 1) := by decide +kernel
theorem dX0_isComplete_1 : decode cX0_isComplete 1 = .ok (.istore_n 1, 1) := by decide +kernel
theorem dX0_isComplete_2 : decode cX0_isComplete 2 = .ok (.iconst 0, 1) := by decide +kernel
theorem dX0_isComplete_3 : decode cX0_isComplete 3 = .ok (.istore_n 2, 1) := by decide +kernel
theorem dX0_isComplete_4 : decode cX0_isComplete 4 = .ok (.iload_n 2, 1) := by decide +kernel
theorem dX0_isComplete_5 : decode cX0_isComplete 5 = .ok (.aload_n 0, 1) := by decide +kernel
theorem dX0_isComplete_6 : decode cX0_isComplete 6 = .ok (.getfield 15, 3) := by decide +kernel
theorem dX0_isComplete_9 : decode cX0_isComplete 9 = .ok (.if_icmp .ge 20, 3) := by decide +kernel
theorem dX0_isComplete_12 : decode cX0_isComplete 12 = .ok (.iload_n 1, 1) := by decide +kernel
theorem dX0_isComplete_13 : decode cX0_isComplete 13 = .ok (.aload_n 0, 1) := by decide +kernel
theorem dX0_isComplete_14 : decode cX0_isComplete 14 = .ok (.getfield 11, 3) := by decide +kernel
theorem dX0_isComplete_17 : decode cX0_isComplete 17 = .ok (.iload_n 2, 1) := by decide +kernel
theorem dX0_isComplete_18 : decode cX0_isComplete 18 = .ok (.iaload, 1) := by decide +kernel
theorem dX0_isComplete_19 : decode cX0_isComplete 19 = .ok (.invokestatic 19, 3) := by decide +kernel
theorem dX0_isComplete_22 : decode cX0_isComplete 22 = .ok (.istore_n 1, 1) := by decide +kernel
theorem dX0_isComplete_23 : decode cX0_isComplete 23 = .ok (.iinc 2 1, 3) := by decide +kernel
theorem dX0_isComplete_26 : decode cX0_isComplete 26 = .ok (.goto (-22), 3) := by decide +kernel
theorem dX0_isComplete_29 : decode cX0_isComplete 29 = .ok (.iload_n 1, 1) := by decide +kernel
theorem dX0_isComplete_30 : decode cX0_isComplete 30 = .ok (.iconst 3, 1) := by decide +kernel
theorem dX0_isComplete_31 : decode cX0_isComplete 31 = .ok (.if_icmp .ne 7, 3) := by decide +kernel
theorem dX0_isComplete_34 : decode cX0_isComplete 34 = .ok (.iconst 1, 1) := by decide +kernel
theorem dX0_isComplete_35 : decode cX0_isComplete 35 = .ok (.goto 4, 3) := by decide +kernel
theorem dX0_isComplete_38 : decode cX0_isComplete 38 = .ok (.iconst 0, 1) := by decide +kernel
theorem dX0_isComplete_39 : decode cX0_isComplete 39 = .ok (.ireturn, 1) := by decide +kernel
theorem dX0_playOn_0 : decode cX0_playOn 0 = .ok (.iconst 0, 1) := by decide +kernel
theorem dX0_playOn_1 : decode cX0_playOn 1 = .ok (.istore_n 2, 1) := by decide +kernel
theorem dX0_playOn_2 : decode cX0_playOn 2 = .ok (.iconst 0, 1) := by decide +kernel
theorem dX0_playOn_3 : decode cX0_playOn 3 = .ok (.istore_n 3, 1) := by decide +kernel
theorem dX0_playOn_4 : decode cX0_playOn 4 = .ok (.iconst 0, 1) := by decide +kernel
theorem dX0_playOn_5 : decode cX0_playOn 5 = .ok (.istore 4, 2) := by decide +kernel
theorem dX0_playOn_7 : decode cX0_playOn 7 = .ok (.iconst 0, 1) := by decide +kernel
theorem dX0_playOn_8 : decode cX0_playOn 8 = .ok (.istore 5, 2) := by decide +kernel
theorem dX0_playOn_10 : decode cX0_playOn 10 = .ok (.iconst 0, 1) := by decide +kernel
theorem dX0_playOn_11 : decode cX0_playOn 11 = .ok (.istore 6, 2) := by decide +kernel
theorem dX0_playOn_13 : decode cX0_playOn 13 = .ok (.iload 6, 2) := by decide +kernel
theorem dX0_playOn_15 : decode cX0_playOn 15 = .ok (.aload_n 0, 1) := by decide +kernel
theorem dX0_playOn_16 : decode cX0_playOn 16 = .ok (.getfield 15, 3) := by decide +kernel
theorem dX0_playOn_19 : decode cX0_playOn 19 = .ok (.if_icmp .ge 111, 3) := by decide +kernel
theorem dX0_playOn_22 : decode cX0_playOn 22 = .ok (.aload_n 0, 1) := by decide +kernel
theorem dX0_playOn_23 : decode cX0_playOn 23 = .ok (.getfield 11, 3) := by decide +kernel
theorem dX0_playOn_26 : decode cX0_playOn 26 = .ok (.iload 6, 2) := by decide +kernel
theorem dX0_playOn_28 : decode cX0_playOn 28 = .ok (.iaload, 1) := by decide +kernel
theorem dX0_playOn_29 : decode cX0_playOn 29 = .ok (.istore 7, 2) := by decide +kernel
theorem dX0_playOn_31 : decode cX0_playOn 31 = .ok (.iload_n 2, 1) := by decide +kernel
theorem dX0_playOn_32 : decode cX0_playOn 32 = .ok (.ifCond .ne 18, 3) := by decide +kernel
theorem dX0_playOn_35 : decode cX0_playOn 35 = .ok (.iload 7, 2) := by decide +kernel
theorem dX0_playOn_37 : decode cX0_playOn 37 = .ok (.bipush 116, 2) := by decide +kernel
theorem dX0_playOn_39 : decode cX0_playOn 39 = .ok (.if_icmp .ne 11, 3) := by decide +kernel
theorem dX0_playOn_42 : decode cX0_playOn 42 = .ok (.aload_n 1, 1) := by decide +kernel
theorem dX0_playOn_43 : decode cX0_playOn 43 = .ok (.invokevirtual 23, 3) := by decide +kernel
theorem dX0_playOn_46 : decode cX0_playOn 46 = .ok (.pop, 1) := by decide +kernel
theorem dX0_playOn_47 : decode cX0_playOn 47 = .ok (.goto 70, 3) := by decide +kernel
theorem dX0_playOn_50 : decode cX0_playOn 50 = .ok (.iload_n 2, 1) := by decide +kernel
theorem dX0_playOn_51 : decode cX0_playOn 51 = .ok (.ifCond .ne 12, 3) := by decide +kernel
theorem dX0_playOn_54 : decode cX0_playOn 54 = .ok (.iload 7, 2) := by decide +kernel
theorem dX0_playOn_56 : decode cX0_playOn 56 = .ok (.bipush 48, 2) := by decide +kernel
theorem dX0_playOn_58 : decode cX0_playOn 58 = .ok (.isub, 1) := by decide +kernel
theorem dX0_playOn_59 : decode cX0_playOn 59 = .ok (.istore_n 3, 1) := by decide +kernel
theorem dX0_playOn_60 : decode cX0_playOn 60 = .ok (.goto 57, 3) := by decide +kernel
theorem dX0_playOn_63 : decode cX0_playOn 63 = .ok (.iload_n 2, 1) := by decide +kernel
theorem dX0_playOn_64 : decode cX0_playOn 64 = .ok (.iconst 1, 1) := by decide +kernel
theorem dX0_playOn_65 : decode cX0_playOn 65 = .ok (.if_icmp .ne 13, 3) := by decide +kernel
theorem dX0_playOn_68 : decode cX0_playOn 68 = .ok (.iload 7, 2) := by decide +kernel
theorem dX0_playOn_70 : decode cX0_playOn 70 = .ok (.invokestatic 29, 3) := by decide +kernel
theorem dX0_playOn_73 : decode cX0_playOn 73 = .ok (.istore 4, 2) := by decide +kernel
theorem dX0_playOn_75 : decode cX0_playOn 75 = .ok (.goto 42, 3) := by decide +kernel
theorem dX0_playOn_78 : decode cX0_playOn 78 = .ok (.iload_n 2, 1) := by decide +kernel
theorem dX0_playOn_79 : decode cX0_playOn 79 = .ok (.iconst 2, 1) := by decide +kernel
theorem dX0_playOn_80 : decode cX0_playOn 80 = .ok (.if_icmp .ne 37, 3) := by decide +kernel
theorem dX0_playOn_83 : decode cX0_playOn 83 = .ok (.aload_n 1, 1) := by decide +kernel
theorem dX0_playOn_84 : decode cX0_playOn 84 = .ok (.iload_n 3, 1) := by decide +kernel
theorem dX0_playOn_85 : decode cX0_playOn 85 = .ok (.iload 4, 2) := by decide +kernel
theorem dX0_playOn_87 : decode cX0_playOn 87 = .ok (.iload 7, 2) := by decide +kernel
theorem dX0_playOn_89 : decode cX0_playOn 89 = .ok (.bipush 48, 2) := by decide +kernel
theorem dX0_playOn_91 : decode cX0_playOn 91 = .ok (.isub, 1) := by decide +kernel
theorem dX0_playOn_92 : decode cX0_playOn 92 = .ok (.invokevirtual 33, 3) := by decide +kernel
theorem dX0_playOn_95 : decode cX0_playOn 95 = .ok (.istore 8, 2) := by decide +kernel
theorem dX0_playOn_97 : decode cX0_playOn 97 = .ok (.iload 5, 2) := by decide +kernel
theorem dX0_playOn_99 : decode cX0_playOn 99 = .ok (.iload 8, 2) := by decide +kernel
theorem dX0_playOn_101 : decode cX0_playOn 101 = .ok (.iadd, 1) := by decide +kernel
theorem dX0_playOn_102 : decode cX0_playOn 102 = .ok (.istore 5, 2) := by decide +kernel
theorem dX0_playOn_104 : decode cX0_playOn 104 = .ok (.iload 8, 2) := by decide +kernel
theorem dX0_playOn_106 : decode cX0_playOn 106 = .ok (.iload 7, 2) := by decide +kernel
theorem dX0_playOn_108 : decode cX0_playOn 108 = .ok (.bipush 48, 2) := by decide +kernel
theorem dX0_playOn_110 : decode cX0_playOn 110 = .ok (.isub, 1) := by decide +kernel
theorem dX0_playOn_111 : decode cX0_playOn 111 = .ok (.if_icmp .ge 6, 3) := by decide +kernel
theorem dX0_playOn_114 : decode cX0_playOn 114 = .ok (.iload 5, 2) := by decide +kernel
theorem dX0_playOn_116 : decode cX0_playOn 116 = .ok (.ireturn, 1) := by decide +kernel
theorem dX0_playOn_117 : decode cX0_playOn 117 = .ok (.iload_n 2, 1) := by decide +kernel
theorem dX0_playOn_118 : decode cX0_playOn 118 = .ok (.iload 7, 2) := by decide +kernel
theorem dX0_playOn_120 : decode cX0_playOn 120 = .ok (.invokestatic 19, 3) := by decide +kernel
theorem dX0_playOn_123 : decode cX0_playOn 123 = .ok (.istore_n 2, 1) := by decide +kernel
theorem dX0_playOn_124 : decode cX0_playOn 124 = .ok (.iinc 6 1, 3) := by decide +kernel
theorem dX0_playOn_127 : decode cX0_playOn 127 = .ok (.goto (-114), 3) := by decide +kernel
theorem dX0_playOn_130 : decode cX0_playOn 130 = .ok (.iload 5, 2) := by decide +kernel
theorem dX0_playOn_132 : decode cX0_playOn 132 = .ok (.ireturn, 1) := by decide +kernel
theorem dX0_placeBehind_0 : decode cX0_placeBehind 0 = .ok (.iload_n 0, 1) := by decide +kernel
theorem dX0_placeBehind_1 : decode cX0_placeBehind 1 = .ok (.tableswitch 101 0 3 #[31, 57, 71, 89], 31) := by decide +kernel
theorem dX0_placeBehind_32 : decode cX0_placeBehind 32 = .ok (.iload_n 1, 1) := by decide +kernel
theorem dX0_placeBehind_33 : decode cX0_placeBehind 33 = .ok (.bipush 116, 2) := by decide +kernel
theorem dX0_placeBehind_35 : decode cX0_placeBehind 35 = .ok (.if_icmp .ne 5, 3) := by decide +kernel
theorem dX0_placeBehind_38 : decode cX0_placeBehind 38 = .ok (.iconst 3, 1) := by decide +kernel
theorem dX0_placeBehind_39 : decode cX0_placeBehind 39 = .ok (.ireturn, 1) := by decide +kernel
theorem dX0_placeBehind_40 : decode cX0_placeBehind 40 = .ok (.iload_n 1, 1) := by decide +kernel
theorem dX0_placeBehind_41 : decode cX0_placeBehind 41 = .ok (.bipush 48, 2) := by decide +kernel
theorem dX0_placeBehind_43 : decode cX0_placeBehind 43 = .ok (.if_icmp .lt 13, 3) := by decide +kernel
theorem dX0_placeBehind_46 : decode cX0_placeBehind 46 = .ok (.iload_n 1, 1) := by decide +kernel
theorem dX0_placeBehind_47 : decode cX0_placeBehind 47 = .ok (.bipush 50, 2) := by decide +kernel
theorem dX0_placeBehind_49 : decode cX0_placeBehind 49 = .ok (.if_icmp .gt 7, 3) := by decide +kernel
theorem dX0_placeBehind_52 : decode cX0_placeBehind 52 = .ok (.iconst 1, 1) := by decide +kernel
theorem dX0_placeBehind_53 : decode cX0_placeBehind 53 = .ok (.goto 4, 3) := by decide +kernel
theorem dX0_placeBehind_56 : decode cX0_placeBehind 56 = .ok (.iconst 4, 1) := by decide +kernel
theorem dX0_placeBehind_57 : decode cX0_placeBehind 57 = .ok (.ireturn, 1) := by decide +kernel
theorem dX0_placeBehind_58 : decode cX0_placeBehind 58 = .ok (.iload_n 1, 1) := by decide +kernel
theorem dX0_placeBehind_59 : decode cX0_placeBehind 59 = .ok (.invokestatic 29, 3) := by decide +kernel
theorem dX0_placeBehind_62 : decode cX0_placeBehind 62 = .ok (.iconst (-1), 1) := by decide +kernel
theorem dX0_placeBehind_63 : decode cX0_placeBehind 63 = .ok (.if_icmp .ne 7, 3) := by decide +kernel
theorem dX0_placeBehind_66 : decode cX0_placeBehind 66 = .ok (.iconst 4, 1) := by decide +kernel
theorem dX0_placeBehind_67 : decode cX0_placeBehind 67 = .ok (.goto 4, 3) := by decide +kernel
theorem dX0_placeBehind_70 : decode cX0_placeBehind 70 = .ok (.iconst 2, 1) := by decide +kernel
theorem dX0_placeBehind_71 : decode cX0_placeBehind 71 = .ok (.ireturn, 1) := by decide +kernel
theorem dX0_placeBehind_72 : decode cX0_placeBehind 72 = .ok (.iload_n 1, 1) := by decide +kernel
theorem dX0_placeBehind_73 : decode cX0_placeBehind 73 = .ok (.bipush 49, 2) := by decide +kernel
theorem dX0_placeBehind_75 : decode cX0_placeBehind 75 = .ok (.if_icmp .lt 13, 3) := by decide +kernel
theorem dX0_placeBehind_78 : decode cX0_placeBehind 78 = .ok (.iload_n 1, 1) := by decide +kernel
theorem dX0_placeBehind_79 : decode cX0_placeBehind 79 = .ok (.bipush 56, 2) := by decide +kernel
theorem dX0_placeBehind_81 : decode cX0_placeBehind 81 = .ok (.if_icmp .gt 7, 3) := by decide +kernel
theorem dX0_placeBehind_84 : decode cX0_placeBehind 84 = .ok (.iconst 3, 1) := by decide +kernel
theorem dX0_placeBehind_85 : decode cX0_placeBehind 85 = .ok (.goto 4, 3) := by decide +kernel
theorem dX0_placeBehind_88 : decode cX0_placeBehind 88 = .ok (.iconst 4, 1) := by decide +kernel
theorem dX0_placeBehind_89 : decode cX0_placeBehind 89 = .ok (.ireturn, 1) := by decide +kernel
theorem dX0_placeBehind_90 : decode cX0_placeBehind 90 = .ok (.iload_n 1, 1) := by decide +kernel
theorem dX0_placeBehind_91 : decode cX0_placeBehind 91 = .ok (.bipush 59, 2) := by decide +kernel
theorem dX0_placeBehind_93 : decode cX0_placeBehind 93 = .ok (.if_icmp .ne 7, 3) := by decide +kernel
theorem dX0_placeBehind_96 : decode cX0_placeBehind 96 = .ok (.iconst 0, 1) := by decide +kernel
theorem dX0_placeBehind_97 : decode cX0_placeBehind 97 = .ok (.goto 4, 3) := by decide +kernel
theorem dX0_placeBehind_100 : decode cX0_placeBehind 100 = .ok (.iconst 4, 1) := by decide +kernel
theorem dX0_placeBehind_101 : decode cX0_placeBehind 101 = .ok (.ireturn, 1) := by decide +kernel
theorem dX0_placeBehind_102 : decode cX0_placeBehind 102 = .ok (.iconst 4, 1) := by decide +kernel
theorem dX0_placeBehind_103 : decode cX0_placeBehind 103 = .ok (.ireturn, 1) := by decide +kernel
theorem dX0_directionOf_0 : decode cX0_directionOf 0 = .ok (.iload_n 0, 1) := by decide +kernel
theorem dX0_directionOf_1 : decode cX0_directionOf 1 = .ok (.lookupswitch 51 #[(101, 45), (110, 43), (115, 47), (119, 49)], 43) := by decide +kernel
theorem dX0_directionOf_44 : decode cX0_directionOf 44 = .ok (.iconst 0, 1) := by decide +kernel
theorem dX0_directionOf_45 : decode cX0_directionOf 45 = .ok (.ireturn, 1) := by decide +kernel
theorem dX0_directionOf_46 : decode cX0_directionOf 46 = .ok (.iconst 1, 1) := by decide +kernel
theorem dX0_directionOf_47 : decode cX0_directionOf 47 = .ok (.ireturn, 1) := by decide +kernel
theorem dX0_directionOf_48 : decode cX0_directionOf 48 = .ok (.iconst 2, 1) := by decide +kernel
theorem dX0_directionOf_49 : decode cX0_directionOf 49 = .ok (.ireturn, 1) := by decide +kernel
theorem dX0_directionOf_50 : decode cX0_directionOf 50 = .ok (.iconst 3, 1) := by decide +kernel
theorem dX0_directionOf_51 : decode cX0_directionOf 51 = .ok (.ireturn, 1) := by decide +kernel
theorem dX0_directionOf_52 : decode cX0_directionOf 52 = .ok (.iconst (-1), 1) := by decide +kernel
theorem dX0_directionOf_53 : decode cX0_directionOf 53 = .ok (.ireturn, 1) := by decide +kernel
theorem dX1_leading_0 : decode cX1_leading 0 = .ok (.iload_n 2, 1) := by decide +kernel
theorem dX1_leading_1 : decode cX1_leading 1 = .ok (.tableswitch 59 0 3 #[31, 39, 45, 51], 31) := by decide +kernel
theorem dX1_leading_32 : decode cX1_leading 32 = .ok (.iload_n 0, 1) := by decide +kernel
theorem dX1_leading_33 : decode cX1_leading 33 = .ok (.iload_n 1, 1) := by decide +kernel
theorem dX1_leading_34 : decode cX1_leading 34 = .ok (.iconst 1, 1) := by decide +kernel
theorem dX1_leading_35 : decode cX1_leading 35 = .ok (.isub, 1) := by decide +kernel
theorem dX1_leading_36 : decode cX1_leading 36 = .ok (.invokestatic 9, 3) := by decide +kernel
theorem dX1_leading_39 : decode cX1_leading 39 = .ok (.ireturn, 1) := by decide +kernel
theorem dX1_leading_40 : decode cX1_leading 40 = .ok (.iload_n 0, 1) := by decide +kernel
theorem dX1_leading_41 : decode cX1_leading 41 = .ok (.iload_n 1, 1) := by decide +kernel
theorem dX1_leading_42 : decode cX1_leading 42 = .ok (.invokestatic 15, 3) := by decide +kernel
theorem dX1_leading_45 : decode cX1_leading 45 = .ok (.ireturn, 1) := by decide +kernel
theorem dX1_leading_46 : decode cX1_leading 46 = .ok (.iload_n 0, 1) := by decide +kernel
theorem dX1_leading_47 : decode cX1_leading 47 = .ok (.iload_n 1, 1) := by decide +kernel
theorem dX1_leading_48 : decode cX1_leading 48 = .ok (.invokestatic 9, 3) := by decide +kernel
theorem dX1_leading_51 : decode cX1_leading 51 = .ok (.ireturn, 1) := by decide +kernel
theorem dX1_leading_52 : decode cX1_leading 52 = .ok (.iload_n 0, 1) := by decide +kernel
theorem dX1_leading_53 : decode cX1_leading 53 = .ok (.iconst 1, 1) := by decide +kernel
theorem dX1_leading_54 : decode cX1_leading 54 = .ok (.isub, 1) := by decide +kernel
theorem dX1_leading_55 : decode cX1_leading 55 = .ok (.iload_n 1, 1) := by decide +kernel
theorem dX1_leading_56 : decode cX1_leading 56 = .ok (.invokestatic 15, 3) := by decide +kernel
theorem dX1_leading_59 : decode cX1_leading 59 = .ok (.ireturn, 1) := by decide +kernel
theorem dX1_leading_60 : decode cX1_leading 60 = .ok (.iconst (-1), 1) := by decide +kernel
theorem dX1_leading_61 : decode cX1_leading 61 = .ok (.ireturn, 1) := by decide +kernel
theorem dX1_leadingEast_0 : decode cX1_leadingEast 0 = .ok (.iload_n 0, 1) := by decide +kernel
theorem dX1_leadingEast_1 : decode cX1_leadingEast 1 = .ok (.ifCond .lt 23, 3) := by decide +kernel
theorem dX1_leadingEast_4 : decode cX1_leadingEast 4 = .ok (.iload_n 0, 1) := by decide +kernel
theorem dX1_leadingEast_5 : decode cX1_leadingEast 5 = .ok (.bipush 8, 2) := by decide +kernel
theorem dX1_leadingEast_7 : decode cX1_leadingEast 7 = .ok (.if_icmp .ge 17, 3) := by decide +kernel
theorem dX1_leadingEast_10 : decode cX1_leadingEast 10 = .ok (.iload_n 1, 1) := by decide +kernel
theorem dX1_leadingEast_11 : decode cX1_leadingEast 11 = .ok (.ifCond .lt 13, 3) := by decide +kernel
theorem dX1_leadingEast_14 : decode cX1_leadingEast 14 = .ok (.iload_n 1, 1) := by decide +kernel
theorem dX1_leadingEast_15 : decode cX1_leadingEast 15 = .ok (.bipush 9, 2) := by decide +kernel
theorem dX1_leadingEast_17 : decode cX1_leadingEast 17 = .ok (.if_icmp .ge 7, 3) := by decide +kernel
theorem dX1_leadingEast_20 : decode cX1_leadingEast 20 = .ok (.iconst 1, 1) := by decide +kernel
theorem dX1_leadingEast_21 : decode cX1_leadingEast 21 = .ok (.goto 4, 3) := by decide +kernel
theorem dX1_leadingEast_24 : decode cX1_leadingEast 24 = .ok (.iconst 0, 1) := by decide +kernel
theorem dX1_leadingEast_25 : decode cX1_leadingEast 25 = .ok (.istore_n 2, 1) := by decide +kernel
theorem dX1_leadingEast_26 : decode cX1_leadingEast 26 = .ok (.iload_n 2, 1) := by decide +kernel
theorem dX1_leadingEast_27 : decode cX1_leadingEast 27 = .ok (.ifCond .eq 12, 3) := by decide +kernel
theorem dX1_leadingEast_30 : decode cX1_leadingEast 30 = .ok (.bipush 8, 2) := by decide +kernel
theorem dX1_leadingEast_32 : decode cX1_leadingEast 32 = .ok (.iload_n 1, 1) := by decide +kernel
theorem dX1_leadingEast_33 : decode cX1_leadingEast 33 = .ok (.imul, 1) := by decide +kernel
theorem dX1_leadingEast_34 : decode cX1_leadingEast 34 = .ok (.iload_n 0, 1) := by decide +kernel
theorem dX1_leadingEast_35 : decode cX1_leadingEast 35 = .ok (.iadd, 1) := by decide +kernel
theorem dX1_leadingEast_36 : decode cX1_leadingEast 36 = .ok (.goto 4, 3) := by decide +kernel
theorem dX1_leadingEast_39 : decode cX1_leadingEast 39 = .ok (.iconst (-1), 1) := by decide +kernel
theorem dX1_leadingEast_40 : decode cX1_leadingEast 40 = .ok (.ireturn, 1) := by decide +kernel
theorem dX1_leadingSouth_0 : decode cX1_leadingSouth 0 = .ok (.iload_n 0, 1) := by decide +kernel
theorem dX1_leadingSouth_1 : decode cX1_leadingSouth 1 = .ok (.ifCond .lt 23, 3) := by decide +kernel
theorem dX1_leadingSouth_4 : decode cX1_leadingSouth 4 = .ok (.iload_n 0, 1) := by decide +kernel
theorem dX1_leadingSouth_5 : decode cX1_leadingSouth 5 = .ok (.bipush 9, 2) := by decide +kernel
theorem dX1_leadingSouth_7 : decode cX1_leadingSouth 7 = .ok (.if_icmp .ge 17, 3) := by decide +kernel
theorem dX1_leadingSouth_10 : decode cX1_leadingSouth 10 = .ok (.iload_n 1, 1) := by decide +kernel
theorem dX1_leadingSouth_11 : decode cX1_leadingSouth 11 = .ok (.ifCond .lt 13, 3) := by decide +kernel
theorem dX1_leadingSouth_14 : decode cX1_leadingSouth 14 = .ok (.iload_n 1, 1) := by decide +kernel
theorem dX1_leadingSouth_15 : decode cX1_leadingSouth 15 = .ok (.bipush 8, 2) := by decide +kernel
theorem dX1_leadingSouth_17 : decode cX1_leadingSouth 17 = .ok (.if_icmp .ge 7, 3) := by decide +kernel
theorem dX1_leadingSouth_20 : decode cX1_leadingSouth 20 = .ok (.iconst 1, 1) := by decide +kernel
theorem dX1_leadingSouth_21 : decode cX1_leadingSouth 21 = .ok (.goto 4, 3) := by decide +kernel
theorem dX1_leadingSouth_24 : decode cX1_leadingSouth 24 = .ok (.iconst 0, 1) := by decide +kernel
theorem dX1_leadingSouth_25 : decode cX1_leadingSouth 25 = .ok (.istore_n 2, 1) := by decide +kernel
theorem dX1_leadingSouth_26 : decode cX1_leadingSouth 26 = .ok (.iload_n 2, 1) := by decide +kernel
theorem dX1_leadingSouth_27 : decode cX1_leadingSouth 27 = .ok (.ifCond .eq 15, 3) := by decide +kernel
theorem dX1_leadingSouth_30 : decode cX1_leadingSouth 30 = .ok (.bipush 72, 2) := by decide +kernel
theorem dX1_leadingSouth_32 : decode cX1_leadingSouth 32 = .ok (.bipush 9, 2) := by decide +kernel
theorem dX1_leadingSouth_34 : decode cX1_leadingSouth 34 = .ok (.iload_n 1, 1) := by decide +kernel
theorem dX1_leadingSouth_35 : decode cX1_leadingSouth 35 = .ok (.imul, 1) := by decide +kernel
theorem dX1_leadingSouth_36 : decode cX1_leadingSouth 36 = .ok (.iadd, 1) := by decide +kernel
theorem dX1_leadingSouth_37 : decode cX1_leadingSouth 37 = .ok (.iload_n 0, 1) := by decide +kernel
theorem dX1_leadingSouth_38 : decode cX1_leadingSouth 38 = .ok (.iadd, 1) := by decide +kernel
theorem dX1_leadingSouth_39 : decode cX1_leadingSouth 39 = .ok (.goto 4, 3) := by decide +kernel
theorem dX1_leadingSouth_42 : decode cX1_leadingSouth 42 = .ok (.iconst (-1), 1) := by decide +kernel
theorem dX1_leadingSouth_43 : decode cX1_leadingSouth 43 = .ok (.ireturn, 1) := by decide +kernel
theorem dX1_leadsEast_0 : decode cX1_leadsEast 0 = .ok (.iload_n 0, 1) := by decide +kernel
theorem dX1_leadsEast_1 : decode cX1_leadsEast 1 = .ok (.bipush 72, 2) := by decide +kernel
theorem dX1_leadsEast_3 : decode cX1_leadsEast 3 = .ok (.if_icmp .ge 7, 3) := by decide +kernel
theorem dX1_leadsEast_6 : decode cX1_leadsEast 6 = .ok (.iconst 1, 1) := by decide +kernel
theorem dX1_leadsEast_7 : decode cX1_leadsEast 7 = .ok (.goto 4, 3) := by decide +kernel
theorem dX1_leadsEast_10 : decode cX1_leadsEast 10 = .ok (.iconst 0, 1) := by decide +kernel
theorem dX1_leadsEast_11 : decode cX1_leadsEast 11 = .ok (.ireturn, 1) := by decide +kernel
theorem dX1_higherCell_0 : decode cX1_higherCell 0 = .ok (.iload_n 0, 1) := by decide +kernel
theorem dX1_higherCell_1 : decode cX1_higherCell 1 = .ok (.invokestatic 18, 3) := by decide +kernel
theorem dX1_higherCell_4 : decode cX1_higherCell 4 = .ok (.ifCond .eq 15, 3) := by decide +kernel
theorem dX1_higherCell_7 : decode cX1_higherCell 7 = .ok (.iload_n 0, 1) := by decide +kernel
theorem dX1_higherCell_8 : decode cX1_higherCell 8 = .ok (.bipush 8, 2) := by decide +kernel
theorem dX1_higherCell_10 : decode cX1_higherCell 10 = .ok (.irem, 1) := by decide +kernel
theorem dX1_higherCell_11 : decode cX1_higherCell 11 = .ok (.iload_n 0, 1) := by decide +kernel
theorem dX1_higherCell_12 : decode cX1_higherCell 12 = .ok (.bipush 8, 2) := by decide +kernel
theorem dX1_higherCell_14 : decode cX1_higherCell 14 = .ok (.idiv, 1) := by decide +kernel
theorem dX1_higherCell_15 : decode cX1_higherCell 15 = .ok (.invokestatic 22, 3) := by decide +kernel
theorem dX1_higherCell_18 : decode cX1_higherCell 18 = .ok (.lreturn, 1) := by decide +kernel
theorem dX1_higherCell_19 : decode cX1_higherCell 19 = .ok (.iload_n 0, 1) := by decide +kernel
theorem dX1_higherCell_20 : decode cX1_higherCell 20 = .ok (.bipush 72, 2) := by decide +kernel
theorem dX1_higherCell_22 : decode cX1_higherCell 22 = .ok (.isub, 1) := by decide +kernel
theorem dX1_higherCell_23 : decode cX1_higherCell 23 = .ok (.istore_n 1, 1) := by decide +kernel
theorem dX1_higherCell_24 : decode cX1_higherCell 24 = .ok (.iload_n 1, 1) := by decide +kernel
theorem dX1_higherCell_25 : decode cX1_higherCell 25 = .ok (.bipush 9, 2) := by decide +kernel
theorem dX1_higherCell_27 : decode cX1_higherCell 27 = .ok (.irem, 1) := by decide +kernel
theorem dX1_higherCell_28 : decode cX1_higherCell 28 = .ok (.iload_n 1, 1) := by decide +kernel
theorem dX1_higherCell_29 : decode cX1_higherCell 29 = .ok (.bipush 9, 2) := by decide +kernel
theorem dX1_higherCell_31 : decode cX1_higherCell 31 = .ok (.idiv, 1) := by decide +kernel
theorem dX1_higherCell_32 : decode cX1_higherCell 32 = .ok (.invokestatic 22, 3) := by decide +kernel
theorem dX1_higherCell_35 : decode cX1_higherCell 35 = .ok (.lreturn, 1) := by decide +kernel
theorem dX1_lowerCell_0 : decode cX1_lowerCell 0 = .ok (.iload_n 0, 1) := by decide +kernel
theorem dX1_lowerCell_1 : decode cX1_lowerCell 1 = .ok (.invokestatic 18, 3) := by decide +kernel
theorem dX1_lowerCell_4 : decode cX1_lowerCell 4 = .ok (.ifCond .eq 17, 3) := by decide +kernel
theorem dX1_lowerCell_7 : decode cX1_lowerCell 7 = .ok (.iload_n 0, 1) := by decide +kernel
theorem dX1_lowerCell_8 : decode cX1_lowerCell 8 = .ok (.bipush 8, 2) := by decide +kernel
theorem dX1_lowerCell_10 : decode cX1_lowerCell 10 = .ok (.irem, 1) := by decide +kernel
theorem dX1_lowerCell_11 : decode cX1_lowerCell 11 = .ok (.iload_n 0, 1) := by decide +kernel
theorem dX1_lowerCell_12 : decode cX1_lowerCell 12 = .ok (.bipush 8, 2) := by decide +kernel
theorem dX1_lowerCell_14 : decode cX1_lowerCell 14 = .ok (.idiv, 1) := by decide +kernel
theorem dX1_lowerCell_15 : decode cX1_lowerCell 15 = .ok (.iconst 1, 1) := by decide +kernel
theorem dX1_lowerCell_16 : decode cX1_lowerCell 16 = .ok (.isub, 1) := by decide +kernel
theorem dX1_lowerCell_17 : decode cX1_lowerCell 17 = .ok (.invokestatic 22, 3) := by decide +kernel
theorem dX1_lowerCell_20 : decode cX1_lowerCell 20 = .ok (.lreturn, 1) := by decide +kernel
theorem dX1_lowerCell_21 : decode cX1_lowerCell 21 = .ok (.iload_n 0, 1) := by decide +kernel
theorem dX1_lowerCell_22 : decode cX1_lowerCell 22 = .ok (.bipush 72, 2) := by decide +kernel
theorem dX1_lowerCell_24 : decode cX1_lowerCell 24 = .ok (.isub, 1) := by decide +kernel
theorem dX1_lowerCell_25 : decode cX1_lowerCell 25 = .ok (.istore_n 1, 1) := by decide +kernel
theorem dX1_lowerCell_26 : decode cX1_lowerCell 26 = .ok (.iload_n 1, 1) := by decide +kernel
theorem dX1_lowerCell_27 : decode cX1_lowerCell 27 = .ok (.bipush 9, 2) := by decide +kernel
theorem dX1_lowerCell_29 : decode cX1_lowerCell 29 = .ok (.irem, 1) := by decide +kernel
theorem dX1_lowerCell_30 : decode cX1_lowerCell 30 = .ok (.iconst 1, 1) := by decide +kernel
theorem dX1_lowerCell_31 : decode cX1_lowerCell 31 = .ok (.isub, 1) := by decide +kernel
theorem dX1_lowerCell_32 : decode cX1_lowerCell 32 = .ok (.iload_n 1, 1) := by decide +kernel
theorem dX1_lowerCell_33 : decode cX1_lowerCell 33 = .ok (.bipush 9, 2) := by decide +kernel
theorem dX1_lowerCell_35 : decode cX1_lowerCell 35 = .ok (.idiv, 1) := by decide +kernel
theorem dX1_lowerCell_36 : decode cX1_lowerCell 36 = .ok (.invokestatic 22, 3) := by decide +kernel
theorem dX1_lowerCell_39 : decode cX1_lowerCell 39 = .ok (.lreturn, 1) := by decide +kernel
theorem dX1_cellsAt_0 : decode cX1_cellsAt 0 = .ok (.iload_n 0, 1) := by decide +kernel
theorem dX1_cellsAt_1 : decode cX1_cellsAt 1 = .ok (.invokestatic 26, 3) := by decide +kernel
theorem dX1_cellsAt_4 : decode cX1_cellsAt 4 = .ok (.iload_n 0, 1) := by decide +kernel
theorem dX1_cellsAt_5 : decode cX1_cellsAt 5 = .ok (.invokestatic 30, 3) := by decide +kernel
theorem dX1_cellsAt_8 : decode cX1_cellsAt 8 = .ok (.lor, 1) := by decide +kernel
theorem dX1_cellsAt_9 : decode cX1_cellsAt 9 = .ok (.lreturn, 1) := by decide +kernel
theorem dX2_init_0 : decode cX2_init 0 = .ok (.aload_n 0, 1) := by decide +kernel
theorem dX2_init_1 : decode cX2_init 1 = .ok (.invokespecial 3, 3) := by decide +kernel
theorem dX2_init_4 : decode cX2_init 4 = .ok (.aload_n 0, 1) := by decide +kernel
theorem dX2_init_5 : decode cX2_init 5 = .ok (.ldc2_w 9, 3) := by decide +kernel
theorem dX2_init_8 : decode cX2_init 8 = .ok (.putfield 11, 3) := by decide +kernel
theorem dX2_init_11 : decode cX2_init 11 = .ok (.aload_n 0, 1) := by decide +kernel
theorem dX2_init_12 : decode cX2_init 12 = .ok (.lconst 0, 1) := by decide +kernel
theorem dX2_init_13 : decode cX2_init 13 = .ok (.putfield 17, 3) := by decide +kernel
theorem dX2_init_16 : decode cX2_init 16 = .ok (.aload_n 0, 1) := by decide +kernel
theorem dX2_init_17 : decode cX2_init 17 = .ok (.lconst 0, 1) := by decide +kernel
theorem dX2_init_18 : decode cX2_init 18 = .ok (.putfield 20, 3) := by decide +kernel
theorem dX2_init_21 : decode cX2_init 21 = .ok (.aload_n 0, 1) := by decide +kernel
theorem dX2_init_22 : decode cX2_init 22 = .ok (.sipush 144, 3) := by decide +kernel
theorem dX2_init_25 : decode cX2_init 25 = .ok (.newarray .int, 2) := by decide +kernel
theorem dX2_init_27 : decode cX2_init 27 = .ok (.putfield 23, 3) := by decide +kernel
theorem dX2_init_30 : decode cX2_init 30 = .ok (.aload_n 0, 1) := by decide +kernel
theorem dX2_init_31 : decode cX2_init 31 = .ok (.iconst 3, 1) := by decide +kernel
theorem dX2_init_32 : decode cX2_init 32 = .ok (.newarray .int, 2) := by decide +kernel
theorem dX2_init_34 : decode cX2_init 34 = .ok (.dup, 1) := by decide +kernel
theorem dX2_init_35 : decode cX2_init 35 = .ok (.iconst 0, 1) := by decide +kernel
theorem dX2_init_36 : decode cX2_init 36 = .ok (.iconst 2, 1) := by decide +kernel
theorem dX2_init_37 : decode cX2_init 37 = .ok (.iastore, 1) := by decide +kernel
theorem dX2_init_38 : decode cX2_init 38 = .ok (.dup, 1) := by decide +kernel
theorem dX2_init_39 : decode cX2_init 39 = .ok (.iconst 1, 1) := by decide +kernel
theorem dX2_init_40 : decode cX2_init 40 = .ok (.iconst 3, 1) := by decide +kernel
theorem dX2_init_41 : decode cX2_init 41 = .ok (.iastore, 1) := by decide +kernel
theorem dX2_init_42 : decode cX2_init 42 = .ok (.dup, 1) := by decide +kernel
theorem dX2_init_43 : decode cX2_init 43 = .ok (.iconst 2, 1) := by decide +kernel
theorem dX2_init_44 : decode cX2_init 44 = .ok (.iconst 2, 1) := by decide +kernel
theorem dX2_init_45 : decode cX2_init 45 = .ok (.iastore, 1) := by decide +kernel
theorem dX2_init_46 : decode cX2_init 46 = .ok (.putfield 27, 3) := by decide +kernel
theorem dX2_init_49 : decode cX2_init 49 = .ok (.aload_n 0, 1) := by decide +kernel
theorem dX2_init_50 : decode cX2_init 50 = .ok (.iconst 3, 1) := by decide +kernel
theorem dX2_init_51 : decode cX2_init 51 = .ok (.anewarray 30, 3) := by decide +kernel
theorem dX2_init_54 : decode cX2_init 54 = .ok (.dup, 1) := by decide +kernel
theorem dX2_init_55 : decode cX2_init 55 = .ok (.iconst 0, 1) := by decide +kernel
theorem dX2_init_56 : decode cX2_init 56 = .ok (.new 30, 3) := by decide +kernel
theorem dX2_init_59 : decode cX2_init 59 = .ok (.dup, 1) := by decide +kernel
theorem dX2_init_60 : decode cX2_init 60 = .ok (.iconst 0, 1) := by decide +kernel
theorem dX2_init_61 : decode cX2_init 61 = .ok (.iconst 0, 1) := by decide +kernel
theorem dX2_init_62 : decode cX2_init 62 = .ok (.invokespecial 32, 3) := by decide +kernel
theorem dX2_init_65 : decode cX2_init 65 = .ok (.aastore, 1) := by decide +kernel
theorem dX2_init_66 : decode cX2_init 66 = .ok (.dup, 1) := by decide +kernel
theorem dX2_init_67 : decode cX2_init 67 = .ok (.iconst 1, 1) := by decide +kernel
theorem dX2_init_68 : decode cX2_init 68 = .ok (.new 30, 3) := by decide +kernel
theorem dX2_init_71 : decode cX2_init 71 = .ok (.dup, 1) := by decide +kernel
theorem dX2_init_72 : decode cX2_init 72 = .ok (.bipush 8, 2) := by decide +kernel
theorem dX2_init_74 : decode cX2_init 74 = .ok (.iconst 0, 1) := by decide +kernel
theorem dX2_init_75 : decode cX2_init 75 = .ok (.invokespecial 32, 3) := by decide +kernel
theorem dX2_init_78 : decode cX2_init 78 = .ok (.aastore, 1) := by decide +kernel
theorem dX2_init_79 : decode cX2_init 79 = .ok (.dup, 1) := by decide +kernel
theorem dX2_init_80 : decode cX2_init 80 = .ok (.iconst 2, 1) := by decide +kernel
theorem dX2_init_81 : decode cX2_init 81 = .ok (.new 30, 3) := by decide +kernel
theorem dX2_init_84 : decode cX2_init 84 = .ok (.dup, 1) := by decide +kernel
theorem dX2_init_85 : decode cX2_init 85 = .ok (.iconst 0, 1) := by decide +kernel
theorem dX2_init_86 : decode cX2_init 86 = .ok (.bipush 8, 2) := by decide +kernel
theorem dX2_init_88 : decode cX2_init 88 = .ok (.invokespecial 32, 3) := by decide +kernel
theorem dX2_init_91 : decode cX2_init 91 = .ok (.aastore, 1) := by decide +kernel
theorem dX2_init_92 : decode cX2_init 92 = .ok (.putfield 35, 3) := by decide +kernel
theorem dX2_init_95 : decode cX2_init 95 = .ok (.aload_n 0, 1) := by decide +kernel
theorem dX2_init_96 : decode cX2_init 96 = .ok (.iconst 0, 1) := by decide +kernel
theorem dX2_init_97 : decode cX2_init 97 = .ok (.putfield 39, 3) := by decide +kernel
theorem dX2_init_100 : decode cX2_init 100 = .ok (.aload_n 0, 1) := by decide +kernel
theorem dX2_init_101 : decode cX2_init 101 = .ok (.iconst 0, 1) := by decide +kernel
theorem dX2_init_102 : decode cX2_init 102 = .ok (.putfield 43, 3) := by decide +kernel
theorem dX2_init_105 : decode cX2_init 105 = .ok (.aload_n 0, 1) := by decide +kernel
theorem dX2_init_106 : decode cX2_init 106 = .ok (.iconst 0, 1) := by decide +kernel
theorem dX2_init_107 : decode cX2_init 107 = .ok (.putfield 46, 3) := by decide +kernel
theorem dX2_init_110 : decode cX2_init 110 = .ok (.aload_n 0, 1) := by decide +kernel
theorem dX2_init_111 : decode cX2_init 111 = .ok (.bipush 60, 2) := by decide +kernel
theorem dX2_init_113 : decode cX2_init 113 = .ok (.putfield 49, 3) := by decide +kernel
theorem dX2_init_116 : decode cX2_init 116 = .ok (.return_, 1) := by decide +kernel
theorem dX2_copyFrom_0 : decode cX2_copyFrom 0 = .ok (.aload_n 0, 1) := by decide +kernel
theorem dX2_copyFrom_1 : decode cX2_copyFrom 1 = .ok (.aload_n 1, 1) := by decide +kernel
theorem dX2_copyFrom_2 : decode cX2_copyFrom 2 = .ok (.getfield 11, 3) := by decide +kernel
theorem dX2_copyFrom_5 : decode cX2_copyFrom 5 = .ok (.putfield 11, 3) := by decide +kernel
theorem dX2_copyFrom_8 : decode cX2_copyFrom 8 = .ok (.aload_n 0, 1) := by decide +kernel
theorem dX2_copyFrom_9 : decode cX2_copyFrom 9 = .ok (.aload_n 1, 1) := by decide +kernel
theorem dX2_copyFrom_10 : decode cX2_copyFrom 10 = .ok (.getfield 17, 3) := by decide +kernel
theorem dX2_copyFrom_13 : decode cX2_copyFrom 13 = .ok (.putfield 17, 3) := by decide +kernel
theorem dX2_copyFrom_16 : decode cX2_copyFrom 16 = .ok (.aload_n 0, 1) := by decide +kernel
theorem dX2_copyFrom_17 : decode cX2_copyFrom 17 = .ok (.aload_n 1, 1) := by decide +kernel
theorem dX2_copyFrom_18 : decode cX2_copyFrom 18 = .ok (.getfield 20, 3) := by decide +kernel
theorem dX2_copyFrom_21 : decode cX2_copyFrom 21 = .ok (.putfield 20, 3) := by decide +kernel
theorem dX2_copyFrom_24 : decode cX2_copyFrom 24 = .ok (.aload_n 1, 1) := by decide +kernel
theorem dX2_copyFrom_25 : decode cX2_copyFrom 25 = .ok (.getfield 23, 3) := by decide +kernel
theorem dX2_copyFrom_28 : decode cX2_copyFrom 28 = .ok (.iconst 0, 1) := by decide +kernel
theorem dX2_copyFrom_29 : decode cX2_copyFrom 29 = .ok (.aload_n 0, 1) := by decide +kernel
theorem dX2_copyFrom_30 : decode cX2_copyFrom 30 = .ok (.getfield 23, 3) := by decide +kernel
theorem dX2_copyFrom_33 : decode cX2_copyFrom 33 = .ok (.iconst 0, 1) := by decide +kernel
theorem dX2_copyFrom_34 : decode cX2_copyFrom 34 = .ok (.sipush 144, 3) := by decide +kernel
theorem dX2_copyFrom_37 : decode cX2_copyFrom 37 = .ok (.invokestatic 52, 3) := by decide +kernel
theorem dX2_copyFrom_40 : decode cX2_copyFrom 40 = .ok (.aload_n 1, 1) := by decide +kernel
theorem dX2_copyFrom_41 : decode cX2_copyFrom 41 = .ok (.getfield 27, 3) := by decide +kernel
theorem dX2_copyFrom_44 : decode cX2_copyFrom 44 = .ok (.iconst 0, 1) := by decide +kernel
theorem dX2_copyFrom_45 : decode cX2_copyFrom 45 = .ok (.aload_n 0, 1) := by decide +kernel
theorem dX2_copyFrom_46 : decode cX2_copyFrom 46 = .ok (.getfield 27, 3) := by decide +kernel
theorem dX2_copyFrom_49 : decode cX2_copyFrom 49 = .ok (.iconst 0, 1) := by decide +kernel
theorem dX2_copyFrom_50 : decode cX2_copyFrom 50 = .ok (.iconst 3, 1) := by decide +kernel
theorem dX2_copyFrom_51 : decode cX2_copyFrom 51 = .ok (.invokestatic 52, 3) := by decide +kernel
theorem dX2_copyFrom_54 : decode cX2_copyFrom 54 = .ok (.iconst 0, 1) := by decide +kernel
theorem dX2_copyFrom_55 : decode cX2_copyFrom 55 = .ok (.istore_n 2, 1) := by decide +kernel
theorem dX2_copyFrom_56 : decode cX2_copyFrom 56 = .ok (.iload_n 2, 1) := by decide +kernel
theorem dX2_copyFrom_57 : decode cX2_copyFrom 57 = .ok (.iconst 3, 1) := by decide +kernel
theorem dX2_copyFrom_58 : decode cX2_copyFrom 58 = .ok (.if_icmp .ge 24, 3) := by decide +kernel
theorem dX2_copyFrom_61 : decode cX2_copyFrom 61 = .ok (.aload_n 0, 1) := by decide +kernel
theorem dX2_copyFrom_62 : decode cX2_copyFrom 62 = .ok (.getfield 35, 3) := by decide +kernel
theorem dX2_copyFrom_65 : decode cX2_copyFrom 65 = .ok (.iload_n 2, 1) := by decide +kernel
theorem dX2_copyFrom_66 : decode cX2_copyFrom 66 = .ok (.aaload, 1) := by decide +kernel
theorem dX2_copyFrom_67 : decode cX2_copyFrom 67 = .ok (.aload_n 1, 1) := by decide +kernel
theorem dX2_copyFrom_68 : decode cX2_copyFrom 68 = .ok (.getfield 35, 3) := by decide +kernel
theorem dX2_copyFrom_71 : decode cX2_copyFrom 71 = .ok (.iload_n 2, 1) := by decide +kernel
theorem dX2_copyFrom_72 : decode cX2_copyFrom 72 = .ok (.aaload, 1) := by decide +kernel
theorem dX2_copyFrom_73 : decode cX2_copyFrom 73 = .ok (.invokevirtual 58, 3) := by decide +kernel
theorem dX2_copyFrom_76 : decode cX2_copyFrom 76 = .ok (.iinc 2 1, 3) := by decide +kernel
theorem dX2_copyFrom_79 : decode cX2_copyFrom 79 = .ok (.goto (-23), 3) := by decide +kernel
theorem dX2_copyFrom_82 : decode cX2_copyFrom 82 = .ok (.aload_n 0, 1) := by decide +kernel
theorem dX2_copyFrom_83 : decode cX2_copyFrom 83 = .ok (.aload_n 1, 1) := by decide +kernel
theorem dX2_copyFrom_84 : decode cX2_copyFrom 84 = .ok (.getfield 39, 3) := by decide +kernel
theorem dX2_copyFrom_87 : decode cX2_copyFrom 87 = .ok (.putfield 39, 3) := by decide +kernel
theorem dX2_copyFrom_90 : decode cX2_copyFrom 90 = .ok (.aload_n 0, 1) := by decide +kernel
theorem dX2_copyFrom_91 : decode cX2_copyFrom 91 = .ok (.aload_n 1, 1) := by decide +kernel
theorem dX2_copyFrom_92 : decode cX2_copyFrom 92 = .ok (.getfield 43, 3) := by decide +kernel
theorem dX2_copyFrom_95 : decode cX2_copyFrom 95 = .ok (.putfield 43, 3) := by decide +kernel
theorem dX2_copyFrom_98 : decode cX2_copyFrom 98 = .ok (.aload_n 0, 1) := by decide +kernel
theorem dX2_copyFrom_99 : decode cX2_copyFrom 99 = .ok (.aload_n 1, 1) := by decide +kernel
theorem dX2_copyFrom_100 : decode cX2_copyFrom 100 = .ok (.getfield 46, 3) := by decide +kernel
theorem dX2_copyFrom_103 : decode cX2_copyFrom 103 = .ok (.putfield 46, 3) := by decide +kernel
theorem dX2_copyFrom_106 : decode cX2_copyFrom 106 = .ok (.aload_n 0, 1) := by decide +kernel
theorem dX2_copyFrom_107 : decode cX2_copyFrom 107 = .ok (.aload_n 1, 1) := by decide +kernel
theorem dX2_copyFrom_108 : decode cX2_copyFrom 108 = .ok (.getfield 49, 3) := by decide +kernel
theorem dX2_copyFrom_111 : decode cX2_copyFrom 111 = .ok (.putfield 49, 3) := by decide +kernel
theorem dX2_copyFrom_114 : decode cX2_copyFrom 114 = .ok (.return_, 1) := by decide +kernel
theorem dX2_makeSteps_0 : decode cX2_makeSteps 0 = .ok (.iconst 0, 1) := by decide +kernel
theorem dX2_makeSteps_1 : decode cX2_makeSteps 1 = .ok (.istore 4, 2) := by decide +kernel
theorem dX2_makeSteps_3 : decode cX2_makeSteps 3 = .ok (.iload 4, 2) := by decide +kernel
theorem dX2_makeSteps_5 : decode cX2_makeSteps 5 = .ok (.iload_n 3, 1) := by decide +kernel
theorem dX2_makeSteps_6 : decode cX2_makeSteps 6 = .ok (.if_icmp .ge 24, 3) := by decide +kernel
theorem dX2_makeSteps_9 : decode cX2_makeSteps 9 = .ok (.aload_n 0, 1) := by decide +kernel
theorem dX2_makeSteps_10 : decode cX2_makeSteps 10 = .ok (.iload_n 1, 1) := by decide +kernel
theorem dX2_makeSteps_11 : decode cX2_makeSteps 11 = .ok (.iload_n 2, 1) := by decide +kernel
theorem dX2_makeSteps_12 : decode cX2_makeSteps 12 = .ok (.invokevirtual 62, 3) := by decide +kernel
theorem dX2_makeSteps_15 : decode cX2_makeSteps 15 = .ok (.ifCond .ne 15, 3) := by decide +kernel
theorem dX2_makeSteps_18 : decode cX2_makeSteps 18 = .ok (.aload_n 0, 1) := by decide +kernel
theorem dX2_makeSteps_19 : decode cX2_makeSteps 19 = .ok (.iload_n 1, 1) := by decide +kernel
theorem dX2_makeSteps_20 : decode cX2_makeSteps 20 = .ok (.iload_n 2, 1) := by decide +kernel
theorem dX2_makeSteps_21 : decode cX2_makeSteps 21 = .ok (.invokevirtual 66, 3) := by decide +kernel
theorem dX2_makeSteps_24 : decode cX2_makeSteps 24 = .ok (.iinc 4 1, 3) := by decide +kernel
theorem dX2_makeSteps_27 : decode cX2_makeSteps 27 = .ok (.goto (-24), 3) := by decide +kernel
theorem dX2_makeSteps_30 : decode cX2_makeSteps 30 = .ok (.iload 4, 2) := by decide +kernel
theorem dX2_makeSteps_32 : decode cX2_makeSteps 32 = .ok (.ireturn, 1) := by decide +kernel
theorem dX2_reasonAgainst_0 : decode cX2_reasonAgainst 0 = .ok (.aload_n 0, 1) := by decide +kernel
theorem dX2_reasonAgainst_1 : decode cX2_reasonAgainst 1 = .ok (.getfield 35, 3) := by decide +kernel
theorem dX2_reasonAgainst_4 : decode cX2_reasonAgainst 4 = .ok (.iload_n 1, 1) := by decide +kernel
theorem dX2_reasonAgainst_5 : decode cX2_reasonAgainst 5 = .ok (.aaload, 1) := by decide +kernel
theorem dX2_reasonAgainst_6 : decode cX2_reasonAgainst 6 = .ok (.astore_n 3, 1) := by decide +kernel
theorem dX2_reasonAgainst_7 : decode cX2_reasonAgainst 7 = .ok (.aload_n 3, 1) := by decide +kernel
theorem dX2_reasonAgainst_8 : decode cX2_reasonAgainst 8 = .ok (.getfield 69, 3) := by decide +kernel
theorem dX2_reasonAgainst_11 : decode cX2_reasonAgainst 11 = .ok (.aload_n 3, 1) := by decide +kernel
theorem dX2_reasonAgainst_12 : decode cX2_reasonAgainst 12 = .ok (.getfield 72, 3) := by decide +kernel
theorem dX2_reasonAgainst_15 : decode cX2_reasonAgainst 15 = .ok (.iload_n 2, 1) := by decide +kernel
theorem dX2_reasonAgainst_16 : decode cX2_reasonAgainst 16 = .ok (.invokestatic 75, 3) := by decide +kernel
theorem dX2_reasonAgainst_19 : decode cX2_reasonAgainst 19 = .ok (.istore 4, 2) := by decide +kernel
theorem dX2_reasonAgainst_21 : decode cX2_reasonAgainst 21 = .ok (.iload 4, 2) := by decide +kernel
theorem dX2_reasonAgainst_23 : decode cX2_reasonAgainst 23 = .ok (.iconst (-1), 1) := by decide +kernel
theorem dX2_reasonAgainst_24 : decode cX2_reasonAgainst 24 = .ok (.if_icmp .ne 5, 3) := by decide +kernel
theorem dX2_reasonAgainst_27 : decode cX2_reasonAgainst 27 = .ok (.iconst 1, 1) := by decide +kernel
theorem dX2_reasonAgainst_28 : decode cX2_reasonAgainst 28 = .ok (.ireturn, 1) := by decide +kernel
theorem dX2_reasonAgainst_29 : decode cX2_reasonAgainst 29 = .ok (.aload_n 0, 1) := by decide +kernel
theorem dX2_reasonAgainst_30 : decode cX2_reasonAgainst 30 = .ok (.aload_n 3, 1) := by decide +kernel
theorem dX2_reasonAgainst_31 : decode cX2_reasonAgainst 31 = .ok (.iload_n 2, 1) := by decide +kernel
theorem dX2_reasonAgainst_32 : decode cX2_reasonAgainst 32 = .ok (.invokevirtual 81, 3) := by decide +kernel
theorem dX2_reasonAgainst_35 : decode cX2_reasonAgainst 35 = .ok (.aload_n 3, 1) := by decide +kernel
theorem dX2_reasonAgainst_36 : decode cX2_reasonAgainst 36 = .ok (.iload_n 2, 1) := by decide +kernel
theorem dX2_reasonAgainst_37 : decode cX2_reasonAgainst 37 = .ok (.invokevirtual 85, 3) := by decide +kernel
theorem dX2_reasonAgainst_40 : decode cX2_reasonAgainst 40 = .ok (.invokevirtual 88, 3) := by decide +kernel
theorem dX2_reasonAgainst_43 : decode cX2_reasonAgainst 43 = .ok (.ifCond .eq 5, 3) := by decide +kernel
theorem dX2_reasonAgainst_46 : decode cX2_reasonAgainst 46 = .ok (.iconst 2, 1) := by decide +kernel
theorem dX2_reasonAgainst_47 : decode cX2_reasonAgainst 47 = .ok (.ireturn, 1) := by decide +kernel
theorem dX2_reasonAgainst_48 : decode cX2_reasonAgainst 48 = .ok (.iload 4, 2) := by decide +kernel
theorem dX2_reasonAgainst_50 : decode cX2_reasonAgainst 50 = .ok (.invokestatic 92, 3) := by decide +kernel
theorem dX2_reasonAgainst_53 : decode cX2_reasonAgainst 53 = .ok (.lstore 5, 2) := by decide +kernel
theorem dX2_reasonAgainst_55 : decode cX2_reasonAgainst 55 = .ok (.lload 5, 2) := by decide +kernel
theorem dX2_reasonAgainst_57 : decode cX2_reasonAgainst 57 = .ok (.aload_n 0, 1) := by decide +kernel
theorem dX2_reasonAgainst_58 : decode cX2_reasonAgainst 58 = .ok (.getfield 11, 3) := by decide +kernel
theorem dX2_reasonAgainst_61 : decode cX2_reasonAgainst 61 = .ok (.land, 1) := by decide +kernel
theorem dX2_reasonAgainst_62 : decode cX2_reasonAgainst 62 = .ok (.lconst 0, 1) := by decide +kernel
theorem dX2_reasonAgainst_63 : decode cX2_reasonAgainst 63 = .ok (.lcmp, 1) := by decide +kernel
theorem dX2_reasonAgainst_64 : decode cX2_reasonAgainst 64 = .ok (.ifCond .ne 5, 3) := by decide +kernel
theorem dX2_reasonAgainst_67 : decode cX2_reasonAgainst 67 = .ok (.iconst 3, 1) := by decide +kernel
theorem dX2_reasonAgainst_68 : decode cX2_reasonAgainst 68 = .ok (.ireturn, 1) := by decide +kernel
theorem dX2_reasonAgainst_69 : decode cX2_reasonAgainst 69 = .ok (.aload_n 0, 1) := by decide +kernel
theorem dX2_reasonAgainst_70 : decode cX2_reasonAgainst 70 = .ok (.iload_n 1, 1) := by decide +kernel
theorem dX2_reasonAgainst_71 : decode cX2_reasonAgainst 71 = .ok (.lload 5, 2) := by decide +kernel
theorem dX2_reasonAgainst_73 : decode cX2_reasonAgainst 73 = .ok (.invokevirtual 96, 3) := by decide +kernel
theorem dX2_reasonAgainst_76 : decode cX2_reasonAgainst 76 = .ok (.iconst (-1), 1) := by decide +kernel
theorem dX2_reasonAgainst_77 : decode cX2_reasonAgainst 77 = .ok (.if_icmp .eq 7, 3) := by decide +kernel
theorem dX2_reasonAgainst_80 : decode cX2_reasonAgainst 80 = .ok (.iconst 1, 1) := by decide +kernel
theorem dX2_reasonAgainst_81 : decode cX2_reasonAgainst 81 = .ok (.goto 4, 3) := by decide +kernel
theorem dX2_reasonAgainst_84 : decode cX2_reasonAgainst 84 = .ok (.iconst 0, 1) := by decide +kernel
theorem dX2_reasonAgainst_85 : decode cX2_reasonAgainst 85 = .ok (.istore 7, 2) := by decide +kernel
theorem dX2_reasonAgainst_87 : decode cX2_reasonAgainst 87 = .ok (.iload 7, 2) := by decide +kernel
theorem dX2_reasonAgainst_89 : decode cX2_reasonAgainst 89 = .ok (.ifCond .eq 20, 3) := by decide +kernel
theorem dX2_reasonAgainst_92 : decode cX2_reasonAgainst 92 = .ok (.aload_n 3, 1) := by decide +kernel
theorem dX2_reasonAgainst_93 : decode cX2_reasonAgainst 93 = .ok (.getfield 100, 3) := by decide +kernel
theorem dX2_reasonAgainst_96 : decode cX2_reasonAgainst 96 = .ok (.aload_n 0, 1) := by decide +kernel
theorem dX2_reasonAgainst_97 : decode cX2_reasonAgainst 97 = .ok (.getfield 27, 3) := by decide +kernel
theorem dX2_reasonAgainst_100 : decode cX2_reasonAgainst 100 = .ok (.iconst 0, 1) := by decide +kernel
theorem dX2_reasonAgainst_101 : decode cX2_reasonAgainst 101 = .ok (.iaload, 1) := by decide +kernel
theorem dX2_reasonAgainst_102 : decode cX2_reasonAgainst 102 = .ok (.if_icmp .ge 7, 3) := by decide +kernel
theorem dX2_reasonAgainst_105 : decode cX2_reasonAgainst 105 = .ok (.iconst 4, 1) := by decide +kernel
theorem dX2_reasonAgainst_106 : decode cX2_reasonAgainst 106 = .ok (.goto 4, 3) := by decide +kernel
theorem dX2_reasonAgainst_109 : decode cX2_reasonAgainst 109 = .ok (.iconst 0, 1) := by decide +kernel
theorem dX2_reasonAgainst_110 : decode cX2_reasonAgainst 110 = .ok (.ireturn, 1) := by decide +kernel
theorem dX2_makeStep_0 : decode cX2_makeStep 0 = .ok (.aload_n 0, 1) := by decide +kernel
theorem dX2_makeStep_1 : decode cX2_makeStep 1 = .ok (.getfield 35, 3) := by decide +kernel
theorem dX2_makeStep_4 : decode cX2_makeStep 4 = .ok (.iload_n 1, 1) := by decide +kernel
theorem dX2_makeStep_5 : decode cX2_makeStep 5 = .ok (.aaload, 1) := by decide +kernel
theorem dX2_makeStep_6 : decode cX2_makeStep 6 = .ok (.astore_n 3, 1) := by decide +kernel
theorem dX2_makeStep_7 : decode cX2_makeStep 7 = .ok (.aload_n 3, 1) := by decide +kernel
theorem dX2_makeStep_8 : decode cX2_makeStep 8 = .ok (.getfield 69, 3) := by decide +kernel
theorem dX2_makeStep_11 : decode cX2_makeStep 11 = .ok (.aload_n 3, 1) := by decide +kernel
theorem dX2_makeStep_12 : decode cX2_makeStep 12 = .ok (.getfield 72, 3) := by decide +kernel
theorem dX2_makeStep_15 : decode cX2_makeStep 15 = .ok (.iload_n 2, 1) := by decide +kernel
theorem dX2_makeStep_16 : decode cX2_makeStep 16 = .ok (.invokestatic 75, 3) := by decide +kernel
theorem dX2_makeStep_19 : decode cX2_makeStep 19 = .ok (.istore 4, 2) := by decide +kernel
theorem dX2_makeStep_21 : decode cX2_makeStep 21 = .ok (.iload 4, 2) := by decide +kernel
theorem dX2_makeStep_23 : decode cX2_makeStep 23 = .ok (.iconst (-1), 1) := by decide +kernel
theorem dX2_makeStep_24 : decode cX2_makeStep 24 = .ok (.if_icmp .ne 4, 3) := by decide +kernel
theorem dX2_makeStep_27 : decode cX2_makeStep 27 = .ok (.return_, 1) := by decide +kernel
theorem dX2_makeStep_28 : decode cX2_makeStep 28 = .ok (.iload 4, 2) := by decide +kernel
theorem dX2_makeStep_30 : decode cX2_makeStep 30 = .ok (.invokestatic 92, 3) := by decide +kernel
theorem dX2_makeStep_33 : decode cX2_makeStep 33 = .ok (.aload_n 0, 1) := by decide +kernel
theorem dX2_makeStep_34 : decode cX2_makeStep 34 = .ok (.getfield 11, 3) := by decide +kernel
theorem dX2_makeStep_37 : decode cX2_makeStep 37 = .ok (.land, 1) := by decide +kernel
theorem dX2_makeStep_38 : decode cX2_makeStep 38 = .ok (.lstore 5, 2) := by decide +kernel
theorem dX2_makeStep_40 : decode cX2_makeStep 40 = .ok (.aload_n 0, 1) := by decide +kernel
theorem dX2_makeStep_41 : decode cX2_makeStep 41 = .ok (.aload_n 3, 1) := by decide +kernel
theorem dX2_makeStep_42 : decode cX2_makeStep 42 = .ok (.aload_n 0, 1) := by decide +kernel
theorem dX2_makeStep_43 : decode cX2_makeStep 43 = .ok (.iload_n 1, 1) := by decide +kernel
theorem dX2_makeStep_44 : decode cX2_makeStep 44 = .ok (.lload 5, 2) := by decide +kernel
theorem dX2_makeStep_46 : decode cX2_makeStep 46 = .ok (.invokevirtual 96, 3) := by decide +kernel
theorem dX2_makeStep_49 : decode cX2_makeStep 49 = .ok (.invokevirtual 103, 3) := by decide +kernel
theorem dX2_makeStep_52 : decode cX2_makeStep 52 = .ok (.aload_n 3, 1) := by decide +kernel
theorem dX2_makeStep_53 : decode cX2_makeStep 53 = .ok (.iload_n 2, 1) := by decide +kernel
theorem dX2_makeStep_54 : decode cX2_makeStep 54 = .ok (.invokevirtual 107, 3) := by decide +kernel
theorem dX2_makeStep_57 : decode cX2_makeStep 57 = .ok (.aload_n 0, 1) := by decide +kernel
theorem dX2_makeStep_58 : decode cX2_makeStep 58 = .ok (.getfield 23, 3) := by decide +kernel
theorem dX2_makeStep_61 : decode cX2_makeStep 61 = .ok (.iload 4, 2) := by decide +kernel
theorem dX2_makeStep_63 : decode cX2_makeStep 63 = .ok (.dup2, 1) := by decide +kernel
theorem dX2_makeStep_64 : decode cX2_makeStep 64 = .ok (.iaload, 1) := by decide +kernel
theorem dX2_makeStep_65 : decode cX2_makeStep 65 = .ok (.iconst 1, 1) := by decide +kernel
theorem dX2_makeStep_66 : decode cX2_makeStep 66 = .ok (.iadd, 1) := by decide +kernel
theorem dX2_makeStep_67 : decode cX2_makeStep 67 = .ok (.iastore, 1) := by decide +kernel
theorem dX2_makeStep_68 : decode cX2_makeStep 68 = .ok (.aload_n 0, 1) := by decide +kernel
theorem dX2_makeStep_69 : decode cX2_makeStep 69 = .ok (.getfield 23, 3) := by decide +kernel
theorem dX2_makeStep_72 : decode cX2_makeStep 72 = .ok (.iload 4, 2) := by decide +kernel
theorem dX2_makeStep_74 : decode cX2_makeStep 74 = .ok (.iaload, 1) := by decide +kernel
theorem dX2_makeStep_75 : decode cX2_makeStep 75 = .ok (.aload_n 0, 1) := by decide +kernel
theorem dX2_makeStep_76 : decode cX2_makeStep 76 = .ok (.getfield 27, 3) := by decide +kernel
theorem dX2_makeStep_79 : decode cX2_makeStep 79 = .ok (.iconst 1, 1) := by decide +kernel
theorem dX2_makeStep_80 : decode cX2_makeStep 80 = .ok (.iaload, 1) := by decide +kernel
theorem dX2_makeStep_81 : decode cX2_makeStep 81 = .ok (.if_icmp .le 22, 3) := by decide +kernel
theorem dX2_makeStep_84 : decode cX2_makeStep 84 = .ok (.aload_n 0, 1) := by decide +kernel
theorem dX2_makeStep_85 : decode cX2_makeStep 85 = .ok (.dup, 1) := by decide +kernel
theorem dX2_makeStep_86 : decode cX2_makeStep 86 = .ok (.getfield 39, 3) := by decide +kernel
theorem dX2_makeStep_89 : decode cX2_makeStep 89 = .ok (.iconst 1, 1) := by decide +kernel
theorem dX2_makeStep_90 : decode cX2_makeStep 90 = .ok (.iadd, 1) := by decide +kernel
theorem dX2_makeStep_91 : decode cX2_makeStep 91 = .ok (.putfield 39, 3) := by decide +kernel
theorem dX2_makeStep_94 : decode cX2_makeStep 94 = .ok (.aload_n 0, 1) := by decide +kernel
theorem dX2_makeStep_95 : decode cX2_makeStep 95 = .ok (.lload 5, 2) := by decide +kernel
theorem dX2_makeStep_97 : decode cX2_makeStep 97 = .ok (.invokevirtual 111, 3) := by decide +kernel
theorem dX2_makeStep_100 : decode cX2_makeStep 100 = .ok (.goto 34, 3) := by decide +kernel
theorem dX2_makeStep_103 : decode cX2_makeStep 103 = .ok (.lload 5, 2) := by decide +kernel
theorem dX2_makeStep_105 : decode cX2_makeStep 105 = .ok (.invokestatic 115, 3) := by decide +kernel
theorem dX2_makeStep_108 : decode cX2_makeStep 108 = .ok (.iconst 2, 1) := by decide +kernel
theorem dX2_makeStep_109 : decode cX2_makeStep 109 = .ok (.if_icmp .ne 25, 3) := by decide +kernel
theorem dX2_makeStep_112 : decode cX2_makeStep 112 = .ok (.aload_n 0, 1) := by decide +kernel
theorem dX2_makeStep_113 : decode cX2_makeStep 113 = .ok (.iload 4, 2) := by decide +kernel
theorem dX2_makeStep_115 : decode cX2_makeStep 115 = .ok (.invokevirtual 121, 3) := by decide +kernel
theorem dX2_makeStep_118 : decode cX2_makeStep 118 = .ok (.ifCond .ne 16, 3) := by decide +kernel
theorem dX2_makeStep_121 : decode cX2_makeStep 121 = .ok (.aload_n 0, 1) := by decide +kernel
theorem dX2_makeStep_122 : decode cX2_makeStep 122 = .ok (.iload 4, 2) := by decide +kernel
theorem dX2_makeStep_124 : decode cX2_makeStep 124 = .ok (.invokevirtual 125, 3) := by decide +kernel
theorem dX2_makeStep_127 : decode cX2_makeStep 127 = .ok (.aload_n 0, 1) := by decide +kernel
theorem dX2_makeStep_128 : decode cX2_makeStep 128 = .ok (.aload_n 3, 1) := by decide +kernel
theorem dX2_makeStep_129 : decode cX2_makeStep 129 = .ok (.iload 4, 2) := by decide +kernel
theorem dX2_makeStep_131 : decode cX2_makeStep 131 = .ok (.invokevirtual 128, 3) := by decide +kernel
theorem dX2_makeStep_134 : decode cX2_makeStep 134 = .ok (.return_, 1) := by decide +kernel
theorem dX2_isTaken_0 : decode cX2_isTaken 0 = .ok (.iconst 0, 1) := by decide +kernel
theorem dX2_isTaken_1 : decode cX2_isTaken 1 = .ok (.istore_n 3, 1) := by decide +kernel
theorem dX2_isTaken_2 : decode cX2_isTaken 2 = .ok (.iload_n 3, 1) := by decide +kernel
theorem dX2_isTaken_3 : decode cX2_isTaken 3 = .ok (.iconst 3, 1) := by decide +kernel
theorem dX2_isTaken_4 : decode cX2_isTaken 4 = .ok (.if_icmp .ge 37, 3) := by decide +kernel
theorem dX2_isTaken_7 : decode cX2_isTaken 7 = .ok (.aload_n 0, 1) := by decide +kernel
theorem dX2_isTaken_8 : decode cX2_isTaken 8 = .ok (.getfield 35, 3) := by decide +kernel
theorem dX2_isTaken_11 : decode cX2_isTaken 11 = .ok (.iload_n 3, 1) := by decide +kernel
theorem dX2_isTaken_12 : decode cX2_isTaken 12 = .ok (.aaload, 1) := by decide +kernel
theorem dX2_isTaken_13 : decode cX2_isTaken 13 = .ok (.getfield 69, 3) := by decide +kernel
theorem dX2_isTaken_16 : decode cX2_isTaken 16 = .ok (.iload_n 1, 1) := by decide +kernel
theorem dX2_isTaken_17 : decode cX2_isTaken 17 = .ok (.if_icmp .ne 18, 3) := by decide +kernel
theorem dX2_isTaken_20 : decode cX2_isTaken 20 = .ok (.aload_n 0, 1) := by decide +kernel
theorem dX2_isTaken_21 : decode cX2_isTaken 21 = .ok (.getfield 35, 3) := by decide +kernel
theorem dX2_isTaken_24 : decode cX2_isTaken 24 = .ok (.iload_n 3, 1) := by decide +kernel
theorem dX2_isTaken_25 : decode cX2_isTaken 25 = .ok (.aaload, 1) := by decide +kernel
theorem dX2_isTaken_26 : decode cX2_isTaken 26 = .ok (.getfield 72, 3) := by decide +kernel
theorem dX2_isTaken_29 : decode cX2_isTaken 29 = .ok (.iload_n 2, 1) := by decide +kernel
theorem dX2_isTaken_30 : decode cX2_isTaken 30 = .ok (.if_icmp .ne 5, 3) := by decide +kernel
theorem dX2_isTaken_33 : decode cX2_isTaken 33 = .ok (.iconst 1, 1) := by decide +kernel
theorem dX2_isTaken_34 : decode cX2_isTaken 34 = .ok (.ireturn, 1) := by decide +kernel
theorem dX2_isTaken_35 : decode cX2_isTaken 35 = .ok (.iinc 3 1, 3) := by decide +kernel
theorem dX2_isTaken_38 : decode cX2_isTaken 38 = .ok (.goto (-36), 3) := by decide +kernel
theorem dX2_isTaken_41 : decode cX2_isTaken 41 = .ok (.iconst 0, 1) := by decide +kernel
theorem dX2_isTaken_42 : decode cX2_isTaken 42 = .ok (.ireturn, 1) := by decide +kernel
theorem dX2_tollTaker_0 : decode cX2_tollTaker 0 = .ok (.lload_n 2, 1) := by decide +kernel
theorem dX2_tollTaker_1 : decode cX2_tollTaker 1 = .ok (.invokestatic 115, 3) := by decide +kernel
theorem dX2_tollTaker_4 : decode cX2_tollTaker 4 = .ok (.iconst 2, 1) := by decide +kernel
theorem dX2_tollTaker_5 : decode cX2_tollTaker 5 = .ok (.if_icmp .eq 5, 3) := by decide +kernel
theorem dX2_tollTaker_8 : decode cX2_tollTaker 8 = .ok (.iconst (-1), 1) := by decide +kernel
theorem dX2_tollTaker_9 : decode cX2_tollTaker 9 = .ok (.ireturn, 1) := by decide +kernel
theorem dX2_tollTaker_10 : decode cX2_tollTaker 10 = .ok (.iconst 0, 1) := by decide +kernel
theorem dX2_tollTaker_11 : decode cX2_tollTaker 11 = .ok (.istore 4, 2) := by decide +kernel
theorem dX2_tollTaker_13 : decode cX2_tollTaker 13 = .ok (.iload 4, 2) := by decide +kernel
theorem dX2_tollTaker_15 : decode cX2_tollTaker 15 = .ok (.iconst 3, 1) := by decide +kernel
theorem dX2_tollTaker_16 : decode cX2_tollTaker 16 = .ok (.if_icmp .ge 35, 3) := by decide +kernel
theorem dX2_tollTaker_19 : decode cX2_tollTaker 19 = .ok (.iload 4, 2) := by decide +kernel
theorem dX2_tollTaker_21 : decode cX2_tollTaker 21 = .ok (.iload_n 1, 1) := by decide +kernel
theorem dX2_tollTaker_22 : decode cX2_tollTaker 22 = .ok (.if_icmp .eq 23, 3) := by decide +kernel
theorem dX2_tollTaker_25 : decode cX2_tollTaker 25 = .ok (.aload_n 0, 1) := by decide +kernel
theorem dX2_tollTaker_26 : decode cX2_tollTaker 26 = .ok (.getfield 35, 3) := by decide +kernel
theorem dX2_tollTaker_29 : decode cX2_tollTaker 29 = .ok (.iload 4, 2) := by decide +kernel
theorem dX2_tollTaker_31 : decode cX2_tollTaker 31 = .ok (.aaload, 1) := by decide +kernel
theorem dX2_tollTaker_32 : decode cX2_tollTaker 32 = .ok (.getfield 131, 3) := by decide +kernel
theorem dX2_tollTaker_35 : decode cX2_tollTaker 35 = .ok (.lload_n 2, 1) := by decide +kernel
theorem dX2_tollTaker_36 : decode cX2_tollTaker 36 = .ok (.land, 1) := by decide +kernel
theorem dX2_tollTaker_37 : decode cX2_tollTaker 37 = .ok (.lload_n 2, 1) := by decide +kernel
theorem dX2_tollTaker_38 : decode cX2_tollTaker 38 = .ok (.lcmp, 1) := by decide +kernel
theorem dX2_tollTaker_39 : decode cX2_tollTaker 39 = .ok (.ifCond .ne 6, 3) := by decide +kernel
theorem dX2_tollTaker_42 : decode cX2_tollTaker 42 = .ok (.iload 4, 2) := by decide +kernel
theorem dX2_tollTaker_44 : decode cX2_tollTaker 44 = .ok (.ireturn, 1) := by decide +kernel
theorem dX2_tollTaker_45 : decode cX2_tollTaker 45 = .ok (.iinc 4 1, 3) := by decide +kernel
theorem dX2_tollTaker_48 : decode cX2_tollTaker 48 = .ok (.goto (-35), 3) := by decide +kernel
theorem dX2_tollTaker_51 : decode cX2_tollTaker 51 = .ok (.iconst (-1), 1) := by decide +kernel
theorem dX2_tollTaker_52 : decode cX2_tollTaker 52 = .ok (.ireturn, 1) := by decide +kernel
theorem dX2_payToll_0 : decode cX2_payToll 0 = .ok (.iload_n 2, 1) := by decide +kernel
theorem dX2_payToll_1 : decode cX2_payToll 1 = .ok (.iconst (-1), 1) := by decide +kernel
theorem dX2_payToll_2 : decode cX2_payToll 2 = .ok (.if_icmp .ne 4, 3) := by decide +kernel
theorem dX2_payToll_5 : decode cX2_payToll 5 = .ok (.return_, 1) := by decide +kernel
theorem dX2_payToll_6 : decode cX2_payToll 6 = .ok (.aload_n 0, 1) := by decide +kernel
theorem dX2_payToll_7 : decode cX2_payToll 7 = .ok (.getfield 27, 3) := by decide +kernel
theorem dX2_payToll_10 : decode cX2_payToll 10 = .ok (.iconst 0, 1) := by decide +kernel
theorem dX2_payToll_11 : decode cX2_payToll 11 = .ok (.iaload, 1) := by decide +kernel
theorem dX2_payToll_12 : decode cX2_payToll 12 = .ok (.istore_n 3, 1) := by decide +kernel
theorem dX2_payToll_13 : decode cX2_payToll 13 = .ok (.aload_n 1, 1) := by decide +kernel
theorem dX2_payToll_14 : decode cX2_payToll 14 = .ok (.dup, 1) := by decide +kernel
theorem dX2_payToll_15 : decode cX2_payToll 15 = .ok (.getfield 100, 3) := by decide +kernel
theorem dX2_payToll_18 : decode cX2_payToll 18 = .ok (.iload_n 3, 1) := by decide +kernel
theorem dX2_payToll_19 : decode cX2_payToll 19 = .ok (.isub, 1) := by decide +kernel
theorem dX2_payToll_20 : decode cX2_payToll 20 = .ok (.putfield 100, 3) := by decide +kernel
theorem dX2_payToll_23 : decode cX2_payToll 23 = .ok (.aload_n 1, 1) := by decide +kernel
theorem dX2_payToll_24 : decode cX2_payToll 24 = .ok (.dup, 1) := by decide +kernel
theorem dX2_payToll_25 : decode cX2_payToll 25 = .ok (.getfield 134, 3) := by decide +kernel
theorem dX2_payToll_28 : decode cX2_payToll 28 = .ok (.iload_n 3, 1) := by decide +kernel
theorem dX2_payToll_29 : decode cX2_payToll 29 = .ok (.iadd, 1) := by decide +kernel
theorem dX2_payToll_30 : decode cX2_payToll 30 = .ok (.putfield 134, 3) := by decide +kernel
theorem dX2_payToll_33 : decode cX2_payToll 33 = .ok (.aload_n 0, 1) := by decide +kernel
theorem dX2_payToll_34 : decode cX2_payToll 34 = .ok (.getfield 35, 3) := by decide +kernel
theorem dX2_payToll_37 : decode cX2_payToll 37 = .ok (.iload_n 2, 1) := by decide +kernel
theorem dX2_payToll_38 : decode cX2_payToll 38 = .ok (.aaload, 1) := by decide +kernel
theorem dX2_payToll_39 : decode cX2_payToll 39 = .ok (.dup, 1) := by decide +kernel
theorem dX2_payToll_40 : decode cX2_payToll 40 = .ok (.getfield 100, 3) := by decide +kernel
theorem dX2_payToll_43 : decode cX2_payToll 43 = .ok (.iload_n 3, 1) := by decide +kernel
theorem dX2_payToll_44 : decode cX2_payToll 44 = .ok (.iadd, 1) := by decide +kernel
theorem dX2_payToll_45 : decode cX2_payToll 45 = .ok (.putfield 100, 3) := by decide +kernel
theorem dX2_payToll_48 : decode cX2_payToll 48 = .ok (.aload_n 0, 1) := by decide +kernel
theorem dX2_payToll_49 : decode cX2_payToll 49 = .ok (.getfield 35, 3) := by decide +kernel
theorem dX2_payToll_52 : decode cX2_payToll 52 = .ok (.iload_n 2, 1) := by decide +kernel
theorem dX2_payToll_53 : decode cX2_payToll 53 = .ok (.aaload, 1) := by decide +kernel
theorem dX2_payToll_54 : decode cX2_payToll 54 = .ok (.dup, 1) := by decide +kernel
theorem dX2_payToll_55 : decode cX2_payToll 55 = .ok (.getfield 137, 3) := by decide +kernel
theorem dX2_payToll_58 : decode cX2_payToll 58 = .ok (.iload_n 3, 1) := by decide +kernel
theorem dX2_payToll_59 : decode cX2_payToll 59 = .ok (.iadd, 1) := by decide +kernel
theorem dX2_payToll_60 : decode cX2_payToll 60 = .ok (.putfield 137, 3) := by decide +kernel
theorem dX2_payToll_63 : decode cX2_payToll 63 = .ok (.return_, 1) := by decide +kernel
theorem dX2_isCut_0 : decode cX2_isCut 0 = .ok (.iload_n 1, 1) := by decide +kernel
theorem dX2_isCut_1 : decode cX2_isCut 1 = .ok (.invokestatic 140, 3) := by decide +kernel
theorem dX2_isCut_4 : decode cX2_isCut 4 = .ok (.ifCond .eq 10, 3) := by decide +kernel
theorem dX2_isCut_7 : decode cX2_isCut 7 = .ok (.aload_n 0, 1) := by decide +kernel
theorem dX2_isCut_8 : decode cX2_isCut 8 = .ok (.getfield 17, 3) := by decide +kernel
theorem dX2_isCut_11 : decode cX2_isCut 11 = .ok (.goto 7, 3) := by decide +kernel
theorem dX2_isCut_14 : decode cX2_isCut 14 = .ok (.aload_n 0, 1) := by decide +kernel
theorem dX2_isCut_15 : decode cX2_isCut 15 = .ok (.getfield 20, 3) := by decide +kernel
theorem dX2_isCut_18 : decode cX2_isCut 18 = .ok (.lstore_n 2, 1) := by decide +kernel
theorem dX2_isCut_19 : decode cX2_isCut 19 = .ok (.lload_n 2, 1) := by decide +kernel
theorem dX2_isCut_20 : decode cX2_isCut 20 = .ok (.iload_n 1, 1) := by decide +kernel
theorem dX2_isCut_21 : decode cX2_isCut 21 = .ok (.invokestatic 143, 3) := by decide +kernel
theorem dX2_isCut_24 : decode cX2_isCut 24 = .ok (.land, 1) := by decide +kernel
theorem dX2_isCut_25 : decode cX2_isCut 25 = .ok (.lconst 0, 1) := by decide +kernel
theorem dX2_isCut_26 : decode cX2_isCut 26 = .ok (.lcmp, 1) := by decide +kernel
theorem dX2_isCut_27 : decode cX2_isCut 27 = .ok (.ifCond .eq 7, 3) := by decide +kernel
theorem dX2_isCut_30 : decode cX2_isCut 30 = .ok (.iconst 1, 1) := by decide +kernel
theorem dX2_isCut_31 : decode cX2_isCut 31 = .ok (.goto 4, 3) := by decide +kernel
theorem dX2_isCut_34 : decode cX2_isCut 34 = .ok (.iconst 0, 1) := by decide +kernel
theorem dX2_isCut_35 : decode cX2_isCut 35 = .ok (.ireturn, 1) := by decide +kernel
theorem dX2_cutLine_0 : decode cX2_cutLine 0 = .ok (.iload_n 1, 1) := by decide +kernel
theorem dX2_cutLine_1 : decode cX2_cutLine 1 = .ok (.invokestatic 140, 3) := by decide +kernel
theorem dX2_cutLine_4 : decode cX2_cutLine 4 = .ok (.ifCond .eq 19, 3) := by decide +kernel
theorem dX2_cutLine_7 : decode cX2_cutLine 7 = .ok (.aload_n 0, 1) := by decide +kernel
theorem dX2_cutLine_8 : decode cX2_cutLine 8 = .ok (.dup, 1) := by decide +kernel
theorem dX2_cutLine_9 : decode cX2_cutLine 9 = .ok (.getfield 17, 3) := by decide +kernel
theorem dX2_cutLine_12 : decode cX2_cutLine 12 = .ok (.iload_n 1, 1) := by decide +kernel
theorem dX2_cutLine_13 : decode cX2_cutLine 13 = .ok (.invokestatic 143, 3) := by decide +kernel
theorem dX2_cutLine_16 : decode cX2_cutLine 16 = .ok (.lor, 1) := by decide +kernel
theorem dX2_cutLine_17 : decode cX2_cutLine 17 = .ok (.putfield 17, 3) := by decide +kernel
theorem dX2_cutLine_20 : decode cX2_cutLine 20 = .ok (.goto 16, 3) := by decide +kernel
theorem dX2_cutLine_23 : decode cX2_cutLine 23 = .ok (.aload_n 0, 1) := by decide +kernel
theorem dX2_cutLine_24 : decode cX2_cutLine 24 = .ok (.dup, 1) := by decide +kernel
theorem dX2_cutLine_25 : decode cX2_cutLine 25 = .ok (.getfield 20, 3) := by decide +kernel
theorem dX2_cutLine_28 : decode cX2_cutLine 28 = .ok (.iload_n 1, 1) := by decide +kernel
theorem dX2_cutLine_29 : decode cX2_cutLine 29 = .ok (.invokestatic 143, 3) := by decide +kernel
theorem dX2_cutLine_32 : decode cX2_cutLine 32 = .ok (.lor, 1) := by decide +kernel
theorem dX2_cutLine_33 : decode cX2_cutLine 33 = .ok (.putfield 20, 3) := by decide +kernel
theorem dX2_cutLine_36 : decode cX2_cutLine 36 = .ok (.return_, 1) := by decide +kernel
theorem dX2_partRink_0 : decode cX2_partRink 0 = .ok (.iload_n 2, 1) := by decide +kernel
theorem dX2_partRink_1 : decode cX2_partRink 1 = .ok (.invokestatic 146, 3) := by decide +kernel
theorem dX2_partRink_4 : decode cX2_partRink 4 = .ok (.lstore_n 3, 1) := by decide +kernel
theorem dX2_partRink_5 : decode cX2_partRink 5 = .ok (.iload_n 2, 1) := by decide +kernel
theorem dX2_partRink_6 : decode cX2_partRink 6 = .ok (.invokestatic 143, 3) := by decide +kernel
theorem dX2_partRink_9 : decode cX2_partRink 9 = .ok (.lstore 5, 2) := by decide +kernel
theorem dX2_partRink_11 : decode cX2_partRink 11 = .ok (.aload_n 0, 1) := by decide +kernel
theorem dX2_partRink_12 : decode cX2_partRink 12 = .ok (.lload_n 3, 1) := by decide +kernel
theorem dX2_partRink_13 : decode cX2_partRink 13 = .ok (.invokevirtual 149, 3) := by decide +kernel
theorem dX2_partRink_16 : decode cX2_partRink 16 = .ok (.lstore 7, 2) := by decide +kernel
theorem dX2_partRink_18 : decode cX2_partRink 18 = .ok (.lload 7, 2) := by decide +kernel
theorem dX2_partRink_20 : decode cX2_partRink 20 = .ok (.lload 5, 2) := by decide +kernel
theorem dX2_partRink_22 : decode cX2_partRink 22 = .ok (.land, 1) := by decide +kernel
theorem dX2_partRink_23 : decode cX2_partRink 23 = .ok (.lconst 0, 1) := by decide +kernel
theorem dX2_partRink_24 : decode cX2_partRink 24 = .ok (.lcmp, 1) := by decide +kernel
theorem dX2_partRink_25 : decode cX2_partRink 25 = .ok (.ifCond .ne 12, 3) := by decide +kernel
theorem dX2_partRink_28 : decode cX2_partRink 28 = .ok (.aload_n 0, 1) := by decide +kernel
theorem dX2_partRink_29 : decode cX2_partRink 29 = .ok (.lload_n 3, 1) := by decide +kernel
theorem dX2_partRink_30 : decode cX2_partRink 30 = .ok (.invokevirtual 153, 3) := by decide +kernel
theorem dX2_partRink_33 : decode cX2_partRink 33 = .ok (.iconst (-1), 1) := by decide +kernel
theorem dX2_partRink_34 : decode cX2_partRink 34 = .ok (.if_icmp .eq 4, 3) := by decide +kernel
theorem dX2_partRink_37 : decode cX2_partRink 37 = .ok (.return_, 1) := by decide +kernel
theorem dX2_partRink_38 : decode cX2_partRink 38 = .ok (.aload_n 0, 1) := by decide +kernel
theorem dX2_partRink_39 : decode cX2_partRink 39 = .ok (.lload 5, 2) := by decide +kernel
theorem dX2_partRink_41 : decode cX2_partRink 41 = .ok (.invokevirtual 149, 3) := by decide +kernel
theorem dX2_partRink_44 : decode cX2_partRink 44 = .ok (.lstore 9, 2) := by decide +kernel
theorem dX2_partRink_46 : decode cX2_partRink 46 = .ok (.lload 7, 2) := by decide +kernel
theorem dX2_partRink_48 : decode cX2_partRink 48 = .ok (.invokestatic 115, 3) := by decide +kernel
theorem dX2_partRink_51 : decode cX2_partRink 51 = .ok (.lload 9, 2) := by decide +kernel
theorem dX2_partRink_53 : decode cX2_partRink 53 = .ok (.invokestatic 115, 3) := by decide +kernel
theorem dX2_partRink_56 : decode cX2_partRink 56 = .ok (.isub, 1) := by decide +kernel
theorem dX2_partRink_57 : decode cX2_partRink 57 = .ok (.istore 11, 2) := by decide +kernel
theorem dX2_partRink_59 : decode cX2_partRink 59 = .ok (.iload 11, 2) := by decide +kernel
theorem dX2_partRink_61 : decode cX2_partRink 61 = .ok (.ifCond .lt 21, 3) := by decide +kernel
theorem dX2_partRink_64 : decode cX2_partRink 64 = .ok (.iload 11, 2) := by decide +kernel
theorem dX2_partRink_66 : decode cX2_partRink 66 = .ok (.ifCond .ne 20, 3) := by decide +kernel
theorem dX2_partRink_69 : decode cX2_partRink 69 = .ok (.lload 7, 2) := by decide +kernel
theorem dX2_partRink_71 : decode cX2_partRink 71 = .ok (.invokestatic 156, 3) := by decide +kernel
theorem dX2_partRink_74 : decode cX2_partRink 74 = .ok (.lload 9, 2) := by decide +kernel
theorem dX2_partRink_76 : decode cX2_partRink 76 = .ok (.invokestatic 156, 3) := by decide +kernel
theorem dX2_partRink_79 : decode cX2_partRink 79 = .ok (.if_icmp .ge 7, 3) := by decide +kernel
theorem dX2_partRink_82 : decode cX2_partRink 82 = .ok (.iconst 1, 1) := by decide +kernel
theorem dX2_partRink_83 : decode cX2_partRink 83 = .ok (.goto 4, 3) := by decide +kernel
theorem dX2_partRink_86 : decode cX2_partRink 86 = .ok (.iconst 0, 1) := by decide +kernel
theorem dX2_partRink_87 : decode cX2_partRink 87 = .ok (.istore 12, 2) := by decide +kernel
theorem dX2_partRink_89 : decode cX2_partRink 89 = .ok (.aload_n 1, 1) := by decide +kernel
theorem dX2_partRink_90 : decode cX2_partRink 90 = .ok (.dup, 1) := by decide +kernel
theorem dX2_partRink_91 : decode cX2_partRink 91 = .ok (.getfield 131, 3) := by decide +kernel
theorem dX2_partRink_94 : decode cX2_partRink 94 = .ok (.iload 12, 2) := by decide +kernel
theorem dX2_partRink_96 : decode cX2_partRink 96 = .ok (.ifCond .eq 8, 3) := by decide +kernel
theorem dX2_partRink_99 : decode cX2_partRink 99 = .ok (.lload 7, 2) := by decide +kernel
theorem dX2_partRink_101 : decode cX2_partRink 101 = .ok (.goto 5, 3) := by decide +kernel
theorem dX2_partRink_104 : decode cX2_partRink 104 = .ok (.lload 9, 2) := by decide +kernel
theorem dX2_partRink_106 : decode cX2_partRink 106 = .ok (.lor, 1) := by decide +kernel
theorem dX2_partRink_107 : decode cX2_partRink 107 = .ok (.putfield 131, 3) := by decide +kernel
theorem dX2_partRink_110 : decode cX2_partRink 110 = .ok (.return_, 1) := by decide +kernel
theorem dX2_isIce_0 : decode cX2_isIce 0 = .ok (.aload_n 0, 1) := by decide +kernel
theorem dX2_isIce_1 : decode cX2_isIce 1 = .ok (.getfield 11, 3) := by decide +kernel
theorem dX2_isIce_4 : decode cX2_isIce 4 = .ok (.lload_n 1, 1) := by decide +kernel
theorem dX2_isIce_5 : decode cX2_isIce 5 = .ok (.land, 1) := by decide +kernel
theorem dX2_isIce_6 : decode cX2_isIce 6 = .ok (.lconst 0, 1) := by decide +kernel
theorem dX2_isIce_7 : decode cX2_isIce 7 = .ok (.lcmp, 1) := by decide +kernel
theorem dX2_isIce_8 : decode cX2_isIce 8 = .ok (.ifCond .eq 7, 3) := by decide +kernel
theorem dX2_isIce_11 : decode cX2_isIce 11 = .ok (.iconst 1, 1) := by decide +kernel
theorem dX2_isIce_12 : decode cX2_isIce 12 = .ok (.goto 4, 3) := by decide +kernel
theorem dX2_isIce_15 : decode cX2_isIce 15 = .ok (.iconst 0, 1) := by decide +kernel
theorem dX2_isIce_16 : decode cX2_isIce 16 = .ok (.ireturn, 1) := by decide +kernel
theorem dX2_iceCells_0 : decode cX2_iceCells 0 = .ok (.aload_n 0, 1) := by decide +kernel
theorem dX2_iceCells_1 : decode cX2_iceCells 1 = .ok (.getfield 11, 3) := by decide +kernel
theorem dX2_iceCells_4 : decode cX2_iceCells 4 = .ok (.invokestatic 115, 3) := by decide +kernel
theorem dX2_iceCells_7 : decode cX2_iceCells 7 = .ok (.ireturn, 1) := by decide +kernel
theorem dX2_makeWater_0 : decode cX2_makeWater 0 = .ok (.aload_n 0, 1) := by decide +kernel
theorem dX2_makeWater_1 : decode cX2_makeWater 1 = .ok (.dup, 1) := by decide +kernel
theorem dX2_makeWater_2 : decode cX2_makeWater 2 = .ok (.getfield 11, 3) := by decide +kernel
theorem dX2_makeWater_5 : decode cX2_makeWater 5 = .ok (.lload_n 1, 1) := by decide +kernel
theorem dX2_makeWater_6 : decode cX2_makeWater 6 = .ok (.ldc2_w 9, 3) := by decide +kernel
theorem dX2_makeWater_9 : decode cX2_makeWater 9 = .ok (.lxor, 1) := by decide +kernel
theorem dX2_makeWater_10 : decode cX2_makeWater 10 = .ok (.land, 1) := by decide +kernel
theorem dX2_makeWater_11 : decode cX2_makeWater 11 = .ok (.putfield 11, 3) := by decide +kernel
theorem dX2_makeWater_14 : decode cX2_makeWater 14 = .ok (.iconst 0, 1) := by decide +kernel
theorem dX2_makeWater_15 : decode cX2_makeWater 15 = .ok (.istore_n 3, 1) := by decide +kernel
theorem dX2_makeWater_16 : decode cX2_makeWater 16 = .ok (.iload_n 3, 1) := by decide +kernel
theorem dX2_makeWater_17 : decode cX2_makeWater 17 = .ok (.iconst 3, 1) := by decide +kernel
theorem dX2_makeWater_18 : decode cX2_makeWater 18 = .ok (.if_icmp .ge 28, 3) := by decide +kernel
theorem dX2_makeWater_21 : decode cX2_makeWater 21 = .ok (.aload_n 0, 1) := by decide +kernel
theorem dX2_makeWater_22 : decode cX2_makeWater 22 = .ok (.getfield 35, 3) := by decide +kernel
theorem dX2_makeWater_25 : decode cX2_makeWater 25 = .ok (.iload_n 3, 1) := by decide +kernel
theorem dX2_makeWater_26 : decode cX2_makeWater 26 = .ok (.aaload, 1) := by decide +kernel
theorem dX2_makeWater_27 : decode cX2_makeWater 27 = .ok (.dup, 1) := by decide +kernel
theorem dX2_makeWater_28 : decode cX2_makeWater 28 = .ok (.getfield 131, 3) := by decide +kernel
theorem dX2_makeWater_31 : decode cX2_makeWater 31 = .ok (.lload_n 1, 1) := by decide +kernel
theorem dX2_makeWater_32 : decode cX2_makeWater 32 = .ok (.ldc2_w 9, 3) := by decide +kernel
theorem dX2_makeWater_35 : decode cX2_makeWater 35 = .ok (.lxor, 1) := by decide +kernel
theorem dX2_makeWater_36 : decode cX2_makeWater 36 = .ok (.land, 1) := by decide +kernel
theorem dX2_makeWater_37 : decode cX2_makeWater 37 = .ok (.putfield 131, 3) := by decide +kernel
theorem dX2_makeWater_40 : decode cX2_makeWater 40 = .ok (.iinc 3 1, 3) := by decide +kernel
theorem dX2_makeWater_43 : decode cX2_makeWater 43 = .ok (.goto (-27), 3) := by decide +kernel
theorem dX2_makeWater_46 : decode cX2_makeWater 46 = .ok (.aload_n 0, 1) := by decide +kernel
theorem dX2_makeWater_47 : decode cX2_makeWater 47 = .ok (.dup, 1) := by decide +kernel
theorem dX2_makeWater_48 : decode cX2_makeWater 48 = .ok (.getfield 46, 3) := by decide +kernel
theorem dX2_makeWater_51 : decode cX2_makeWater 51 = .ok (.lload_n 1, 1) := by decide +kernel
theorem dX2_makeWater_52 : decode cX2_makeWater 52 = .ok (.invokestatic 115, 3) := by decide +kernel
theorem dX2_makeWater_55 : decode cX2_makeWater 55 = .ok (.iadd, 1) := by decide +kernel
theorem dX2_makeWater_56 : decode cX2_makeWater 56 = .ok (.putfield 46, 3) := by decide +kernel
theorem dX2_makeWater_59 : decode cX2_makeWater 59 = .ok (.return_, 1) := by decide +kernel
theorem dX2_thawOnce_0 : decode cX2_thawOnce 0 = .ok (.aload_n 0, 1) := by decide +kernel
theorem dX2_thawOnce_1 : decode cX2_thawOnce 1 = .ok (.getfield 11, 3) := by decide +kernel
theorem dX2_thawOnce_4 : decode cX2_thawOnce 4 = .ok (.aload_n 0, 1) := by decide +kernel
theorem dX2_thawOnce_5 : decode cX2_thawOnce 5 = .ok (.getfield 27, 3) := by decide +kernel
theorem dX2_thawOnce_8 : decode cX2_thawOnce 8 = .ok (.iconst 2, 1) := by decide +kernel
theorem dX2_thawOnce_9 : decode cX2_thawOnce 9 = .ok (.iaload, 1) := by decide +kernel
theorem dX2_thawOnce_10 : decode cX2_thawOnce 10 = .ok (.invokestatic 159, 3) := by decide +kernel
theorem dX2_thawOnce_13 : decode cX2_thawOnce 13 = .ok (.lstore_n 1, 1) := by decide +kernel
theorem dX2_thawOnce_14 : decode cX2_thawOnce 14 = .ok (.aload_n 0, 1) := by decide +kernel
theorem dX2_thawOnce_15 : decode cX2_thawOnce 15 = .ok (.lload_n 1, 1) := by decide +kernel
theorem dX2_thawOnce_16 : decode cX2_thawOnce 16 = .ok (.invokevirtual 111, 3) := by decide +kernel
theorem dX2_thawOnce_19 : decode cX2_thawOnce 19 = .ok (.aload_n 0, 1) := by decide +kernel
theorem dX2_thawOnce_20 : decode cX2_thawOnce 20 = .ok (.dup, 1) := by decide +kernel
theorem dX2_thawOnce_21 : decode cX2_thawOnce 21 = .ok (.getfield 43, 3) := by decide +kernel
theorem dX2_thawOnce_24 : decode cX2_thawOnce 24 = .ok (.iconst 1, 1) := by decide +kernel
theorem dX2_thawOnce_25 : decode cX2_thawOnce 25 = .ok (.iadd, 1) := by decide +kernel
theorem dX2_thawOnce_26 : decode cX2_thawOnce 26 = .ok (.putfield 43, 3) := by decide +kernel
theorem dX2_thawOnce_29 : decode cX2_thawOnce 29 = .ok (.lload_n 1, 1) := by decide +kernel
theorem dX2_thawOnce_30 : decode cX2_thawOnce 30 = .ok (.invokestatic 115, 3) := by decide +kernel
theorem dX2_thawOnce_33 : decode cX2_thawOnce 33 = .ok (.ireturn, 1) := by decide +kernel
theorem dX2_thawsUntilCalm_0 : decode cX2_thawsUntilCalm 0 = .ok (.aload_n 0, 1) := by decide +kernel
theorem dX2_thawsUntilCalm_1 : decode cX2_thawsUntilCalm 1 = .ok (.getfield 11, 3) := by decide +kernel
theorem dX2_thawsUntilCalm_4 : decode cX2_thawsUntilCalm 4 = .ok (.lstore_n 1, 1) := by decide +kernel
theorem dX2_thawsUntilCalm_5 : decode cX2_thawsUntilCalm 5 = .ok (.iconst 0, 1) := by decide +kernel
theorem dX2_thawsUntilCalm_6 : decode cX2_thawsUntilCalm 6 = .ok (.istore_n 3, 1) := by decide +kernel
theorem dX2_thawsUntilCalm_7 : decode cX2_thawsUntilCalm 7 = .ok (.iload_n 3, 1) := by decide +kernel
theorem dX2_thawsUntilCalm_8 : decode cX2_thawsUntilCalm 8 = .ok (.bipush 64, 2) := by decide +kernel
theorem dX2_thawsUntilCalm_10 : decode cX2_thawsUntilCalm 10 = .ok (.if_icmp .ge 39, 3) := by decide +kernel
theorem dX2_thawsUntilCalm_13 : decode cX2_thawsUntilCalm 13 = .ok (.lload_n 1, 1) := by decide +kernel
theorem dX2_thawsUntilCalm_14 : decode cX2_thawsUntilCalm 14 = .ok (.aload_n 0, 1) := by decide +kernel
theorem dX2_thawsUntilCalm_15 : decode cX2_thawsUntilCalm 15 = .ok (.getfield 27, 3) := by decide +kernel
theorem dX2_thawsUntilCalm_18 : decode cX2_thawsUntilCalm 18 = .ok (.iconst 2, 1) := by decide +kernel
theorem dX2_thawsUntilCalm_19 : decode cX2_thawsUntilCalm 19 = .ok (.iaload, 1) := by decide +kernel
theorem dX2_thawsUntilCalm_20 : decode cX2_thawsUntilCalm 20 = .ok (.invokestatic 159, 3) := by decide +kernel
theorem dX2_thawsUntilCalm_23 : decode cX2_thawsUntilCalm 23 = .ok (.lstore 4, 2) := by decide +kernel
theorem dX2_thawsUntilCalm_25 : decode cX2_thawsUntilCalm 25 = .ok (.lload 4, 2) := by decide +kernel
theorem dX2_thawsUntilCalm_27 : decode cX2_thawsUntilCalm 27 = .ok (.lconst 0, 1) := by decide +kernel
theorem dX2_thawsUntilCalm_28 : decode cX2_thawsUntilCalm 28 = .ok (.lcmp, 1) := by decide +kernel
theorem dX2_thawsUntilCalm_29 : decode cX2_thawsUntilCalm 29 = .ok (.ifCond .ne 5, 3) := by decide +kernel
theorem dX2_thawsUntilCalm_32 : decode cX2_thawsUntilCalm 32 = .ok (.iload_n 3, 1) := by decide +kernel
theorem dX2_thawsUntilCalm_33 : decode cX2_thawsUntilCalm 33 = .ok (.ireturn, 1) := by decide +kernel
theorem dX2_thawsUntilCalm_34 : decode cX2_thawsUntilCalm 34 = .ok (.lload_n 1, 1) := by decide +kernel
theorem dX2_thawsUntilCalm_35 : decode cX2_thawsUntilCalm 35 = .ok (.lload 4, 2) := by decide +kernel
theorem dX2_thawsUntilCalm_37 : decode cX2_thawsUntilCalm 37 = .ok (.ldc2_w 9, 3) := by decide +kernel
theorem dX2_thawsUntilCalm_40 : decode cX2_thawsUntilCalm 40 = .ok (.lxor, 1) := by decide +kernel
theorem dX2_thawsUntilCalm_41 : decode cX2_thawsUntilCalm 41 = .ok (.land, 1) := by decide +kernel
theorem dX2_thawsUntilCalm_42 : decode cX2_thawsUntilCalm 42 = .ok (.lstore_n 1, 1) := by decide +kernel
theorem dX2_thawsUntilCalm_43 : decode cX2_thawsUntilCalm 43 = .ok (.iinc 3 1, 3) := by decide +kernel
theorem dX2_thawsUntilCalm_46 : decode cX2_thawsUntilCalm 46 = .ok (.goto (-39), 3) := by decide +kernel
theorem dX2_thawsUntilCalm_49 : decode cX2_thawsUntilCalm 49 = .ok (.bipush 64, 2) := by decide +kernel
theorem dX2_thawsUntilCalm_51 : decode cX2_thawsUntilCalm 51 = .ok (.ireturn, 1) := by decide +kernel
theorem dX2_thawsUntilWater_0 : decode cX2_thawsUntilWater 0 = .ok (.aload_n 0, 1) := by decide +kernel
theorem dX2_thawsUntilWater_1 : decode cX2_thawsUntilWater 1 = .ok (.getfield 11, 3) := by decide +kernel
theorem dX2_thawsUntilWater_4 : decode cX2_thawsUntilWater 4 = .ok (.lstore_n 3, 1) := by decide +kernel
theorem dX2_thawsUntilWater_5 : decode cX2_thawsUntilWater 5 = .ok (.iconst 0, 1) := by decide +kernel
theorem dX2_thawsUntilWater_6 : decode cX2_thawsUntilWater 6 = .ok (.istore 5, 2) := by decide +kernel
theorem dX2_thawsUntilWater_8 : decode cX2_thawsUntilWater 8 = .ok (.iload 5, 2) := by decide +kernel
theorem dX2_thawsUntilWater_10 : decode cX2_thawsUntilWater 10 = .ok (.bipush 64, 2) := by decide +kernel
theorem dX2_thawsUntilWater_12 : decode cX2_thawsUntilWater 12 = .ok (.if_icmp .gt 50, 3) := by decide +kernel
theorem dX2_thawsUntilWater_15 : decode cX2_thawsUntilWater 15 = .ok (.lload_n 3, 1) := by decide +kernel
theorem dX2_thawsUntilWater_16 : decode cX2_thawsUntilWater 16 = .ok (.lload_n 1, 1) := by decide +kernel
theorem dX2_thawsUntilWater_17 : decode cX2_thawsUntilWater 17 = .ok (.land, 1) := by decide +kernel
theorem dX2_thawsUntilWater_18 : decode cX2_thawsUntilWater 18 = .ok (.lconst 0, 1) := by decide +kernel
theorem dX2_thawsUntilWater_19 : decode cX2_thawsUntilWater 19 = .ok (.lcmp, 1) := by decide +kernel
theorem dX2_thawsUntilWater_20 : decode cX2_thawsUntilWater 20 = .ok (.ifCond .ne 6, 3) := by decide +kernel
theorem dX2_thawsUntilWater_23 : decode cX2_thawsUntilWater 23 = .ok (.iload 5, 2) := by decide +kernel
theorem dX2_thawsUntilWater_25 : decode cX2_thawsUntilWater 25 = .ok (.ireturn, 1) := by decide +kernel
theorem dX2_thawsUntilWater_26 : decode cX2_thawsUntilWater 26 = .ok (.lload_n 3, 1) := by decide +kernel
theorem dX2_thawsUntilWater_27 : decode cX2_thawsUntilWater 27 = .ok (.aload_n 0, 1) := by decide +kernel
theorem dX2_thawsUntilWater_28 : decode cX2_thawsUntilWater 28 = .ok (.getfield 27, 3) := by decide +kernel
theorem dX2_thawsUntilWater_31 : decode cX2_thawsUntilWater 31 = .ok (.iconst 2, 1) := by decide +kernel
theorem dX2_thawsUntilWater_32 : decode cX2_thawsUntilWater 32 = .ok (.iaload, 1) := by decide +kernel
theorem dX2_thawsUntilWater_33 : decode cX2_thawsUntilWater 33 = .ok (.invokestatic 159, 3) := by decide +kernel
theorem dX2_thawsUntilWater_36 : decode cX2_thawsUntilWater 36 = .ok (.lstore 6, 2) := by decide +kernel
theorem dX2_thawsUntilWater_38 : decode cX2_thawsUntilWater 38 = .ok (.lload 6, 2) := by decide +kernel
theorem dX2_thawsUntilWater_40 : decode cX2_thawsUntilWater 40 = .ok (.lconst 0, 1) := by decide +kernel
theorem dX2_thawsUntilWater_41 : decode cX2_thawsUntilWater 41 = .ok (.lcmp, 1) := by decide +kernel
theorem dX2_thawsUntilWater_42 : decode cX2_thawsUntilWater 42 = .ok (.ifCond .ne 5, 3) := by decide +kernel
theorem dX2_thawsUntilWater_45 : decode cX2_thawsUntilWater 45 = .ok (.iconst (-1), 1) := by decide +kernel
theorem dX2_thawsUntilWater_46 : decode cX2_thawsUntilWater 46 = .ok (.ireturn, 1) := by decide +kernel
theorem dX2_thawsUntilWater_47 : decode cX2_thawsUntilWater 47 = .ok (.lload_n 3, 1) := by decide +kernel
theorem dX2_thawsUntilWater_48 : decode cX2_thawsUntilWater 48 = .ok (.lload 6, 2) := by decide +kernel
theorem dX2_thawsUntilWater_50 : decode cX2_thawsUntilWater 50 = .ok (.ldc2_w 9, 3) := by decide +kernel
theorem dX2_thawsUntilWater_53 : decode cX2_thawsUntilWater 53 = .ok (.lxor, 1) := by decide +kernel
theorem dX2_thawsUntilWater_54 : decode cX2_thawsUntilWater 54 = .ok (.land, 1) := by decide +kernel
theorem dX2_thawsUntilWater_55 : decode cX2_thawsUntilWater 55 = .ok (.lstore_n 3, 1) := by decide +kernel
theorem dX2_thawsUntilWater_56 : decode cX2_thawsUntilWater 56 = .ok (.iinc 5 1, 3) := by decide +kernel
theorem dX2_thawsUntilWater_59 : decode cX2_thawsUntilWater 59 = .ok (.goto (-51), 3) := by decide +kernel
theorem dX2_thawsUntilWater_62 : decode cX2_thawsUntilWater 62 = .ok (.iconst (-1), 1) := by decide +kernel
theorem dX2_thawsUntilWater_63 : decode cX2_thawsUntilWater 63 = .ok (.ireturn, 1) := by decide +kernel
theorem dX2_rinkOf_0 : decode cX2_rinkOf 0 = .ok (.aload_n 0, 1) := by decide +kernel
theorem dX2_rinkOf_1 : decode cX2_rinkOf 1 = .ok (.getfield 11, 3) := by decide +kernel
theorem dX2_rinkOf_4 : decode cX2_rinkOf 4 = .ok (.aload_n 0, 1) := by decide +kernel
theorem dX2_rinkOf_5 : decode cX2_rinkOf 5 = .ok (.getfield 11, 3) := by decide +kernel
theorem dX2_rinkOf_8 : decode cX2_rinkOf 8 = .ok (.invokestatic 163, 3) := by decide +kernel
theorem dX2_rinkOf_11 : decode cX2_rinkOf 11 = .ok (.land, 1) := by decide +kernel
theorem dX2_rinkOf_12 : decode cX2_rinkOf 12 = .ok (.aload_n 0, 1) := by decide +kernel
theorem dX2_rinkOf_13 : decode cX2_rinkOf 13 = .ok (.getfield 17, 3) := by decide +kernel
theorem dX2_rinkOf_16 : decode cX2_rinkOf 16 = .ok (.ldc2_w 9, 3) := by decide +kernel
theorem dX2_rinkOf_19 : decode cX2_rinkOf 19 = .ok (.lxor, 1) := by decide +kernel
theorem dX2_rinkOf_20 : decode cX2_rinkOf 20 = .ok (.land, 1) := by decide +kernel
theorem dX2_rinkOf_21 : decode cX2_rinkOf 21 = .ok (.lstore_n 3, 1) := by decide +kernel
theorem dX2_rinkOf_22 : decode cX2_rinkOf 22 = .ok (.aload_n 0, 1) := by decide +kernel
theorem dX2_rinkOf_23 : decode cX2_rinkOf 23 = .ok (.getfield 11, 3) := by decide +kernel
theorem dX2_rinkOf_26 : decode cX2_rinkOf 26 = .ok (.aload_n 0, 1) := by decide +kernel
theorem dX2_rinkOf_27 : decode cX2_rinkOf 27 = .ok (.getfield 11, 3) := by decide +kernel
theorem dX2_rinkOf_30 : decode cX2_rinkOf 30 = .ok (.invokestatic 166, 3) := by decide +kernel
theorem dX2_rinkOf_33 : decode cX2_rinkOf 33 = .ok (.land, 1) := by decide +kernel
theorem dX2_rinkOf_34 : decode cX2_rinkOf 34 = .ok (.aload_n 0, 1) := by decide +kernel
theorem dX2_rinkOf_35 : decode cX2_rinkOf 35 = .ok (.getfield 20, 3) := by decide +kernel
theorem dX2_rinkOf_38 : decode cX2_rinkOf 38 = .ok (.ldc2_w 9, 3) := by decide +kernel
theorem dX2_rinkOf_41 : decode cX2_rinkOf 41 = .ok (.lxor, 1) := by decide +kernel
theorem dX2_rinkOf_42 : decode cX2_rinkOf 42 = .ok (.land, 1) := by decide +kernel
theorem dX2_rinkOf_43 : decode cX2_rinkOf 43 = .ok (.lstore 5, 2) := by decide +kernel
theorem dX2_rinkOf_45 : decode cX2_rinkOf 45 = .ok (.lload_n 1, 1) := by decide +kernel
theorem dX2_rinkOf_46 : decode cX2_rinkOf 46 = .ok (.aload_n 0, 1) := by decide +kernel
theorem dX2_rinkOf_47 : decode cX2_rinkOf 47 = .ok (.getfield 11, 3) := by decide +kernel
theorem dX2_rinkOf_50 : decode cX2_rinkOf 50 = .ok (.land, 1) := by decide +kernel
theorem dX2_rinkOf_51 : decode cX2_rinkOf 51 = .ok (.lstore 7, 2) := by decide +kernel
theorem dX2_rinkOf_53 : decode cX2_rinkOf 53 = .ok (.iconst 0, 1) := by decide +kernel
theorem dX2_rinkOf_54 : decode cX2_rinkOf 54 = .ok (.istore 9, 2) := by decide +kernel
theorem dX2_rinkOf_56 : decode cX2_rinkOf 56 = .ok (.iload 9, 2) := by decide +kernel
theorem dX2_rinkOf_58 : decode cX2_rinkOf 58 = .ok (.bipush 64, 2) := by decide +kernel
theorem dX2_rinkOf_60 : decode cX2_rinkOf 60 = .ok (.if_icmp .ge 62, 3) := by decide +kernel
theorem dX2_rinkOf_63 : decode cX2_rinkOf 63 = .ok (.lload 7, 2) := by decide +kernel
theorem dX2_rinkOf_65 : decode cX2_rinkOf 65 = .ok (.lload 7, 2) := by decide +kernel
theorem dX2_rinkOf_67 : decode cX2_rinkOf 67 = .ok (.lload_n 3, 1) := by decide +kernel
theorem dX2_rinkOf_68 : decode cX2_rinkOf 68 = .ok (.land, 1) := by decide +kernel
theorem dX2_rinkOf_69 : decode cX2_rinkOf 69 = .ok (.invokestatic 169, 3) := by decide +kernel
theorem dX2_rinkOf_72 : decode cX2_rinkOf 72 = .ok (.lor, 1) := by decide +kernel
theorem dX2_rinkOf_73 : decode cX2_rinkOf 73 = .ok (.lload 7, 2) := by decide +kernel
theorem dX2_rinkOf_75 : decode cX2_rinkOf 75 = .ok (.invokestatic 163, 3) := by decide +kernel
theorem dX2_rinkOf_78 : decode cX2_rinkOf 78 = .ok (.lload_n 3, 1) := by decide +kernel
theorem dX2_rinkOf_79 : decode cX2_rinkOf 79 = .ok (.land, 1) := by decide +kernel
theorem dX2_rinkOf_80 : decode cX2_rinkOf 80 = .ok (.lor, 1) := by decide +kernel
theorem dX2_rinkOf_81 : decode cX2_rinkOf 81 = .ok (.lload 7, 2) := by decide +kernel
theorem dX2_rinkOf_83 : decode cX2_rinkOf 83 = .ok (.lload 5, 2) := by decide +kernel
theorem dX2_rinkOf_85 : decode cX2_rinkOf 85 = .ok (.land, 1) := by decide +kernel
theorem dX2_rinkOf_86 : decode cX2_rinkOf 86 = .ok (.invokestatic 172, 3) := by decide +kernel
theorem dX2_rinkOf_89 : decode cX2_rinkOf 89 = .ok (.lor, 1) := by decide +kernel
theorem dX2_rinkOf_90 : decode cX2_rinkOf 90 = .ok (.lload 7, 2) := by decide +kernel
theorem dX2_rinkOf_92 : decode cX2_rinkOf 92 = .ok (.invokestatic 166, 3) := by decide +kernel
theorem dX2_rinkOf_95 : decode cX2_rinkOf 95 = .ok (.lload 5, 2) := by decide +kernel
theorem dX2_rinkOf_97 : decode cX2_rinkOf 97 = .ok (.land, 1) := by decide +kernel
theorem dX2_rinkOf_98 : decode cX2_rinkOf 98 = .ok (.lor, 1) := by decide +kernel
theorem dX2_rinkOf_99 : decode cX2_rinkOf 99 = .ok (.lstore 10, 2) := by decide +kernel
theorem dX2_rinkOf_101 : decode cX2_rinkOf 101 = .ok (.lload 10, 2) := by decide +kernel
theorem dX2_rinkOf_103 : decode cX2_rinkOf 103 = .ok (.lload 7, 2) := by decide +kernel
theorem dX2_rinkOf_105 : decode cX2_rinkOf 105 = .ok (.lcmp, 1) := by decide +kernel
theorem dX2_rinkOf_106 : decode cX2_rinkOf 106 = .ok (.ifCond .ne 6, 3) := by decide +kernel
theorem dX2_rinkOf_109 : decode cX2_rinkOf 109 = .ok (.lload 7, 2) := by decide +kernel
theorem dX2_rinkOf_111 : decode cX2_rinkOf 111 = .ok (.lreturn, 1) := by decide +kernel
theorem dX2_rinkOf_112 : decode cX2_rinkOf 112 = .ok (.lload 10, 2) := by decide +kernel
theorem dX2_rinkOf_114 : decode cX2_rinkOf 114 = .ok (.lstore 7, 2) := by decide +kernel
theorem dX2_rinkOf_116 : decode cX2_rinkOf 116 = .ok (.iinc 9 1, 3) := by decide +kernel
theorem dX2_rinkOf_119 : decode cX2_rinkOf 119 = .ok (.goto (-63), 3) := by decide +kernel
theorem dX2_rinkOf_122 : decode cX2_rinkOf 122 = .ok (.lload 7, 2) := by decide +kernel
theorem dX2_rinkOf_124 : decode cX2_rinkOf 124 = .ok (.lreturn, 1) := by decide +kernel
theorem dX2_rinkWithRank_0 : decode cX2_rinkWithRank 0 = .ok (.aload_n 0, 1) := by decide +kernel
theorem dX2_rinkWithRank_1 : decode cX2_rinkWithRank 1 = .ok (.getfield 11, 3) := by decide +kernel
theorem dX2_rinkWithRank_4 : decode cX2_rinkWithRank 4 = .ok (.lstore_n 2, 1) := by decide +kernel
theorem dX2_rinkWithRank_5 : decode cX2_rinkWithRank 5 = .ok (.iconst 0, 1) := by decide +kernel
theorem dX2_rinkWithRank_6 : decode cX2_rinkWithRank 6 = .ok (.istore 4, 2) := by decide +kernel
theorem dX2_rinkWithRank_8 : decode cX2_rinkWithRank 8 = .ok (.iload 4, 2) := by decide +kernel
theorem dX2_rinkWithRank_10 : decode cX2_rinkWithRank 10 = .ok (.bipush 64, 2) := by decide +kernel
theorem dX2_rinkWithRank_12 : decode cX2_rinkWithRank 12 = .ok (.if_icmp .ge 43, 3) := by decide +kernel
theorem dX2_rinkWithRank_15 : decode cX2_rinkWithRank 15 = .ok (.lload_n 2, 1) := by decide +kernel
theorem dX2_rinkWithRank_16 : decode cX2_rinkWithRank 16 = .ok (.lconst 0, 1) := by decide +kernel
theorem dX2_rinkWithRank_17 : decode cX2_rinkWithRank 17 = .ok (.lcmp, 1) := by decide +kernel
theorem dX2_rinkWithRank_18 : decode cX2_rinkWithRank 18 = .ok (.ifCond .eq 37, 3) := by decide +kernel
theorem dX2_rinkWithRank_21 : decode cX2_rinkWithRank 21 = .ok (.aload_n 0, 1) := by decide +kernel
theorem dX2_rinkWithRank_22 : decode cX2_rinkWithRank 22 = .ok (.lload_n 2, 1) := by decide +kernel
theorem dX2_rinkWithRank_23 : decode cX2_rinkWithRank 23 = .ok (.invokestatic 175, 3) := by decide +kernel
theorem dX2_rinkWithRank_26 : decode cX2_rinkWithRank 26 = .ok (.invokevirtual 149, 3) := by decide +kernel
theorem dX2_rinkWithRank_29 : decode cX2_rinkWithRank 29 = .ok (.lstore 5, 2) := by decide +kernel
theorem dX2_rinkWithRank_31 : decode cX2_rinkWithRank 31 = .ok (.iload 4, 2) := by decide +kernel
theorem dX2_rinkWithRank_33 : decode cX2_rinkWithRank 33 = .ok (.iload_n 1, 1) := by decide +kernel
theorem dX2_rinkWithRank_34 : decode cX2_rinkWithRank 34 = .ok (.if_icmp .ne 6, 3) := by decide +kernel
theorem dX2_rinkWithRank_37 : decode cX2_rinkWithRank 37 = .ok (.lload 5, 2) := by decide +kernel
theorem dX2_rinkWithRank_39 : decode cX2_rinkWithRank 39 = .ok (.lreturn, 1) := by decide +kernel
theorem dX2_rinkWithRank_40 : decode cX2_rinkWithRank 40 = .ok (.lload_n 2, 1) := by decide +kernel
theorem dX2_rinkWithRank_41 : decode cX2_rinkWithRank 41 = .ok (.lload 5, 2) := by decide +kernel
theorem dX2_rinkWithRank_43 : decode cX2_rinkWithRank 43 = .ok (.ldc2_w 9, 3) := by decide +kernel
theorem dX2_rinkWithRank_46 : decode cX2_rinkWithRank 46 = .ok (.lxor, 1) := by decide +kernel
theorem dX2_rinkWithRank_47 : decode cX2_rinkWithRank 47 = .ok (.land, 1) := by decide +kernel
theorem dX2_rinkWithRank_48 : decode cX2_rinkWithRank 48 = .ok (.lstore_n 2, 1) := by decide +kernel
theorem dX2_rinkWithRank_49 : decode cX2_rinkWithRank 49 = .ok (.iinc 4 1, 3) := by decide +kernel
theorem dX2_rinkWithRank_52 : decode cX2_rinkWithRank 52 = .ok (.goto (-44), 3) := by decide +kernel
theorem dX2_rinkWithRank_55 : decode cX2_rinkWithRank 55 = .ok (.lconst 0, 1) := by decide +kernel
theorem dX2_rinkWithRank_56 : decode cX2_rinkWithRank 56 = .ok (.lreturn, 1) := by decide +kernel
theorem dX2_rinksByGoing_0 : decode cX2_rinksByGoing 0 = .ok (.aload_n 0, 1) := by decide +kernel
theorem dX2_rinksByGoing_1 : decode cX2_rinksByGoing 1 = .ok (.aload_n 0, 1) := by decide +kernel
theorem dX2_rinksByGoing_2 : decode cX2_rinksByGoing 2 = .ok (.getfield 11, 3) := by decide +kernel
theorem dX2_rinksByGoing_5 : decode cX2_rinksByGoing 5 = .ok (.invokevirtual 178, 3) := by decide +kernel
theorem dX2_rinksByGoing_8 : decode cX2_rinksByGoing 8 = .ok (.ireturn, 1) := by decide +kernel
theorem dX2_rinksOwned_0 : decode cX2_rinksOwned 0 = .ok (.aload_n 0, 1) := by decide +kernel
theorem dX2_rinksOwned_1 : decode cX2_rinksOwned 1 = .ok (.aload_n 0, 1) := by decide +kernel
theorem dX2_rinksOwned_2 : decode cX2_rinksOwned 2 = .ok (.invokevirtual 181, 3) := by decide +kernel
theorem dX2_rinksOwned_5 : decode cX2_rinksOwned 5 = .ok (.invokevirtual 178, 3) := by decide +kernel
theorem dX2_rinksOwned_8 : decode cX2_rinksOwned 8 = .ok (.ireturn, 1) := by decide +kernel
theorem dX2_rinksOwnedBy_0 : decode cX2_rinksOwnedBy 0 = .ok (.aload_n 0, 1) := by decide +kernel
theorem dX2_rinksOwnedBy_1 : decode cX2_rinksOwnedBy 1 = .ok (.aload_n 0, 1) := by decide +kernel
theorem dX2_rinksOwnedBy_2 : decode cX2_rinksOwnedBy 2 = .ok (.getfield 35, 3) := by decide +kernel
theorem dX2_rinksOwnedBy_5 : decode cX2_rinksOwnedBy 5 = .ok (.iload_n 1, 1) := by decide +kernel
theorem dX2_rinksOwnedBy_6 : decode cX2_rinksOwnedBy 6 = .ok (.aaload, 1) := by decide +kernel
theorem dX2_rinksOwnedBy_7 : decode cX2_rinksOwnedBy 7 = .ok (.getfield 131, 3) := by decide +kernel
theorem dX2_rinksOwnedBy_10 : decode cX2_rinksOwnedBy 10 = .ok (.invokevirtual 178, 3) := by decide +kernel
theorem dX2_rinksOwnedBy_13 : decode cX2_rinksOwnedBy 13 = .ok (.ireturn, 1) := by decide +kernel
theorem dX2_rinksWithin_0 : decode cX2_rinksWithin 0 = .ok (.iconst 0, 1) := by decide +kernel
theorem dX2_rinksWithin_1 : decode cX2_rinksWithin 1 = .ok (.istore_n 3, 1) := by decide +kernel
theorem dX2_rinksWithin_2 : decode cX2_rinksWithin 2 = .ok (.lload_n 1, 1) := by decide +kernel
theorem dX2_rinksWithin_3 : decode cX2_rinksWithin 3 = .ok (.lstore 4, 2) := by decide +kernel
theorem dX2_rinksWithin_5 : decode cX2_rinksWithin 5 = .ok (.iconst 0, 1) := by decide +kernel
theorem dX2_rinksWithin_6 : decode cX2_rinksWithin 6 = .ok (.istore 6, 2) := by decide +kernel
theorem dX2_rinksWithin_8 : decode cX2_rinksWithin 8 = .ok (.iload 6, 2) := by decide +kernel
theorem dX2_rinksWithin_10 : decode cX2_rinksWithin 10 = .ok (.bipush 64, 2) := by decide +kernel
theorem dX2_rinksWithin_12 : decode cX2_rinksWithin 12 = .ok (.if_icmp .ge 37, 3) := by decide +kernel
theorem dX2_rinksWithin_15 : decode cX2_rinksWithin 15 = .ok (.lload 4, 2) := by decide +kernel
theorem dX2_rinksWithin_17 : decode cX2_rinksWithin 17 = .ok (.lconst 0, 1) := by decide +kernel
theorem dX2_rinksWithin_18 : decode cX2_rinksWithin 18 = .ok (.lcmp, 1) := by decide +kernel
theorem dX2_rinksWithin_19 : decode cX2_rinksWithin 19 = .ok (.ifCond .eq 30, 3) := by decide +kernel
theorem dX2_rinksWithin_22 : decode cX2_rinksWithin 22 = .ok (.lload 4, 2) := by decide +kernel
theorem dX2_rinksWithin_24 : decode cX2_rinksWithin 24 = .ok (.aload_n 0, 1) := by decide +kernel
theorem dX2_rinksWithin_25 : decode cX2_rinksWithin 25 = .ok (.lload 4, 2) := by decide +kernel
theorem dX2_rinksWithin_27 : decode cX2_rinksWithin 27 = .ok (.invokestatic 175, 3) := by decide +kernel
theorem dX2_rinksWithin_30 : decode cX2_rinksWithin 30 = .ok (.invokevirtual 149, 3) := by decide +kernel
theorem dX2_rinksWithin_33 : decode cX2_rinksWithin 33 = .ok (.ldc2_w 9, 3) := by decide +kernel
theorem dX2_rinksWithin_36 : decode cX2_rinksWithin 36 = .ok (.lxor, 1) := by decide +kernel
theorem dX2_rinksWithin_37 : decode cX2_rinksWithin 37 = .ok (.land, 1) := by decide +kernel
theorem dX2_rinksWithin_38 : decode cX2_rinksWithin 38 = .ok (.lstore 4, 2) := by decide +kernel
theorem dX2_rinksWithin_40 : decode cX2_rinksWithin 40 = .ok (.iinc 3 1, 3) := by decide +kernel
theorem dX2_rinksWithin_43 : decode cX2_rinksWithin 43 = .ok (.iinc 6 1, 3) := by decide +kernel
theorem dX2_rinksWithin_46 : decode cX2_rinksWithin 46 = .ok (.goto (-38), 3) := by decide +kernel
theorem dX2_rinksWithin_49 : decode cX2_rinksWithin 49 = .ok (.iload_n 3, 1) := by decide +kernel
theorem dX2_rinksWithin_50 : decode cX2_rinksWithin 50 = .ok (.ireturn, 1) := by decide +kernel
theorem dX2_cellsOfRinks_0 : decode cX2_cellsOfRinks 0 = .ok (.iconst 0, 1) := by decide +kernel
theorem dX2_cellsOfRinks_1 : decode cX2_cellsOfRinks 1 = .ok (.istore_n 2, 1) := by decide +kernel
theorem dX2_cellsOfRinks_2 : decode cX2_cellsOfRinks 2 = .ok (.aload_n 0, 1) := by decide +kernel
theorem dX2_cellsOfRinks_3 : decode cX2_cellsOfRinks 3 = .ok (.getfield 11, 3) := by decide +kernel
theorem dX2_cellsOfRinks_6 : decode cX2_cellsOfRinks 6 = .ok (.lstore_n 3, 1) := by decide +kernel
theorem dX2_cellsOfRinks_7 : decode cX2_cellsOfRinks 7 = .ok (.iconst 0, 1) := by decide +kernel
theorem dX2_cellsOfRinks_8 : decode cX2_cellsOfRinks 8 = .ok (.istore 5, 2) := by decide +kernel
theorem dX2_cellsOfRinks_10 : decode cX2_cellsOfRinks 10 = .ok (.iload 5, 2) := by decide +kernel
theorem dX2_cellsOfRinks_12 : decode cX2_cellsOfRinks 12 = .ok (.bipush 64, 2) := by decide +kernel
theorem dX2_cellsOfRinks_14 : decode cX2_cellsOfRinks 14 = .ok (.if_icmp .ge 56, 3) := by decide +kernel
theorem dX2_cellsOfRinks_17 : decode cX2_cellsOfRinks 17 = .ok (.lload_n 3, 1) := by decide +kernel
theorem dX2_cellsOfRinks_18 : decode cX2_cellsOfRinks 18 = .ok (.lconst 0, 1) := by decide +kernel
theorem dX2_cellsOfRinks_19 : decode cX2_cellsOfRinks 19 = .ok (.lcmp, 1) := by decide +kernel
theorem dX2_cellsOfRinks_20 : decode cX2_cellsOfRinks 20 = .ok (.ifCond .eq 50, 3) := by decide +kernel
theorem dX2_cellsOfRinks_23 : decode cX2_cellsOfRinks 23 = .ok (.lload_n 3, 1) := by decide +kernel
theorem dX2_cellsOfRinks_24 : decode cX2_cellsOfRinks 24 = .ok (.invokestatic 175, 3) := by decide +kernel
theorem dX2_cellsOfRinks_27 : decode cX2_cellsOfRinks 27 = .ok (.lstore 6, 2) := by decide +kernel
theorem dX2_cellsOfRinks_29 : decode cX2_cellsOfRinks 29 = .ok (.aload_n 0, 1) := by decide +kernel
theorem dX2_cellsOfRinks_30 : decode cX2_cellsOfRinks 30 = .ok (.lload 6, 2) := by decide +kernel
theorem dX2_cellsOfRinks_32 : decode cX2_cellsOfRinks 32 = .ok (.invokevirtual 149, 3) := by decide +kernel
theorem dX2_cellsOfRinks_35 : decode cX2_cellsOfRinks 35 = .ok (.lstore 8, 2) := by decide +kernel
theorem dX2_cellsOfRinks_37 : decode cX2_cellsOfRinks 37 = .ok (.aload_n 0, 1) := by decide +kernel
theorem dX2_cellsOfRinks_38 : decode cX2_cellsOfRinks 38 = .ok (.lload 6, 2) := by decide +kernel
theorem dX2_cellsOfRinks_40 : decode cX2_cellsOfRinks 40 = .ok (.invokevirtual 153, 3) := by decide +kernel
theorem dX2_cellsOfRinks_43 : decode cX2_cellsOfRinks 43 = .ok (.iload_n 1, 1) := by decide +kernel
theorem dX2_cellsOfRinks_44 : decode cX2_cellsOfRinks 44 = .ok (.if_icmp .ne 11, 3) := by decide +kernel
theorem dX2_cellsOfRinks_47 : decode cX2_cellsOfRinks 47 = .ok (.iload_n 2, 1) := by decide +kernel
theorem dX2_cellsOfRinks_48 : decode cX2_cellsOfRinks 48 = .ok (.lload 8, 2) := by decide +kernel
theorem dX2_cellsOfRinks_50 : decode cX2_cellsOfRinks 50 = .ok (.invokestatic 115, 3) := by decide +kernel
theorem dX2_cellsOfRinks_53 : decode cX2_cellsOfRinks 53 = .ok (.iadd, 1) := by decide +kernel
theorem dX2_cellsOfRinks_54 : decode cX2_cellsOfRinks 54 = .ok (.istore_n 2, 1) := by decide +kernel
theorem dX2_cellsOfRinks_55 : decode cX2_cellsOfRinks 55 = .ok (.lload_n 3, 1) := by decide +kernel
theorem dX2_cellsOfRinks_56 : decode cX2_cellsOfRinks 56 = .ok (.lload 8, 2) := by decide +kernel
theorem dX2_cellsOfRinks_58 : decode cX2_cellsOfRinks 58 = .ok (.ldc2_w 9, 3) := by decide +kernel
theorem dX2_cellsOfRinks_61 : decode cX2_cellsOfRinks 61 = .ok (.lxor, 1) := by decide +kernel
theorem dX2_cellsOfRinks_62 : decode cX2_cellsOfRinks 62 = .ok (.land, 1) := by decide +kernel
theorem dX2_cellsOfRinks_63 : decode cX2_cellsOfRinks 63 = .ok (.lstore_n 3, 1) := by decide +kernel
theorem dX2_cellsOfRinks_64 : decode cX2_cellsOfRinks 64 = .ok (.iinc 5 1, 3) := by decide +kernel
theorem dX2_cellsOfRinks_67 : decode cX2_cellsOfRinks 67 = .ok (.goto (-57), 3) := by decide +kernel
theorem dX2_cellsOfRinks_70 : decode cX2_cellsOfRinks 70 = .ok (.iload_n 2, 1) := by decide +kernel
theorem dX2_cellsOfRinks_71 : decode cX2_cellsOfRinks 71 = .ok (.ireturn, 1) := by decide +kernel
theorem dX2_greatestRink_0 : decode cX2_greatestRink 0 = .ok (.iconst 0, 1) := by decide +kernel
theorem dX2_greatestRink_1 : decode cX2_greatestRink 1 = .ok (.istore_n 1, 1) := by decide +kernel
theorem dX2_greatestRink_2 : decode cX2_greatestRink 2 = .ok (.aload_n 0, 1) := by decide +kernel
theorem dX2_greatestRink_3 : decode cX2_greatestRink 3 = .ok (.getfield 11, 3) := by decide +kernel
theorem dX2_greatestRink_6 : decode cX2_greatestRink 6 = .ok (.lstore_n 2, 1) := by decide +kernel
theorem dX2_greatestRink_7 : decode cX2_greatestRink 7 = .ok (.iconst 0, 1) := by decide +kernel
theorem dX2_greatestRink_8 : decode cX2_greatestRink 8 = .ok (.istore 4, 2) := by decide +kernel
theorem dX2_greatestRink_10 : decode cX2_greatestRink 10 = .ok (.iload 4, 2) := by decide +kernel
theorem dX2_greatestRink_12 : decode cX2_greatestRink 12 = .ok (.bipush 64, 2) := by decide +kernel
theorem dX2_greatestRink_14 : decode cX2_greatestRink 14 = .ok (.if_icmp .ge 44, 3) := by decide +kernel
theorem dX2_greatestRink_17 : decode cX2_greatestRink 17 = .ok (.lload_n 2, 1) := by decide +kernel
theorem dX2_greatestRink_18 : decode cX2_greatestRink 18 = .ok (.lconst 0, 1) := by decide +kernel
theorem dX2_greatestRink_19 : decode cX2_greatestRink 19 = .ok (.lcmp, 1) := by decide +kernel
theorem dX2_greatestRink_20 : decode cX2_greatestRink 20 = .ok (.ifCond .eq 38, 3) := by decide +kernel
theorem dX2_greatestRink_23 : decode cX2_greatestRink 23 = .ok (.aload_n 0, 1) := by decide +kernel
theorem dX2_greatestRink_24 : decode cX2_greatestRink 24 = .ok (.lload_n 2, 1) := by decide +kernel
theorem dX2_greatestRink_25 : decode cX2_greatestRink 25 = .ok (.invokestatic 175, 3) := by decide +kernel
theorem dX2_greatestRink_28 : decode cX2_greatestRink 28 = .ok (.invokevirtual 149, 3) := by decide +kernel
theorem dX2_greatestRink_31 : decode cX2_greatestRink 31 = .ok (.lstore 5, 2) := by decide +kernel
theorem dX2_greatestRink_33 : decode cX2_greatestRink 33 = .ok (.iload_n 1, 1) := by decide +kernel
theorem dX2_greatestRink_34 : decode cX2_greatestRink 34 = .ok (.lload 5, 2) := by decide +kernel
theorem dX2_greatestRink_36 : decode cX2_greatestRink 36 = .ok (.invokestatic 115, 3) := by decide +kernel
theorem dX2_greatestRink_39 : decode cX2_greatestRink 39 = .ok (.invokestatic 185, 3) := by decide +kernel
theorem dX2_greatestRink_42 : decode cX2_greatestRink 42 = .ok (.istore_n 1, 1) := by decide +kernel
theorem dX2_greatestRink_43 : decode cX2_greatestRink 43 = .ok (.lload_n 2, 1) := by decide +kernel
theorem dX2_greatestRink_44 : decode cX2_greatestRink 44 = .ok (.lload 5, 2) := by decide +kernel
theorem dX2_greatestRink_46 : decode cX2_greatestRink 46 = .ok (.ldc2_w 9, 3) := by decide +kernel
theorem dX2_greatestRink_49 : decode cX2_greatestRink 49 = .ok (.lxor, 1) := by decide +kernel
theorem dX2_greatestRink_50 : decode cX2_greatestRink 50 = .ok (.land, 1) := by decide +kernel
theorem dX2_greatestRink_51 : decode cX2_greatestRink 51 = .ok (.lstore_n 2, 1) := by decide +kernel
theorem dX2_greatestRink_52 : decode cX2_greatestRink 52 = .ok (.iinc 4 1, 3) := by decide +kernel
theorem dX2_greatestRink_55 : decode cX2_greatestRink 55 = .ok (.goto (-45), 3) := by decide +kernel
theorem dX2_greatestRink_58 : decode cX2_greatestRink 58 = .ok (.iload_n 1, 1) := by decide +kernel
theorem dX2_greatestRink_59 : decode cX2_greatestRink 59 = .ok (.ireturn, 1) := by decide +kernel
theorem dX2_ownerOf_0 : decode cX2_ownerOf 0 = .ok (.iconst 0, 1) := by decide +kernel
theorem dX2_ownerOf_1 : decode cX2_ownerOf 1 = .ok (.istore_n 3, 1) := by decide +kernel
theorem dX2_ownerOf_2 : decode cX2_ownerOf 2 = .ok (.iload_n 3, 1) := by decide +kernel
theorem dX2_ownerOf_3 : decode cX2_ownerOf 3 = .ok (.iconst 3, 1) := by decide +kernel
theorem dX2_ownerOf_4 : decode cX2_ownerOf 4 = .ok (.if_icmp .ge 27, 3) := by decide +kernel
theorem dX2_ownerOf_7 : decode cX2_ownerOf 7 = .ok (.aload_n 0, 1) := by decide +kernel
theorem dX2_ownerOf_8 : decode cX2_ownerOf 8 = .ok (.getfield 35, 3) := by decide +kernel
theorem dX2_ownerOf_11 : decode cX2_ownerOf 11 = .ok (.iload_n 3, 1) := by decide +kernel
theorem dX2_ownerOf_12 : decode cX2_ownerOf 12 = .ok (.aaload, 1) := by decide +kernel
theorem dX2_ownerOf_13 : decode cX2_ownerOf 13 = .ok (.getfield 131, 3) := by decide +kernel
theorem dX2_ownerOf_16 : decode cX2_ownerOf 16 = .ok (.lload_n 1, 1) := by decide +kernel
theorem dX2_ownerOf_17 : decode cX2_ownerOf 17 = .ok (.land, 1) := by decide +kernel
theorem dX2_ownerOf_18 : decode cX2_ownerOf 18 = .ok (.lconst 0, 1) := by decide +kernel
theorem dX2_ownerOf_19 : decode cX2_ownerOf 19 = .ok (.lcmp, 1) := by decide +kernel
theorem dX2_ownerOf_20 : decode cX2_ownerOf 20 = .ok (.ifCond .eq 5, 3) := by decide +kernel
theorem dX2_ownerOf_23 : decode cX2_ownerOf 23 = .ok (.iload_n 3, 1) := by decide +kernel
theorem dX2_ownerOf_24 : decode cX2_ownerOf 24 = .ok (.ireturn, 1) := by decide +kernel
theorem dX2_ownerOf_25 : decode cX2_ownerOf 25 = .ok (.iinc 3 1, 3) := by decide +kernel
theorem dX2_ownerOf_28 : decode cX2_ownerOf 28 = .ok (.goto (-26), 3) := by decide +kernel
theorem dX2_ownerOf_31 : decode cX2_ownerOf 31 = .ok (.iconst (-1), 1) := by decide +kernel
theorem dX2_ownerOf_32 : decode cX2_ownerOf 32 = .ok (.ireturn, 1) := by decide +kernel
theorem dX2_ownedCells_0 : decode cX2_ownedCells 0 = .ok (.aload_n 0, 1) := by decide +kernel
theorem dX2_ownedCells_1 : decode cX2_ownedCells 1 = .ok (.invokevirtual 181, 3) := by decide +kernel
theorem dX2_ownedCells_4 : decode cX2_ownedCells 4 = .ok (.invokestatic 115, 3) := by decide +kernel
theorem dX2_ownedCells_7 : decode cX2_ownedCells 7 = .ok (.ireturn, 1) := by decide +kernel
theorem dX2_ownedByAny_0 : decode cX2_ownedByAny 0 = .ok (.lconst 0, 1) := by decide +kernel
theorem dX2_ownedByAny_1 : decode cX2_ownedByAny 1 = .ok (.lstore_n 1, 1) := by decide +kernel
theorem dX2_ownedByAny_2 : decode cX2_ownedByAny 2 = .ok (.iconst 0, 1) := by decide +kernel
theorem dX2_ownedByAny_3 : decode cX2_ownedByAny 3 = .ok (.istore_n 3, 1) := by decide +kernel
theorem dX2_ownedByAny_4 : decode cX2_ownedByAny 4 = .ok (.iload_n 3, 1) := by decide +kernel
theorem dX2_ownedByAny_5 : decode cX2_ownedByAny 5 = .ok (.iconst 3, 1) := by decide +kernel
theorem dX2_ownedByAny_6 : decode cX2_ownedByAny 6 = .ok (.if_icmp .ge 21, 3) := by decide +kernel
theorem dX2_ownedByAny_9 : decode cX2_ownedByAny 9 = .ok (.lload_n 1, 1) := by decide +kernel
theorem dX2_ownedByAny_10 : decode cX2_ownedByAny 10 = .ok (.aload_n 0, 1) := by decide +kernel
theorem dX2_ownedByAny_11 : decode cX2_ownedByAny 11 = .ok (.getfield 35, 3) := by decide +kernel
theorem dX2_ownedByAny_14 : decode cX2_ownedByAny 14 = .ok (.iload_n 3, 1) := by decide +kernel
theorem dX2_ownedByAny_15 : decode cX2_ownedByAny 15 = .ok (.aaload, 1) := by decide +kernel
theorem dX2_ownedByAny_16 : decode cX2_ownedByAny 16 = .ok (.getfield 131, 3) := by decide +kernel
theorem dX2_ownedByAny_19 : decode cX2_ownedByAny 19 = .ok (.lor, 1) := by decide +kernel
theorem dX2_ownedByAny_20 : decode cX2_ownedByAny 20 = .ok (.lstore_n 1, 1) := by decide +kernel
theorem dX2_ownedByAny_21 : decode cX2_ownedByAny 21 = .ok (.iinc 3 1, 3) := by decide +kernel
theorem dX2_ownedByAny_24 : decode cX2_ownedByAny 24 = .ok (.goto (-20), 3) := by decide +kernel
theorem dX2_ownedByAny_27 : decode cX2_ownedByAny 27 = .ok (.lload_n 1, 1) := by decide +kernel
theorem dX2_ownedByAny_28 : decode cX2_ownedByAny 28 = .ok (.lreturn, 1) := by decide +kernel
theorem dX2_allPurses_0 : decode cX2_allPurses 0 = .ok (.iconst 0, 1) := by decide +kernel
theorem dX2_allPurses_1 : decode cX2_allPurses 1 = .ok (.istore_n 1, 1) := by decide +kernel
theorem dX2_allPurses_2 : decode cX2_allPurses 2 = .ok (.iconst 0, 1) := by decide +kernel
theorem dX2_allPurses_3 : decode cX2_allPurses 3 = .ok (.istore_n 2, 1) := by decide +kernel
theorem dX2_allPurses_4 : decode cX2_allPurses 4 = .ok (.iload_n 2, 1) := by decide +kernel
theorem dX2_allPurses_5 : decode cX2_allPurses 5 = .ok (.iconst 3, 1) := by decide +kernel
theorem dX2_allPurses_6 : decode cX2_allPurses 6 = .ok (.if_icmp .ge 21, 3) := by decide +kernel
theorem dX2_allPurses_9 : decode cX2_allPurses 9 = .ok (.iload_n 1, 1) := by decide +kernel
theorem dX2_allPurses_10 : decode cX2_allPurses 10 = .ok (.aload_n 0, 1) := by decide +kernel
theorem dX2_allPurses_11 : decode cX2_allPurses 11 = .ok (.getfield 35, 3) := by decide +kernel
theorem dX2_allPurses_14 : decode cX2_allPurses 14 = .ok (.iload_n 2, 1) := by decide +kernel
theorem dX2_allPurses_15 : decode cX2_allPurses 15 = .ok (.aaload, 1) := by decide +kernel
theorem dX2_allPurses_16 : decode cX2_allPurses 16 = .ok (.getfield 100, 3) := by decide +kernel
theorem dX2_allPurses_19 : decode cX2_allPurses 19 = .ok (.iadd, 1) := by decide +kernel
theorem dX2_allPurses_20 : decode cX2_allPurses 20 = .ok (.istore_n 1, 1) := by decide +kernel
theorem dX2_allPurses_21 : decode cX2_allPurses 21 = .ok (.iinc 2 1, 3) := by decide +kernel
theorem dX2_allPurses_24 : decode cX2_allPurses 24 = .ok (.goto (-20), 3) := by decide +kernel
theorem dX2_allPurses_27 : decode cX2_allPurses 27 = .ok (.iload_n 1, 1) := by decide +kernel
theorem dX2_allPurses_28 : decode cX2_allPurses 28 = .ok (.ireturn, 1) := by decide +kernel
theorem dX3_init_0 : decode cX3_init 0 = .ok (.aload_n 0, 1) := by decide +kernel
theorem dX3_init_1 : decode cX3_init 1 = .ok (.invokespecial 3, 3) := by decide +kernel
theorem dX3_init_4 : decode cX3_init 4 = .ok (.aload_n 0, 1) := by decide +kernel
theorem dX3_init_5 : decode cX3_init 5 = .ok (.bipush 64, 2) := by decide +kernel
theorem dX3_init_7 : decode cX3_init 7 = .ok (.newarray .int, 2) := by decide +kernel
theorem dX3_init_9 : decode cX3_init 9 = .ok (.putfield 9, 3) := by decide +kernel
theorem dX3_init_12 : decode cX3_init 12 = .ok (.return_, 1) := by decide +kernel
theorem dX3_rinksByJoining_0 : decode cX3_rinksByJoining 0 = .ok (.iconst 0, 1) := by decide +kernel
theorem dX3_rinksByJoining_1 : decode cX3_rinksByJoining 1 = .ok (.istore_n 2, 1) := by decide +kernel
theorem dX3_rinksByJoining_2 : decode cX3_rinksByJoining 2 = .ok (.iload_n 2, 1) := by decide +kernel
theorem dX3_rinksByJoining_3 : decode cX3_rinksByJoining 3 = .ok (.bipush 64, 2) := by decide +kernel
theorem dX3_rinksByJoining_5 : decode cX3_rinksByJoining 5 = .ok (.if_icmp .ge 16, 3) := by decide +kernel
theorem dX3_rinksByJoining_8 : decode cX3_rinksByJoining 8 = .ok (.aload_n 0, 1) := by decide +kernel
theorem dX3_rinksByJoining_9 : decode cX3_rinksByJoining 9 = .ok (.getfield 9, 3) := by decide +kernel
theorem dX3_rinksByJoining_12 : decode cX3_rinksByJoining 12 = .ok (.iload_n 2, 1) := by decide +kernel
theorem dX3_rinksByJoining_13 : decode cX3_rinksByJoining 13 = .ok (.iload_n 2, 1) := by decide +kernel
theorem dX3_rinksByJoining_14 : decode cX3_rinksByJoining 14 = .ok (.iastore, 1) := by decide +kernel
theorem dX3_rinksByJoining_15 : decode cX3_rinksByJoining 15 = .ok (.iinc 2 1, 3) := by decide +kernel
theorem dX3_rinksByJoining_18 : decode cX3_rinksByJoining 18 = .ok (.goto (-16), 3) := by decide +kernel
theorem dX3_rinksByJoining_21 : decode cX3_rinksByJoining 21 = .ok (.aload_n 1, 1) := by decide +kernel
theorem dX3_rinksByJoining_22 : decode cX3_rinksByJoining 22 = .ok (.invokevirtual 15, 3) := by decide +kernel
theorem dX3_rinksByJoining_25 : decode cX3_rinksByJoining 25 = .ok (.istore_n 2, 1) := by decide +kernel
theorem dX3_rinksByJoining_26 : decode cX3_rinksByJoining 26 = .ok (.iconst 0, 1) := by decide +kernel
theorem dX3_rinksByJoining_27 : decode cX3_rinksByJoining 27 = .ok (.istore_n 3, 1) := by decide +kernel
theorem dX3_rinksByJoining_28 : decode cX3_rinksByJoining 28 = .ok (.iload_n 3, 1) := by decide +kernel
theorem dX3_rinksByJoining_29 : decode cX3_rinksByJoining 29 = .ok (.sipush 144, 3) := by decide +kernel
theorem dX3_rinksByJoining_32 : decode cX3_rinksByJoining 32 = .ok (.if_icmp .ge 49, 3) := by decide +kernel
theorem dX3_rinksByJoining_35 : decode cX3_rinksByJoining 35 = .ok (.iload_n 3, 1) := by decide +kernel
theorem dX3_rinksByJoining_36 : decode cX3_rinksByJoining 36 = .ok (.invokestatic 21, 3) := by decide +kernel
theorem dX3_rinksByJoining_39 : decode cX3_rinksByJoining 39 = .ok (.aload_n 1, 1) := by decide +kernel
theorem dX3_rinksByJoining_40 : decode cX3_rinksByJoining 40 = .ok (.getfield 27, 3) := by decide +kernel
theorem dX3_rinksByJoining_43 : decode cX3_rinksByJoining 43 = .ok (.land, 1) := by decide +kernel
theorem dX3_rinksByJoining_44 : decode cX3_rinksByJoining 44 = .ok (.lstore 4, 2) := by decide +kernel
theorem dX3_rinksByJoining_46 : decode cX3_rinksByJoining 46 = .ok (.lload 4, 2) := by decide +kernel
theorem dX3_rinksByJoining_48 : decode cX3_rinksByJoining 48 = .ok (.invokestatic 31, 3) := by decide +kernel
theorem dX3_rinksByJoining_51 : decode cX3_rinksByJoining 51 = .ok (.iconst 2, 1) := by decide +kernel
theorem dX3_rinksByJoining_52 : decode cX3_rinksByJoining 52 = .ok (.if_icmp .ne 23, 3) := by decide +kernel
theorem dX3_rinksByJoining_55 : decode cX3_rinksByJoining 55 = .ok (.aload_n 1, 1) := by decide +kernel
theorem dX3_rinksByJoining_56 : decode cX3_rinksByJoining 56 = .ok (.iload_n 3, 1) := by decide +kernel
theorem dX3_rinksByJoining_57 : decode cX3_rinksByJoining 57 = .ok (.invokevirtual 37, 3) := by decide +kernel
theorem dX3_rinksByJoining_60 : decode cX3_rinksByJoining 60 = .ok (.ifCond .ne 15, 3) := by decide +kernel
theorem dX3_rinksByJoining_63 : decode cX3_rinksByJoining 63 = .ok (.aload_n 0, 1) := by decide +kernel
theorem dX3_rinksByJoining_64 : decode cX3_rinksByJoining 64 = .ok (.lload 4, 2) := by decide +kernel
theorem dX3_rinksByJoining_66 : decode cX3_rinksByJoining 66 = .ok (.invokevirtual 41, 3) := by decide +kernel
theorem dX3_rinksByJoining_69 : decode cX3_rinksByJoining 69 = .ok (.ifCond .eq 6, 3) := by decide +kernel
theorem dX3_rinksByJoining_72 : decode cX3_rinksByJoining 72 = .ok (.iinc 2 (-1), 3) := by decide +kernel
theorem dX3_rinksByJoining_75 : decode cX3_rinksByJoining 75 = .ok (.iinc 3 1, 3) := by decide +kernel
theorem dX3_rinksByJoining_78 : decode cX3_rinksByJoining 78 = .ok (.goto (-50), 3) := by decide +kernel
theorem dX3_rinksByJoining_81 : decode cX3_rinksByJoining 81 = .ok (.iload_n 2, 1) := by decide +kernel
theorem dX3_rinksByJoining_82 : decode cX3_rinksByJoining 82 = .ok (.ireturn, 1) := by decide +kernel
theorem dX3_join_0 : decode cX3_join 0 = .ok (.aload_n 0, 1) := by decide +kernel
theorem dX3_join_1 : decode cX3_join 1 = .ok (.lload_n 1, 1) := by decide +kernel
theorem dX3_join_2 : decode cX3_join 2 = .ok (.invokestatic 45, 3) := by decide +kernel
theorem dX3_join_5 : decode cX3_join 5 = .ok (.invokevirtual 48, 3) := by decide +kernel
theorem dX3_join_8 : decode cX3_join 8 = .ok (.istore_n 3, 1) := by decide +kernel
theorem dX3_join_9 : decode cX3_join 9 = .ok (.aload_n 0, 1) := by decide +kernel
theorem dX3_join_10 : decode cX3_join 10 = .ok (.lload_n 1, 1) := by decide +kernel
theorem dX3_join_11 : decode cX3_join 11 = .ok (.lload_n 1, 1) := by decide +kernel
theorem dX3_join_12 : decode cX3_join 12 = .ok (.invokestatic 52, 3) := by decide +kernel
theorem dX3_join_15 : decode cX3_join 15 = .ok (.ldc2_w 56, 3) := by decide +kernel
theorem dX3_join_18 : decode cX3_join 18 = .ok (.lxor, 1) := by decide +kernel
theorem dX3_join_19 : decode cX3_join 19 = .ok (.land, 1) := by decide +kernel
theorem dX3_join_20 : decode cX3_join 20 = .ok (.invokestatic 45, 3) := by decide +kernel
theorem dX3_join_23 : decode cX3_join 23 = .ok (.invokevirtual 48, 3) := by decide +kernel
theorem dX3_join_26 : decode cX3_join 26 = .ok (.istore 4, 2) := by decide +kernel
theorem dX3_join_28 : decode cX3_join 28 = .ok (.aload_n 0, 1) := by decide +kernel
theorem dX3_join_29 : decode cX3_join 29 = .ok (.getfield 9, 3) := by decide +kernel
theorem dX3_join_32 : decode cX3_join 32 = .ok (.iload_n 3, 1) := by decide +kernel
theorem dX3_join_33 : decode cX3_join 33 = .ok (.iload 4, 2) := by decide +kernel
theorem dX3_join_35 : decode cX3_join 35 = .ok (.invokestatic 58, 3) := by decide +kernel
theorem dX3_join_38 : decode cX3_join 38 = .ok (.iload_n 3, 1) := by decide +kernel
theorem dX3_join_39 : decode cX3_join 39 = .ok (.iload 4, 2) := by decide +kernel
theorem dX3_join_41 : decode cX3_join 41 = .ok (.invokestatic 64, 3) := by decide +kernel
theorem dX3_join_44 : decode cX3_join 44 = .ok (.iastore, 1) := by decide +kernel
theorem dX3_join_45 : decode cX3_join 45 = .ok (.iload_n 3, 1) := by decide +kernel
theorem dX3_join_46 : decode cX3_join 46 = .ok (.iload 4, 2) := by decide +kernel
theorem dX3_join_48 : decode cX3_join 48 = .ok (.if_icmp .eq 7, 3) := by decide +kernel
theorem dX3_join_51 : decode cX3_join 51 = .ok (.iconst 1, 1) := by decide +kernel
theorem dX3_join_52 : decode cX3_join 52 = .ok (.goto 4, 3) := by decide +kernel
theorem dX3_join_55 : decode cX3_join 55 = .ok (.iconst 0, 1) := by decide +kernel
theorem dX3_join_56 : decode cX3_join 56 = .ok (.ireturn, 1) := by decide +kernel
theorem dX3_lowestJoined_0 : decode cX3_lowestJoined 0 = .ok (.iload_n 1, 1) := by decide +kernel
theorem dX3_lowestJoined_1 : decode cX3_lowestJoined 1 = .ok (.istore_n 2, 1) := by decide +kernel
theorem dX3_lowestJoined_2 : decode cX3_lowestJoined 2 = .ok (.iconst 0, 1) := by decide +kernel
theorem dX3_lowestJoined_3 : decode cX3_lowestJoined 3 = .ok (.istore_n 3, 1) := by decide +kernel
theorem dX3_lowestJoined_4 : decode cX3_lowestJoined 4 = .ok (.iload_n 3, 1) := by decide +kernel
theorem dX3_lowestJoined_5 : decode cX3_lowestJoined 5 = .ok (.bipush 64, 2) := by decide +kernel
theorem dX3_lowestJoined_7 : decode cX3_lowestJoined 7 = .ok (.if_icmp .ge 26, 3) := by decide +kernel
theorem dX3_lowestJoined_10 : decode cX3_lowestJoined 10 = .ok (.aload_n 0, 1) := by decide +kernel
theorem dX3_lowestJoined_11 : decode cX3_lowestJoined 11 = .ok (.getfield 9, 3) := by decide +kernel
theorem dX3_lowestJoined_14 : decode cX3_lowestJoined 14 = .ok (.iload_n 2, 1) := by decide +kernel
theorem dX3_lowestJoined_15 : decode cX3_lowestJoined 15 = .ok (.iaload, 1) := by decide +kernel
theorem dX3_lowestJoined_16 : decode cX3_lowestJoined 16 = .ok (.iload_n 2, 1) := by decide +kernel
theorem dX3_lowestJoined_17 : decode cX3_lowestJoined 17 = .ok (.if_icmp .eq 16, 3) := by decide +kernel
theorem dX3_lowestJoined_20 : decode cX3_lowestJoined 20 = .ok (.aload_n 0, 1) := by decide +kernel
theorem dX3_lowestJoined_21 : decode cX3_lowestJoined 21 = .ok (.getfield 9, 3) := by decide +kernel
theorem dX3_lowestJoined_24 : decode cX3_lowestJoined 24 = .ok (.iload_n 2, 1) := by decide +kernel
theorem dX3_lowestJoined_25 : decode cX3_lowestJoined 25 = .ok (.iaload, 1) := by decide +kernel
theorem dX3_lowestJoined_26 : decode cX3_lowestJoined 26 = .ok (.istore_n 2, 1) := by decide +kernel
theorem dX3_lowestJoined_27 : decode cX3_lowestJoined 27 = .ok (.iinc 3 1, 3) := by decide +kernel
theorem dX3_lowestJoined_30 : decode cX3_lowestJoined 30 = .ok (.goto (-26), 3) := by decide +kernel
theorem dX3_lowestJoined_33 : decode cX3_lowestJoined 33 = .ok (.iload_n 2, 1) := by decide +kernel
theorem dX3_lowestJoined_34 : decode cX3_lowestJoined 34 = .ok (.ireturn, 1) := by decide +kernel
theorem dX4_init_0 : decode cX4_init 0 = .ok (.aload_n 0, 1) := by decide +kernel
theorem dX4_init_1 : decode cX4_init 1 = .ok (.invokespecial 1, 3) := by decide +kernel
theorem dX4_init_4 : decode cX4_init 4 = .ok (.aload_n 0, 1) := by decide +kernel
theorem dX4_init_5 : decode cX4_init 5 = .ok (.bipush 6, 2) := by decide +kernel
theorem dX4_init_7 : decode cX4_init 7 = .ok (.anewarray 9, 3) := by decide +kernel
theorem dX4_init_10 : decode cX4_init 10 = .ok (.putfield 11, 3) := by decide +kernel
theorem dX4_init_13 : decode cX4_init 13 = .ok (.iconst 0, 1) := by decide +kernel
theorem dX4_init_14 : decode cX4_init 14 = .ok (.istore_n 1, 1) := by decide +kernel
theorem dX4_init_15 : decode cX4_init 15 = .ok (.iload_n 1, 1) := by decide +kernel
theorem dX4_init_16 : decode cX4_init 16 = .ok (.bipush 6, 2) := by decide +kernel
theorem dX4_init_18 : decode cX4_init 18 = .ok (.if_icmp .ge 22, 3) := by decide +kernel
theorem dX4_init_21 : decode cX4_init 21 = .ok (.aload_n 0, 1) := by decide +kernel
theorem dX4_init_22 : decode cX4_init 22 = .ok (.getfield 11, 3) := by decide +kernel
theorem dX4_init_25 : decode cX4_init 25 = .ok (.iload_n 1, 1) := by decide +kernel
theorem dX4_init_26 : decode cX4_init 26 = .ok (.new 9, 3) := by decide +kernel
theorem dX4_init_29 : decode cX4_init 29 = .ok (.dup, 1) := by decide +kernel
theorem dX4_init_30 : decode cX4_init 30 = .ok (.invokespecial 15, 3) := by decide +kernel
theorem dX4_init_33 : decode cX4_init 33 = .ok (.aastore, 1) := by decide +kernel
theorem dX4_init_34 : decode cX4_init 34 = .ok (.iinc 1 1, 3) := by decide +kernel
theorem dX4_init_37 : decode cX4_init 37 = .ok (.goto (-22), 3) := by decide +kernel
theorem dX4_init_40 : decode cX4_init 40 = .ok (.aload_n 0, 1) := by decide +kernel
theorem dX4_init_41 : decode cX4_init 41 = .ok (.iconst 0, 1) := by decide +kernel
theorem dX4_init_42 : decode cX4_init 42 = .ok (.putfield 16, 3) := by decide +kernel
theorem dX4_init_45 : decode cX4_init 45 = .ok (.aload_n 0, 1) := by decide +kernel
theorem dX4_init_46 : decode cX4_init 46 = .ok (.iconst 0, 1) := by decide +kernel
theorem dX4_init_47 : decode cX4_init 47 = .ok (.putfield 20, 3) := by decide +kernel
theorem dX4_init_50 : decode cX4_init 50 = .ok (.return_, 1) := by decide +kernel
theorem dX4_push_0 : decode cX4_push 0 = .ok (.aload_n 0, 1) := by decide +kernel
theorem dX4_push_1 : decode cX4_push 1 = .ok (.getfield 20, 3) := by decide +kernel
theorem dX4_push_4 : decode cX4_push 4 = .ok (.bipush 6, 2) := by decide +kernel
theorem dX4_push_6 : decode cX4_push 6 = .ok (.if_icmp .ne 26, 3) := by decide +kernel
theorem dX4_push_9 : decode cX4_push 9 = .ok (.aload_n 0, 1) := by decide +kernel
theorem dX4_push_10 : decode cX4_push 10 = .ok (.aload_n 0, 1) := by decide +kernel
theorem dX4_push_11 : decode cX4_push 11 = .ok (.getfield 16, 3) := by decide +kernel
theorem dX4_push_14 : decode cX4_push 14 = .ok (.iconst 1, 1) := by decide +kernel
theorem dX4_push_15 : decode cX4_push 15 = .ok (.iadd, 1) := by decide +kernel
theorem dX4_push_16 : decode cX4_push 16 = .ok (.bipush 6, 2) := by decide +kernel
theorem dX4_push_18 : decode cX4_push 18 = .ok (.irem, 1) := by decide +kernel
theorem dX4_push_19 : decode cX4_push 19 = .ok (.putfield 16, 3) := by decide +kernel
theorem dX4_push_22 : decode cX4_push 22 = .ok (.aload_n 0, 1) := by decide +kernel
theorem dX4_push_23 : decode cX4_push 23 = .ok (.dup, 1) := by decide +kernel
theorem dX4_push_24 : decode cX4_push 24 = .ok (.getfield 20, 3) := by decide +kernel
theorem dX4_push_27 : decode cX4_push 27 = .ok (.iconst 1, 1) := by decide +kernel
theorem dX4_push_28 : decode cX4_push 28 = .ok (.isub, 1) := by decide +kernel
theorem dX4_push_29 : decode cX4_push 29 = .ok (.putfield 20, 3) := by decide +kernel
theorem dX4_push_32 : decode cX4_push 32 = .ok (.aload_n 0, 1) := by decide +kernel
theorem dX4_push_33 : decode cX4_push 33 = .ok (.getfield 11, 3) := by decide +kernel
theorem dX4_push_36 : decode cX4_push 36 = .ok (.aload_n 0, 1) := by decide +kernel
theorem dX4_push_37 : decode cX4_push 37 = .ok (.getfield 16, 3) := by decide +kernel
theorem dX4_push_40 : decode cX4_push 40 = .ok (.aload_n 0, 1) := by decide +kernel
theorem dX4_push_41 : decode cX4_push 41 = .ok (.getfield 20, 3) := by decide +kernel
theorem dX4_push_44 : decode cX4_push 44 = .ok (.iadd, 1) := by decide +kernel
theorem dX4_push_45 : decode cX4_push 45 = .ok (.bipush 6, 2) := by decide +kernel
theorem dX4_push_47 : decode cX4_push 47 = .ok (.irem, 1) := by decide +kernel
theorem dX4_push_48 : decode cX4_push 48 = .ok (.aaload, 1) := by decide +kernel
theorem dX4_push_49 : decode cX4_push 49 = .ok (.aload_n 1, 1) := by decide +kernel
theorem dX4_push_50 : decode cX4_push 50 = .ok (.invokevirtual 23, 3) := by decide +kernel
theorem dX4_push_53 : decode cX4_push 53 = .ok (.aload_n 0, 1) := by decide +kernel
theorem dX4_push_54 : decode cX4_push 54 = .ok (.dup, 1) := by decide +kernel
theorem dX4_push_55 : decode cX4_push 55 = .ok (.getfield 20, 3) := by decide +kernel
theorem dX4_push_58 : decode cX4_push 58 = .ok (.iconst 1, 1) := by decide +kernel
theorem dX4_push_59 : decode cX4_push 59 = .ok (.iadd, 1) := by decide +kernel
theorem dX4_push_60 : decode cX4_push 60 = .ok (.putfield 20, 3) := by decide +kernel
theorem dX4_push_63 : decode cX4_push 63 = .ok (.return_, 1) := by decide +kernel
theorem dX4_popInto_0 : decode cX4_popInto 0 = .ok (.aload_n 0, 1) := by decide +kernel
theorem dX4_popInto_1 : decode cX4_popInto 1 = .ok (.dup, 1) := by decide +kernel
theorem dX4_popInto_2 : decode cX4_popInto 2 = .ok (.getfield 20, 3) := by decide +kernel
theorem dX4_popInto_5 : decode cX4_popInto 5 = .ok (.iconst 1, 1) := by decide +kernel
theorem dX4_popInto_6 : decode cX4_popInto 6 = .ok (.isub, 1) := by decide +kernel
theorem dX4_popInto_7 : decode cX4_popInto 7 = .ok (.putfield 20, 3) := by decide +kernel
theorem dX4_popInto_10 : decode cX4_popInto 10 = .ok (.aload_n 1, 1) := by decide +kernel
theorem dX4_popInto_11 : decode cX4_popInto 11 = .ok (.aload_n 0, 1) := by decide +kernel
theorem dX4_popInto_12 : decode cX4_popInto 12 = .ok (.getfield 11, 3) := by decide +kernel
theorem dX4_popInto_15 : decode cX4_popInto 15 = .ok (.aload_n 0, 1) := by decide +kernel
theorem dX4_popInto_16 : decode cX4_popInto 16 = .ok (.getfield 16, 3) := by decide +kernel
theorem dX4_popInto_19 : decode cX4_popInto 19 = .ok (.aload_n 0, 1) := by decide +kernel
theorem dX4_popInto_20 : decode cX4_popInto 20 = .ok (.getfield 20, 3) := by decide +kernel
theorem dX4_popInto_23 : decode cX4_popInto 23 = .ok (.iadd, 1) := by decide +kernel
theorem dX4_popInto_24 : decode cX4_popInto 24 = .ok (.bipush 6, 2) := by decide +kernel
theorem dX4_popInto_26 : decode cX4_popInto 26 = .ok (.irem, 1) := by decide +kernel
theorem dX4_popInto_27 : decode cX4_popInto 27 = .ok (.aaload, 1) := by decide +kernel
theorem dX4_popInto_28 : decode cX4_popInto 28 = .ok (.invokevirtual 23, 3) := by decide +kernel
theorem dX4_popInto_31 : decode cX4_popInto 31 = .ok (.return_, 1) := by decide +kernel
theorem dX5_init_0 : decode cX5_init 0 = .ok (.aload_n 0, 1) := by decide +kernel
theorem dX5_init_1 : decode cX5_init 1 = .ok (.invokespecial 3, 3) := by decide +kernel
theorem dX5_init_4 : decode cX5_init 4 = .ok (.aload_n 0, 1) := by decide +kernel
theorem dX5_init_5 : decode cX5_init 5 = .ok (.iload_n 1, 1) := by decide +kernel
theorem dX5_init_6 : decode cX5_init 6 = .ok (.putfield 9, 3) := by decide +kernel
theorem dX5_init_9 : decode cX5_init 9 = .ok (.aload_n 0, 1) := by decide +kernel
theorem dX5_init_10 : decode cX5_init 10 = .ok (.iload_n 2, 1) := by decide +kernel
theorem dX5_init_11 : decode cX5_init 11 = .ok (.putfield 15, 3) := by decide +kernel
theorem dX5_init_14 : decode cX5_init 14 = .ok (.aload_n 0, 1) := by decide +kernel
theorem dX5_init_15 : decode cX5_init 15 = .ok (.bipush 20, 2) := by decide +kernel
theorem dX5_init_17 : decode cX5_init 17 = .ok (.putfield 18, 3) := by decide +kernel
theorem dX5_init_20 : decode cX5_init 20 = .ok (.aload_n 0, 1) := by decide +kernel
theorem dX5_init_21 : decode cX5_init 21 = .ok (.iconst 0, 1) := by decide +kernel
theorem dX5_init_22 : decode cX5_init 22 = .ok (.putfield 21, 3) := by decide +kernel
theorem dX5_init_25 : decode cX5_init 25 = .ok (.aload_n 0, 1) := by decide +kernel
theorem dX5_init_26 : decode cX5_init 26 = .ok (.iconst 0, 1) := by decide +kernel
theorem dX5_init_27 : decode cX5_init 27 = .ok (.putfield 24, 3) := by decide +kernel
theorem dX5_init_30 : decode cX5_init 30 = .ok (.aload_n 0, 1) := by decide +kernel
theorem dX5_init_31 : decode cX5_init 31 = .ok (.iconst 0, 1) := by decide +kernel
theorem dX5_init_32 : decode cX5_init 32 = .ok (.putfield 27, 3) := by decide +kernel
theorem dX5_init_35 : decode cX5_init 35 = .ok (.aload_n 0, 1) := by decide +kernel
theorem dX5_init_36 : decode cX5_init 36 = .ok (.lconst 0, 1) := by decide +kernel
theorem dX5_init_37 : decode cX5_init 37 = .ok (.putfield 30, 3) := by decide +kernel
theorem dX5_init_40 : decode cX5_init 40 = .ok (.return_, 1) := by decide +kernel
theorem dX5_copyFrom_0 : decode cX5_copyFrom 0 = .ok (.aload_n 0, 1) := by decide +kernel
theorem dX5_copyFrom_1 : decode cX5_copyFrom 1 = .ok (.aload_n 1, 1) := by decide +kernel
theorem dX5_copyFrom_2 : decode cX5_copyFrom 2 = .ok (.getfield 9, 3) := by decide +kernel
theorem dX5_copyFrom_5 : decode cX5_copyFrom 5 = .ok (.putfield 9, 3) := by decide +kernel
theorem dX5_copyFrom_8 : decode cX5_copyFrom 8 = .ok (.aload_n 0, 1) := by decide +kernel
theorem dX5_copyFrom_9 : decode cX5_copyFrom 9 = .ok (.aload_n 1, 1) := by decide +kernel
theorem dX5_copyFrom_10 : decode cX5_copyFrom 10 = .ok (.getfield 15, 3) := by decide +kernel
theorem dX5_copyFrom_13 : decode cX5_copyFrom 13 = .ok (.putfield 15, 3) := by decide +kernel
theorem dX5_copyFrom_16 : decode cX5_copyFrom 16 = .ok (.aload_n 0, 1) := by decide +kernel
theorem dX5_copyFrom_17 : decode cX5_copyFrom 17 = .ok (.aload_n 1, 1) := by decide +kernel
theorem dX5_copyFrom_18 : decode cX5_copyFrom 18 = .ok (.getfield 18, 3) := by decide +kernel
theorem dX5_copyFrom_21 : decode cX5_copyFrom 21 = .ok (.putfield 18, 3) := by decide +kernel
theorem dX5_copyFrom_24 : decode cX5_copyFrom 24 = .ok (.aload_n 0, 1) := by decide +kernel
theorem dX5_copyFrom_25 : decode cX5_copyFrom 25 = .ok (.aload_n 1, 1) := by decide +kernel
theorem dX5_copyFrom_26 : decode cX5_copyFrom 26 = .ok (.getfield 21, 3) := by decide +kernel
theorem dX5_copyFrom_29 : decode cX5_copyFrom 29 = .ok (.putfield 21, 3) := by decide +kernel
theorem dX5_copyFrom_32 : decode cX5_copyFrom 32 = .ok (.aload_n 0, 1) := by decide +kernel
theorem dX5_copyFrom_33 : decode cX5_copyFrom 33 = .ok (.aload_n 1, 1) := by decide +kernel
theorem dX5_copyFrom_34 : decode cX5_copyFrom 34 = .ok (.getfield 24, 3) := by decide +kernel
theorem dX5_copyFrom_37 : decode cX5_copyFrom 37 = .ok (.putfield 24, 3) := by decide +kernel
theorem dX5_copyFrom_40 : decode cX5_copyFrom 40 = .ok (.aload_n 0, 1) := by decide +kernel
theorem dX5_copyFrom_41 : decode cX5_copyFrom 41 = .ok (.aload_n 1, 1) := by decide +kernel
theorem dX5_copyFrom_42 : decode cX5_copyFrom 42 = .ok (.getfield 27, 3) := by decide +kernel
theorem dX5_copyFrom_45 : decode cX5_copyFrom 45 = .ok (.putfield 27, 3) := by decide +kernel
theorem dX5_copyFrom_48 : decode cX5_copyFrom 48 = .ok (.aload_n 0, 1) := by decide +kernel
theorem dX5_copyFrom_49 : decode cX5_copyFrom 49 = .ok (.aload_n 1, 1) := by decide +kernel
theorem dX5_copyFrom_50 : decode cX5_copyFrom 50 = .ok (.getfield 30, 3) := by decide +kernel
theorem dX5_copyFrom_53 : decode cX5_copyFrom 53 = .ok (.putfield 30, 3) := by decide +kernel
theorem dX5_copyFrom_56 : decode cX5_copyFrom 56 = .ok (.return_, 1) := by decide +kernel
theorem dX5_ownedCells_0 : decode cX5_ownedCells 0 = .ok (.aload_n 0, 1) := by decide +kernel
theorem dX5_ownedCells_1 : decode cX5_ownedCells 1 = .ok (.getfield 30, 3) := by decide +kernel
theorem dX5_ownedCells_4 : decode cX5_ownedCells 4 = .ok (.invokestatic 34, 3) := by decide +kernel
theorem dX5_ownedCells_7 : decode cX5_ownedCells 7 = .ok (.ireturn, 1) := by decide +kernel
theorem dX5_move_0 : decode cX5_move 0 = .ok (.aload_n 0, 1) := by decide +kernel
theorem dX5_move_1 : decode cX5_move 1 = .ok (.aload_n 0, 1) := by decide +kernel
theorem dX5_move_2 : decode cX5_move 2 = .ok (.iload_n 1, 1) := by decide +kernel
theorem dX5_move_3 : decode cX5_move 3 = .ok (.invokevirtual 40, 3) := by decide +kernel
theorem dX5_move_6 : decode cX5_move 6 = .ok (.putfield 9, 3) := by decide +kernel
theorem dX5_move_9 : decode cX5_move 9 = .ok (.aload_n 0, 1) := by decide +kernel
theorem dX5_move_10 : decode cX5_move 10 = .ok (.aload_n 0, 1) := by decide +kernel
theorem dX5_move_11 : decode cX5_move 11 = .ok (.iload_n 1, 1) := by decide +kernel
theorem dX5_move_12 : decode cX5_move 12 = .ok (.invokevirtual 44, 3) := by decide +kernel
theorem dX5_move_15 : decode cX5_move 15 = .ok (.putfield 15, 3) := by decide +kernel
theorem dX5_move_18 : decode cX5_move 18 = .ok (.aload_n 0, 1) := by decide +kernel
theorem dX5_move_19 : decode cX5_move 19 = .ok (.dup, 1) := by decide +kernel
theorem dX5_move_20 : decode cX5_move 20 = .ok (.getfield 21, 3) := by decide +kernel
theorem dX5_move_23 : decode cX5_move 23 = .ok (.iconst 1, 1) := by decide +kernel
theorem dX5_move_24 : decode cX5_move 24 = .ok (.iadd, 1) := by decide +kernel
theorem dX5_move_25 : decode cX5_move 25 = .ok (.putfield 21, 3) := by decide +kernel
theorem dX5_move_28 : decode cX5_move 28 = .ok (.return_, 1) := by decide +kernel
theorem dX5_nextX_0 : decode cX5_nextX 0 = .ok (.iload_n 1, 1) := by decide +kernel
theorem dX5_nextX_1 : decode cX5_nextX 1 = .ok (.iconst 1, 1) := by decide +kernel
theorem dX5_nextX_2 : decode cX5_nextX 2 = .ok (.if_icmp .ne 12, 3) := by decide +kernel
theorem dX5_nextX_5 : decode cX5_nextX 5 = .ok (.aload_n 0, 1) := by decide +kernel
theorem dX5_nextX_6 : decode cX5_nextX 6 = .ok (.getfield 9, 3) := by decide +kernel
theorem dX5_nextX_9 : decode cX5_nextX 9 = .ok (.iconst 1, 1) := by decide +kernel
theorem dX5_nextX_10 : decode cX5_nextX 10 = .ok (.iadd, 1) := by decide +kernel
theorem dX5_nextX_11 : decode cX5_nextX 11 = .ok (.goto 21, 3) := by decide +kernel
theorem dX5_nextX_14 : decode cX5_nextX 14 = .ok (.iload_n 1, 1) := by decide +kernel
theorem dX5_nextX_15 : decode cX5_nextX 15 = .ok (.iconst 3, 1) := by decide +kernel
theorem dX5_nextX_16 : decode cX5_nextX 16 = .ok (.if_icmp .ne 12, 3) := by decide +kernel
theorem dX5_nextX_19 : decode cX5_nextX 19 = .ok (.aload_n 0, 1) := by decide +kernel
theorem dX5_nextX_20 : decode cX5_nextX 20 = .ok (.getfield 9, 3) := by decide +kernel
theorem dX5_nextX_23 : decode cX5_nextX 23 = .ok (.iconst 1, 1) := by decide +kernel
theorem dX5_nextX_24 : decode cX5_nextX 24 = .ok (.isub, 1) := by decide +kernel
theorem dX5_nextX_25 : decode cX5_nextX 25 = .ok (.goto 7, 3) := by decide +kernel
theorem dX5_nextX_28 : decode cX5_nextX 28 = .ok (.aload_n 0, 1) := by decide +kernel
theorem dX5_nextX_29 : decode cX5_nextX 29 = .ok (.getfield 9, 3) := by decide +kernel
theorem dX5_nextX_32 : decode cX5_nextX 32 = .ok (.ireturn, 1) := by decide +kernel
theorem dX5_nextY_0 : decode cX5_nextY 0 = .ok (.iload_n 1, 1) := by decide +kernel
theorem dX5_nextY_1 : decode cX5_nextY 1 = .ok (.iconst 2, 1) := by decide +kernel
theorem dX5_nextY_2 : decode cX5_nextY 2 = .ok (.if_icmp .ne 12, 3) := by decide +kernel
theorem dX5_nextY_5 : decode cX5_nextY 5 = .ok (.aload_n 0, 1) := by decide +kernel
theorem dX5_nextY_6 : decode cX5_nextY 6 = .ok (.getfield 15, 3) := by decide +kernel
theorem dX5_nextY_9 : decode cX5_nextY 9 = .ok (.iconst 1, 1) := by decide +kernel
theorem dX5_nextY_10 : decode cX5_nextY 10 = .ok (.iadd, 1) := by decide +kernel
theorem dX5_nextY_11 : decode cX5_nextY 11 = .ok (.goto 20, 3) := by decide +kernel
theorem dX5_nextY_14 : decode cX5_nextY 14 = .ok (.iload_n 1, 1) := by decide +kernel
theorem dX5_nextY_15 : decode cX5_nextY 15 = .ok (.ifCond .ne 12, 3) := by decide +kernel
theorem dX5_nextY_18 : decode cX5_nextY 18 = .ok (.aload_n 0, 1) := by decide +kernel
theorem dX5_nextY_19 : decode cX5_nextY 19 = .ok (.getfield 15, 3) := by decide +kernel
theorem dX5_nextY_22 : decode cX5_nextY 22 = .ok (.iconst 1, 1) := by decide +kernel
theorem dX5_nextY_23 : decode cX5_nextY 23 = .ok (.isub, 1) := by decide +kernel
theorem dX5_nextY_24 : decode cX5_nextY 24 = .ok (.goto 7, 3) := by decide +kernel
theorem dX5_nextY_27 : decode cX5_nextY 27 = .ok (.aload_n 0, 1) := by decide +kernel
theorem dX5_nextY_28 : decode cX5_nextY 28 = .ok (.getfield 15, 3) := by decide +kernel
theorem dX5_nextY_31 : decode cX5_nextY 31 = .ok (.ireturn, 1) := by decide +kernel
theorem dX6_init_0 : decode cX6_init 0 = .ok (.aload_n 0, 1) := by decide +kernel
theorem dX6_init_1 : decode cX6_init 1 = .ok (.invokespecial 1, 3) := by decide +kernel
theorem dX6_init_4 : decode cX6_init 4 = .ok (.aload_n 0, 1) := by decide +kernel
theorem dX6_init_5 : decode cX6_init 5 = .ok (.new 7, 3) := by decide +kernel
theorem dX6_init_8 : decode cX6_init 8 = .ok (.dup, 1) := by decide +kernel
theorem dX6_init_9 : decode cX6_init 9 = .ok (.invokespecial 9, 3) := by decide +kernel
theorem dX6_init_12 : decode cX6_init 12 = .ok (.putfield 10, 3) := by decide +kernel
theorem dX6_init_15 : decode cX6_init 15 = .ok (.aload_n 0, 1) := by decide +kernel
theorem dX6_init_16 : decode cX6_init 16 = .ok (.new 7, 3) := by decide +kernel
theorem dX6_init_19 : decode cX6_init 19 = .ok (.dup, 1) := by decide +kernel
theorem dX6_init_20 : decode cX6_init 20 = .ok (.invokespecial 9, 3) := by decide +kernel
theorem dX6_init_23 : decode cX6_init 23 = .ok (.putfield 16, 3) := by decide +kernel
theorem dX6_init_26 : decode cX6_init 26 = .ok (.aload_n 0, 1) := by decide +kernel
theorem dX6_init_27 : decode cX6_init 27 = .ok (.new 7, 3) := by decide +kernel
theorem dX6_init_30 : decode cX6_init 30 = .ok (.dup, 1) := by decide +kernel
theorem dX6_init_31 : decode cX6_init 31 = .ok (.invokespecial 9, 3) := by decide +kernel
theorem dX6_init_34 : decode cX6_init 34 = .ok (.putfield 19, 3) := by decide +kernel
theorem dX6_init_37 : decode cX6_init 37 = .ok (.aload_n 0, 1) := by decide +kernel
theorem dX6_init_38 : decode cX6_init 38 = .ok (.new 22, 3) := by decide +kernel
theorem dX6_init_41 : decode cX6_init 41 = .ok (.dup, 1) := by decide +kernel
theorem dX6_init_42 : decode cX6_init 42 = .ok (.invokespecial 24, 3) := by decide +kernel
theorem dX6_init_45 : decode cX6_init 45 = .ok (.putfield 25, 3) := by decide +kernel
theorem dX6_init_48 : decode cX6_init 48 = .ok (.aload_n 0, 1) := by decide +kernel
theorem dX6_init_49 : decode cX6_init 49 = .ok (.new 29, 3) := by decide +kernel
theorem dX6_init_52 : decode cX6_init 52 = .ok (.dup, 1) := by decide +kernel
theorem dX6_init_53 : decode cX6_init 53 = .ok (.invokespecial 31, 3) := by decide +kernel
theorem dX6_init_56 : decode cX6_init 56 = .ok (.putfield 32, 3) := by decide +kernel
theorem dX6_init_59 : decode cX6_init 59 = .ok (.aload_n 0, 1) := by decide +kernel
theorem dX6_init_60 : decode cX6_init 60 = .ok (.new 36, 3) := by decide +kernel
theorem dX6_init_63 : decode cX6_init 63 = .ok (.dup, 1) := by decide +kernel
theorem dX6_init_64 : decode cX6_init 64 = .ok (.invokespecial 38, 3) := by decide +kernel
theorem dX6_init_67 : decode cX6_init 67 = .ok (.putfield 39, 3) := by decide +kernel
theorem dX6_init_70 : decode cX6_init 70 = .ok (.aload_n 0, 1) := by decide +kernel
theorem dX6_init_71 : decode cX6_init 71 = .ok (.iconst 0, 1) := by decide +kernel
theorem dX6_init_72 : decode cX6_init 72 = .ok (.putfield 43, 3) := by decide +kernel
theorem dX6_init_75 : decode cX6_init 75 = .ok (.return_, 1) := by decide +kernel
theorem dX6_glide_0 : decode cX6_glide 0 = .ok (.iload_n 1, 1) := by decide +kernel
theorem dX6_glide_1 : decode cX6_glide 1 = .ok (.invokestatic 47, 3) := by decide +kernel
theorem dX6_glide_4 : decode cX6_glide 4 = .ok (.ifCond .ne 13, 3) := by decide +kernel
theorem dX6_glide_7 : decode cX6_glide 7 = .ok (.new 51, 3) := by decide +kernel
theorem dX6_glide_10 : decode cX6_glide 10 = .ok (.dup, 1) := by decide +kernel
theorem dX6_glide_11 : decode cX6_glide 11 = .ok (.ldc 53, 2) := by decide +kernel
theorem dX6_glide_13 : decode cX6_glide 13 = .ok (.invokespecial 55, 3) := by decide +kernel
theorem dX6_glide_16 : decode cX6_glide 16 = .ok (.athrow, 1) := by decide +kernel
theorem dX6_glide_17 : decode cX6_glide 17 = .ok (.iload_n 2, 1) := by decide +kernel
theorem dX6_glide_18 : decode cX6_glide 18 = .ok (.invokestatic 58, 3) := by decide +kernel
theorem dX6_glide_21 : decode cX6_glide 21 = .ok (.ifCond .eq 10, 3) := by decide +kernel
theorem dX6_glide_24 : decode cX6_glide 24 = .ok (.iload_n 3, 1) := by decide +kernel
theorem dX6_glide_25 : decode cX6_glide 25 = .ok (.invokestatic 61, 3) := by decide +kernel
theorem dX6_glide_28 : decode cX6_glide 28 = .ok (.ifCond .ne 13, 3) := by decide +kernel
theorem dX6_glide_31 : decode cX6_glide 31 = .ok (.new 64, 3) := by decide +kernel
theorem dX6_glide_34 : decode cX6_glide 34 = .ok (.dup, 1) := by decide +kernel
theorem dX6_glide_35 : decode cX6_glide 35 = .ok (.ldc 66, 2) := by decide +kernel
theorem dX6_glide_37 : decode cX6_glide 37 = .ok (.invokespecial 68, 3) := by decide +kernel
theorem dX6_glide_40 : decode cX6_glide 40 = .ok (.athrow, 1) := by decide +kernel
theorem dX6_glide_41 : decode cX6_glide 41 = .ok (.aload_n 0, 1) := by decide +kernel
theorem dX6_glide_42 : decode cX6_glide 42 = .ok (.getfield 25, 3) := by decide +kernel
theorem dX6_glide_45 : decode cX6_glide 45 = .ok (.aload_n 0, 1) := by decide +kernel
theorem dX6_glide_46 : decode cX6_glide 46 = .ok (.getfield 10, 3) := by decide +kernel
theorem dX6_glide_49 : decode cX6_glide 49 = .ok (.invokevirtual 69, 3) := by decide +kernel
theorem dX6_glide_52 : decode cX6_glide 52 = .ok (.aload_n 0, 1) := by decide +kernel
theorem dX6_glide_53 : decode cX6_glide 53 = .ok (.getfield 10, 3) := by decide +kernel
theorem dX6_glide_56 : decode cX6_glide 56 = .ok (.iload_n 1, 1) := by decide +kernel
theorem dX6_glide_57 : decode cX6_glide 57 = .ok (.iload_n 2, 1) := by decide +kernel
theorem dX6_glide_58 : decode cX6_glide 58 = .ok (.iload_n 3, 1) := by decide +kernel
theorem dX6_glide_59 : decode cX6_glide 59 = .ok (.invokevirtual 73, 3) := by decide +kernel
theorem dX6_glide_62 : decode cX6_glide 62 = .ok (.ireturn, 1) := by decide +kernel
theorem dX6_thaw_0 : decode cX6_thaw 0 = .ok (.aload_n 0, 1) := by decide +kernel
theorem dX6_thaw_1 : decode cX6_thaw 1 = .ok (.getfield 25, 3) := by decide +kernel
theorem dX6_thaw_4 : decode cX6_thaw 4 = .ok (.aload_n 0, 1) := by decide +kernel
theorem dX6_thaw_5 : decode cX6_thaw 5 = .ok (.getfield 10, 3) := by decide +kernel
theorem dX6_thaw_8 : decode cX6_thaw 8 = .ok (.invokevirtual 69, 3) := by decide +kernel
theorem dX6_thaw_11 : decode cX6_thaw 11 = .ok (.aload_n 0, 1) := by decide +kernel
theorem dX6_thaw_12 : decode cX6_thaw 12 = .ok (.getfield 10, 3) := by decide +kernel
theorem dX6_thaw_15 : decode cX6_thaw 15 = .ok (.invokevirtual 77, 3) := by decide +kernel
theorem dX6_thaw_18 : decode cX6_thaw 18 = .ok (.ireturn, 1) := by decide +kernel
theorem dX6_hole_0 : decode cX6_hole 0 = .ok (.iload_n 1, 1) := by decide +kernel
theorem dX6_hole_1 : decode cX6_hole 1 = .ok (.iload_n 2, 1) := by decide +kernel
theorem dX6_hole_2 : decode cX6_hole 2 = .ok (.invokestatic 81, 3) := by decide +kernel
theorem dX6_hole_5 : decode cX6_hole 5 = .ok (.lstore_n 3, 1) := by decide +kernel
theorem dX6_hole_6 : decode cX6_hole 6 = .ok (.lload_n 3, 1) := by decide +kernel
theorem dX6_hole_7 : decode cX6_hole 7 = .ok (.lconst 0, 1) := by decide +kernel
theorem dX6_hole_8 : decode cX6_hole 8 = .ok (.lcmp, 1) := by decide +kernel
theorem dX6_hole_9 : decode cX6_hole 9 = .ok (.ifCond .ne 13, 3) := by decide +kernel
theorem dX6_hole_12 : decode cX6_hole 12 = .ok (.new 51, 3) := by decide +kernel
theorem dX6_hole_15 : decode cX6_hole 15 = .ok (.dup, 1) := by decide +kernel
theorem dX6_hole_16 : decode cX6_hole 16 = .ok (.ldc 85, 2) := by decide +kernel
theorem dX6_hole_18 : decode cX6_hole 18 = .ok (.invokespecial 55, 3) := by decide +kernel
theorem dX6_hole_21 : decode cX6_hole 21 = .ok (.athrow, 1) := by decide +kernel
theorem dX6_hole_22 : decode cX6_hole 22 = .ok (.aload_n 0, 1) := by decide +kernel
theorem dX6_hole_23 : decode cX6_hole 23 = .ok (.getfield 10, 3) := by decide +kernel
theorem dX6_hole_26 : decode cX6_hole 26 = .ok (.lload_n 3, 1) := by decide +kernel
theorem dX6_hole_27 : decode cX6_hole 27 = .ok (.invokevirtual 87, 3) := by decide +kernel
theorem dX6_hole_30 : decode cX6_hole 30 = .ok (.ifCond .ne 13, 3) := by decide +kernel
theorem dX6_hole_33 : decode cX6_hole 33 = .ok (.new 91, 3) := by decide +kernel
theorem dX6_hole_36 : decode cX6_hole 36 = .ok (.dup, 1) := by decide +kernel
theorem dX6_hole_37 : decode cX6_hole 37 = .ok (.ldc 93, 2) := by decide +kernel
theorem dX6_hole_39 : decode cX6_hole 39 = .ok (.invokespecial 95, 3) := by decide +kernel
theorem dX6_hole_42 : decode cX6_hole 42 = .ok (.athrow, 1) := by decide +kernel
theorem dX6_hole_43 : decode cX6_hole 43 = .ok (.aload_n 0, 1) := by decide +kernel
theorem dX6_hole_44 : decode cX6_hole 44 = .ok (.getfield 25, 3) := by decide +kernel
theorem dX6_hole_47 : decode cX6_hole 47 = .ok (.aload_n 0, 1) := by decide +kernel
theorem dX6_hole_48 : decode cX6_hole 48 = .ok (.getfield 10, 3) := by decide +kernel
theorem dX6_hole_51 : decode cX6_hole 51 = .ok (.invokevirtual 69, 3) := by decide +kernel
theorem dX6_hole_54 : decode cX6_hole 54 = .ok (.aload_n 0, 1) := by decide +kernel
theorem dX6_hole_55 : decode cX6_hole 55 = .ok (.getfield 10, 3) := by decide +kernel
theorem dX6_hole_58 : decode cX6_hole 58 = .ok (.lload_n 3, 1) := by decide +kernel
theorem dX6_hole_59 : decode cX6_hole 59 = .ok (.invokevirtual 96, 3) := by decide +kernel
theorem dX6_hole_62 : decode cX6_hole 62 = .ok (.istore 5, 2) := by decide +kernel
theorem dX6_hole_64 : decode cX6_hole 64 = .ok (.aload_n 0, 1) := by decide +kernel
theorem dX6_hole_65 : decode cX6_hole 65 = .ok (.getfield 10, 3) := by decide +kernel
theorem dX6_hole_68 : decode cX6_hole 68 = .ok (.lload_n 3, 1) := by decide +kernel
theorem dX6_hole_69 : decode cX6_hole 69 = .ok (.invokevirtual 100, 3) := by decide +kernel
theorem dX6_hole_72 : decode cX6_hole 72 = .ok (.iload 5, 2) := by decide +kernel
theorem dX6_hole_74 : decode cX6_hole 74 = .ok (.ireturn, 1) := by decide +kernel
theorem dX6_pay_0 : decode cX6_pay 0 = .ok (.iload_n 1, 1) := by decide +kernel
theorem dX6_pay_1 : decode cX6_pay 1 = .ok (.invokestatic 47, 3) := by decide +kernel
theorem dX6_pay_4 : decode cX6_pay 4 = .ok (.ifCond .ne 13, 3) := by decide +kernel
theorem dX6_pay_7 : decode cX6_pay 7 = .ok (.new 51, 3) := by decide +kernel
theorem dX6_pay_10 : decode cX6_pay 10 = .ok (.dup, 1) := by decide +kernel
theorem dX6_pay_11 : decode cX6_pay 11 = .ok (.ldc 53, 2) := by decide +kernel
theorem dX6_pay_13 : decode cX6_pay 13 = .ok (.invokespecial 55, 3) := by decide +kernel
theorem dX6_pay_16 : decode cX6_pay 16 = .ok (.athrow, 1) := by decide +kernel
theorem dX6_pay_17 : decode cX6_pay 17 = .ok (.iload_n 2, 1) := by decide +kernel
theorem dX6_pay_18 : decode cX6_pay 18 = .ok (.iconst 1, 1) := by decide +kernel
theorem dX6_pay_19 : decode cX6_pay 19 = .ok (.if_icmp .lt 9, 3) := by decide +kernel
theorem dX6_pay_22 : decode cX6_pay 22 = .ok (.iload_n 2, 1) := by decide +kernel
theorem dX6_pay_23 : decode cX6_pay 23 = .ok (.bipush 99, 2) := by decide +kernel
theorem dX6_pay_25 : decode cX6_pay 25 = .ok (.if_icmp .le 13, 3) := by decide +kernel
theorem dX6_pay_28 : decode cX6_pay 28 = .ok (.new 64, 3) := by decide +kernel
theorem dX6_pay_31 : decode cX6_pay 31 = .ok (.dup, 1) := by decide +kernel
theorem dX6_pay_32 : decode cX6_pay 32 = .ok (.ldc 104, 2) := by decide +kernel
theorem dX6_pay_34 : decode cX6_pay 34 = .ok (.invokespecial 68, 3) := by decide +kernel
theorem dX6_pay_37 : decode cX6_pay 37 = .ok (.athrow, 1) := by decide +kernel
theorem dX6_pay_38 : decode cX6_pay 38 = .ok (.aload_n 0, 1) := by decide +kernel
theorem dX6_pay_39 : decode cX6_pay 39 = .ok (.getfield 10, 3) := by decide +kernel
theorem dX6_pay_42 : decode cX6_pay 42 = .ok (.getfield 106, 3) := by decide +kernel
theorem dX6_pay_45 : decode cX6_pay 45 = .ok (.iload_n 2, 1) := by decide +kernel
theorem dX6_pay_46 : decode cX6_pay 46 = .ok (.iadd, 1) := by decide +kernel
theorem dX6_pay_47 : decode cX6_pay 47 = .ok (.sipush 9999, 3) := by decide +kernel
theorem dX6_pay_50 : decode cX6_pay 50 = .ok (.if_icmp .le 13, 3) := by decide +kernel
theorem dX6_pay_53 : decode cX6_pay 53 = .ok (.new 91, 3) := by decide +kernel
theorem dX6_pay_56 : decode cX6_pay 56 = .ok (.dup, 1) := by decide +kernel
theorem dX6_pay_57 : decode cX6_pay 57 = .ok (.ldc 110, 2) := by decide +kernel
theorem dX6_pay_59 : decode cX6_pay 59 = .ok (.invokespecial 95, 3) := by decide +kernel
theorem dX6_pay_62 : decode cX6_pay 62 = .ok (.athrow, 1) := by decide +kernel
theorem dX6_pay_63 : decode cX6_pay 63 = .ok (.aload_n 0, 1) := by decide +kernel
theorem dX6_pay_64 : decode cX6_pay 64 = .ok (.getfield 25, 3) := by decide +kernel
theorem dX6_pay_67 : decode cX6_pay 67 = .ok (.aload_n 0, 1) := by decide +kernel
theorem dX6_pay_68 : decode cX6_pay 68 = .ok (.getfield 10, 3) := by decide +kernel
theorem dX6_pay_71 : decode cX6_pay 71 = .ok (.invokevirtual 69, 3) := by decide +kernel
theorem dX6_pay_74 : decode cX6_pay 74 = .ok (.aload_n 0, 1) := by decide +kernel
theorem dX6_pay_75 : decode cX6_pay 75 = .ok (.getfield 10, 3) := by decide +kernel
theorem dX6_pay_78 : decode cX6_pay 78 = .ok (.getfield 112, 3) := by decide +kernel
theorem dX6_pay_81 : decode cX6_pay 81 = .ok (.iload_n 1, 1) := by decide +kernel
theorem dX6_pay_82 : decode cX6_pay 82 = .ok (.aaload, 1) := by decide +kernel
theorem dX6_pay_83 : decode cX6_pay 83 = .ok (.astore_n 3, 1) := by decide +kernel
theorem dX6_pay_84 : decode cX6_pay 84 = .ok (.aload_n 3, 1) := by decide +kernel
theorem dX6_pay_85 : decode cX6_pay 85 = .ok (.dup, 1) := by decide +kernel
theorem dX6_pay_86 : decode cX6_pay 86 = .ok (.getfield 116, 3) := by decide +kernel
theorem dX6_pay_89 : decode cX6_pay 89 = .ok (.iload_n 2, 1) := by decide +kernel
theorem dX6_pay_90 : decode cX6_pay 90 = .ok (.iadd, 1) := by decide +kernel
theorem dX6_pay_91 : decode cX6_pay 91 = .ok (.putfield 116, 3) := by decide +kernel
theorem dX6_pay_94 : decode cX6_pay 94 = .ok (.aload_n 0, 1) := by decide +kernel
theorem dX6_pay_95 : decode cX6_pay 95 = .ok (.getfield 10, 3) := by decide +kernel
theorem dX6_pay_98 : decode cX6_pay 98 = .ok (.dup, 1) := by decide +kernel
theorem dX6_pay_99 : decode cX6_pay 99 = .ok (.getfield 106, 3) := by decide +kernel
theorem dX6_pay_102 : decode cX6_pay 102 = .ok (.iload_n 2, 1) := by decide +kernel
theorem dX6_pay_103 : decode cX6_pay 103 = .ok (.iadd, 1) := by decide +kernel
theorem dX6_pay_104 : decode cX6_pay 104 = .ok (.putfield 106, 3) := by decide +kernel
theorem dX6_pay_107 : decode cX6_pay 107 = .ok (.aload_n 3, 1) := by decide +kernel
theorem dX6_pay_108 : decode cX6_pay 108 = .ok (.getfield 116, 3) := by decide +kernel
theorem dX6_pay_111 : decode cX6_pay 111 = .ok (.ireturn, 1) := by decide +kernel
theorem dX6_set_0 : decode cX6_set 0 = .ok (.iload_n 1, 1) := by decide +kernel
theorem dX6_set_1 : decode cX6_set 1 = .ok (.invokestatic 121, 3) := by decide +kernel
theorem dX6_set_4 : decode cX6_set 4 = .ok (.ifCond .ne 13, 3) := by decide +kernel
theorem dX6_set_7 : decode cX6_set 7 = .ok (.new 51, 3) := by decide +kernel
theorem dX6_set_10 : decode cX6_set 10 = .ok (.dup, 1) := by decide +kernel
theorem dX6_set_11 : decode cX6_set 11 = .ok (.ldc 124, 2) := by decide +kernel
theorem dX6_set_13 : decode cX6_set 13 = .ok (.invokespecial 55, 3) := by decide +kernel
theorem dX6_set_16 : decode cX6_set 16 = .ok (.athrow, 1) := by decide +kernel
theorem dX6_set_17 : decode cX6_set 17 = .ok (.iload_n 2, 1) := by decide +kernel
theorem dX6_set_18 : decode cX6_set 18 = .ok (.iload_n 1, 1) := by decide +kernel
theorem dX6_set_19 : decode cX6_set 19 = .ok (.invokestatic 126, 3) := by decide +kernel
theorem dX6_set_22 : decode cX6_set 22 = .ok (.if_icmp .lt 11, 3) := by decide +kernel
theorem dX6_set_25 : decode cX6_set 25 = .ok (.iload_n 2, 1) := by decide +kernel
theorem dX6_set_26 : decode cX6_set 26 = .ok (.iload_n 1, 1) := by decide +kernel
theorem dX6_set_27 : decode cX6_set 27 = .ok (.invokestatic 130, 3) := by decide +kernel
theorem dX6_set_30 : decode cX6_set 30 = .ok (.if_icmp .le 13, 3) := by decide +kernel
theorem dX6_set_33 : decode cX6_set 33 = .ok (.new 64, 3) := by decide +kernel
theorem dX6_set_36 : decode cX6_set 36 = .ok (.dup, 1) := by decide +kernel
theorem dX6_set_37 : decode cX6_set 37 = .ok (.ldc 133, 2) := by decide +kernel
theorem dX6_set_39 : decode cX6_set 39 = .ok (.invokespecial 68, 3) := by decide +kernel
theorem dX6_set_42 : decode cX6_set 42 = .ok (.athrow, 1) := by decide +kernel
theorem dX6_set_43 : decode cX6_set 43 = .ok (.aload_n 0, 1) := by decide +kernel
theorem dX6_set_44 : decode cX6_set 44 = .ok (.getfield 25, 3) := by decide +kernel
theorem dX6_set_47 : decode cX6_set 47 = .ok (.aload_n 0, 1) := by decide +kernel
theorem dX6_set_48 : decode cX6_set 48 = .ok (.getfield 10, 3) := by decide +kernel
theorem dX6_set_51 : decode cX6_set 51 = .ok (.invokevirtual 69, 3) := by decide +kernel
theorem dX6_set_54 : decode cX6_set 54 = .ok (.aload_n 0, 1) := by decide +kernel
theorem dX6_set_55 : decode cX6_set 55 = .ok (.getfield 10, 3) := by decide +kernel
theorem dX6_set_58 : decode cX6_set 58 = .ok (.getfield 135, 3) := by decide +kernel
theorem dX6_set_61 : decode cX6_set 61 = .ok (.iload_n 1, 1) := by decide +kernel
theorem dX6_set_62 : decode cX6_set 62 = .ok (.iaload, 1) := by decide +kernel
theorem dX6_set_63 : decode cX6_set 63 = .ok (.istore_n 3, 1) := by decide +kernel
theorem dX6_set_64 : decode cX6_set 64 = .ok (.aload_n 0, 1) := by decide +kernel
theorem dX6_set_65 : decode cX6_set 65 = .ok (.getfield 10, 3) := by decide +kernel
theorem dX6_set_68 : decode cX6_set 68 = .ok (.getfield 135, 3) := by decide +kernel
theorem dX6_set_71 : decode cX6_set 71 = .ok (.iload_n 1, 1) := by decide +kernel
theorem dX6_set_72 : decode cX6_set 72 = .ok (.iload_n 2, 1) := by decide +kernel
theorem dX6_set_73 : decode cX6_set 73 = .ok (.iastore, 1) := by decide +kernel
theorem dX6_set_74 : decode cX6_set 74 = .ok (.iload_n 3, 1) := by decide +kernel
theorem dX6_set_75 : decode cX6_set 75 = .ok (.ireturn, 1) := by decide +kernel
theorem dX6_append_0 : decode cX6_append 0 = .ok (.iload_n 1, 1) := by decide +kernel
theorem dX6_append_1 : decode cX6_append 1 = .ok (.bipush 33, 2) := by decide +kernel
theorem dX6_append_3 : decode cX6_append 3 = .ok (.if_icmp .lt 9, 3) := by decide +kernel
theorem dX6_append_6 : decode cX6_append 6 = .ok (.iload_n 1, 1) := by decide +kernel
theorem dX6_append_7 : decode cX6_append 7 = .ok (.bipush 126, 2) := by decide +kernel
theorem dX6_append_9 : decode cX6_append 9 = .ok (.if_icmp .le 13, 3) := by decide +kernel
theorem dX6_append_12 : decode cX6_append 12 = .ok (.new 64, 3) := by decide +kernel
theorem dX6_append_15 : decode cX6_append 15 = .ok (.dup, 1) := by decide +kernel
theorem dX6_append_16 : decode cX6_append 16 = .ok (.ldc 139, 2) := by decide +kernel
theorem dX6_append_18 : decode cX6_append 18 = .ok (.invokespecial 68, 3) := by decide +kernel
theorem dX6_append_21 : decode cX6_append 21 = .ok (.athrow, 1) := by decide +kernel
theorem dX6_append_22 : decode cX6_append 22 = .ok (.aload_n 0, 1) := by decide +kernel
theorem dX6_append_23 : decode cX6_append 23 = .ok (.getfield 32, 3) := by decide +kernel
theorem dX6_append_26 : decode cX6_append 26 = .ok (.invokevirtual 141, 3) := by decide +kernel
theorem dX6_append_29 : decode cX6_append 29 = .ok (.ifCond .eq 13, 3) := by decide +kernel
theorem dX6_append_32 : decode cX6_append 32 = .ok (.new 91, 3) := by decide +kernel
theorem dX6_append_35 : decode cX6_append 35 = .ok (.dup, 1) := by decide +kernel
theorem dX6_append_36 : decode cX6_append 36 = .ok (.ldc 145, 2) := by decide +kernel
theorem dX6_append_38 : decode cX6_append 38 = .ok (.invokespecial 95, 3) := by decide +kernel
theorem dX6_append_41 : decode cX6_append 41 = .ok (.athrow, 1) := by decide +kernel
theorem dX6_append_42 : decode cX6_append 42 = .ok (.aload_n 0, 1) := by decide +kernel
theorem dX6_append_43 : decode cX6_append 43 = .ok (.getfield 32, 3) := by decide +kernel
theorem dX6_append_46 : decode cX6_append 46 = .ok (.iload_n 1, 1) := by decide +kernel
theorem dX6_append_47 : decode cX6_append 47 = .ok (.invokevirtual 147, 3) := by decide +kernel
theorem dX6_append_50 : decode cX6_append 50 = .ok (.aload_n 0, 1) := by decide +kernel
theorem dX6_append_51 : decode cX6_append 51 = .ok (.getfield 32, 3) := by decide +kernel
theorem dX6_append_54 : decode cX6_append 54 = .ok (.getfield 151, 3) := by decide +kernel
theorem dX6_append_57 : decode cX6_append 57 = .ok (.ireturn, 1) := by decide +kernel
theorem dX6_clearBuffer_0 : decode cX6_clearBuffer 0 = .ok (.aload_n 0, 1) := by decide +kernel
theorem dX6_clearBuffer_1 : decode cX6_clearBuffer 1 = .ok (.getfield 32, 3) := by decide +kernel
theorem dX6_clearBuffer_4 : decode cX6_clearBuffer 4 = .ok (.getfield 151, 3) := by decide +kernel
theorem dX6_clearBuffer_7 : decode cX6_clearBuffer 7 = .ok (.istore_n 1, 1) := by decide +kernel
theorem dX6_clearBuffer_8 : decode cX6_clearBuffer 8 = .ok (.aload_n 0, 1) := by decide +kernel
theorem dX6_clearBuffer_9 : decode cX6_clearBuffer 9 = .ok (.getfield 32, 3) := by decide +kernel
theorem dX6_clearBuffer_12 : decode cX6_clearBuffer 12 = .ok (.iconst 0, 1) := by decide +kernel
theorem dX6_clearBuffer_13 : decode cX6_clearBuffer 13 = .ok (.putfield 151, 3) := by decide +kernel
theorem dX6_clearBuffer_16 : decode cX6_clearBuffer 16 = .ok (.iload_n 1, 1) := by decide +kernel
theorem dX6_clearBuffer_17 : decode cX6_clearBuffer 17 = .ok (.ireturn, 1) := by decide +kernel
theorem dX6_firstError_0 : decode cX6_firstError 0 = .ok (.aload_n 0, 1) := by decide +kernel
theorem dX6_firstError_1 : decode cX6_firstError 1 = .ok (.getfield 32, 3) := by decide +kernel
theorem dX6_firstError_4 : decode cX6_firstError 4 = .ok (.invokevirtual 154, 3) := by decide +kernel
theorem dX6_firstError_7 : decode cX6_firstError 7 = .ok (.ireturn, 1) := by decide +kernel
theorem dX6_play_0 : decode cX6_play 0 = .ok (.aload_n 0, 1) := by decide +kernel
theorem dX6_play_1 : decode cX6_play 1 = .ok (.getfield 32, 3) := by decide +kernel
theorem dX6_play_4 : decode cX6_play 4 = .ok (.invokevirtual 157, 3) := by decide +kernel
theorem dX6_play_7 : decode cX6_play 7 = .ok (.ifCond .ne 13, 3) := by decide +kernel
theorem dX6_play_10 : decode cX6_play 10 = .ok (.new 64, 3) := by decide +kernel
theorem dX6_play_13 : decode cX6_play 13 = .ok (.dup, 1) := by decide +kernel
theorem dX6_play_14 : decode cX6_play 14 = .ok (.ldc 160, 2) := by decide +kernel
theorem dX6_play_16 : decode cX6_play 16 = .ok (.invokespecial 68, 3) := by decide +kernel
theorem dX6_play_19 : decode cX6_play 19 = .ok (.athrow, 1) := by decide +kernel
theorem dX6_play_20 : decode cX6_play 20 = .ok (.aload_n 0, 1) := by decide +kernel
theorem dX6_play_21 : decode cX6_play 21 = .ok (.getfield 25, 3) := by decide +kernel
theorem dX6_play_24 : decode cX6_play 24 = .ok (.aload_n 0, 1) := by decide +kernel
theorem dX6_play_25 : decode cX6_play 25 = .ok (.getfield 10, 3) := by decide +kernel
theorem dX6_play_28 : decode cX6_play 28 = .ok (.invokevirtual 69, 3) := by decide +kernel
theorem dX6_play_31 : decode cX6_play 31 = .ok (.aload_n 0, 1) := by decide +kernel
theorem dX6_play_32 : decode cX6_play 32 = .ok (.getfield 32, 3) := by decide +kernel
theorem dX6_play_35 : decode cX6_play 35 = .ok (.aload_n 0, 1) := by decide +kernel
theorem dX6_play_36 : decode cX6_play 36 = .ok (.getfield 10, 3) := by decide +kernel
theorem dX6_play_39 : decode cX6_play 39 = .ok (.invokevirtual 162, 3) := by decide +kernel
theorem dX6_play_42 : decode cX6_play 42 = .ok (.istore_n 1, 1) := by decide +kernel
theorem dX6_play_43 : decode cX6_play 43 = .ok (.aload_n 0, 1) := by decide +kernel
theorem dX6_play_44 : decode cX6_play 44 = .ok (.getfield 32, 3) := by decide +kernel
theorem dX6_play_47 : decode cX6_play 47 = .ok (.iconst 0, 1) := by decide +kernel
theorem dX6_play_48 : decode cX6_play 48 = .ok (.putfield 151, 3) := by decide +kernel
theorem dX6_play_51 : decode cX6_play 51 = .ok (.iload_n 1, 1) := by decide +kernel
theorem dX6_play_52 : decode cX6_play 52 = .ok (.ireturn, 1) := by decide +kernel
theorem dX6_keep_0 : decode cX6_keep 0 = .ok (.aload_n 0, 1) := by decide +kernel
theorem dX6_keep_1 : decode cX6_keep 1 = .ok (.getfield 19, 3) := by decide +kernel
theorem dX6_keep_4 : decode cX6_keep 4 = .ok (.aload_n 0, 1) := by decide +kernel
theorem dX6_keep_5 : decode cX6_keep 5 = .ok (.getfield 10, 3) := by decide +kernel
theorem dX6_keep_8 : decode cX6_keep 8 = .ok (.invokevirtual 166, 3) := by decide +kernel
theorem dX6_keep_11 : decode cX6_keep 11 = .ok (.aload_n 0, 1) := by decide +kernel
theorem dX6_keep_12 : decode cX6_keep 12 = .ok (.iconst 1, 1) := by decide +kernel
theorem dX6_keep_13 : decode cX6_keep 13 = .ok (.putfield 43, 3) := by decide +kernel
theorem dX6_keep_16 : decode cX6_keep 16 = .ok (.aload_n 0, 1) := by decide +kernel
theorem dX6_keep_17 : decode cX6_keep 17 = .ok (.getfield 10, 3) := by decide +kernel
theorem dX6_keep_20 : decode cX6_keep 20 = .ok (.invokevirtual 169, 3) := by decide +kernel
theorem dX6_keep_23 : decode cX6_keep 23 = .ok (.ireturn, 1) := by decide +kernel
theorem dX6_goBack_0 : decode cX6_goBack 0 = .ok (.aload_n 0, 1) := by decide +kernel
theorem dX6_goBack_1 : decode cX6_goBack 1 = .ok (.getfield 43, 3) := by decide +kernel
theorem dX6_goBack_4 : decode cX6_goBack 4 = .ok (.ifCond .ne 13, 3) := by decide +kernel
theorem dX6_goBack_7 : decode cX6_goBack 7 = .ok (.new 91, 3) := by decide +kernel
theorem dX6_goBack_10 : decode cX6_goBack 10 = .ok (.dup, 1) := by decide +kernel
theorem dX6_goBack_11 : decode cX6_goBack 11 = .ok (.ldc 172, 2) := by decide +kernel
theorem dX6_goBack_13 : decode cX6_goBack 13 = .ok (.invokespecial 95, 3) := by decide +kernel
theorem dX6_goBack_16 : decode cX6_goBack 16 = .ok (.athrow, 1) := by decide +kernel
theorem dX6_goBack_17 : decode cX6_goBack 17 = .ok (.aload_n 0, 1) := by decide +kernel
theorem dX6_goBack_18 : decode cX6_goBack 18 = .ok (.getfield 25, 3) := by decide +kernel
theorem dX6_goBack_21 : decode cX6_goBack 21 = .ok (.aload_n 0, 1) := by decide +kernel
theorem dX6_goBack_22 : decode cX6_goBack 22 = .ok (.getfield 10, 3) := by decide +kernel
theorem dX6_goBack_25 : decode cX6_goBack 25 = .ok (.invokevirtual 69, 3) := by decide +kernel
theorem dX6_goBack_28 : decode cX6_goBack 28 = .ok (.aload_n 0, 1) := by decide +kernel
theorem dX6_goBack_29 : decode cX6_goBack 29 = .ok (.getfield 10, 3) := by decide +kernel
theorem dX6_goBack_32 : decode cX6_goBack 32 = .ok (.aload_n 0, 1) := by decide +kernel
theorem dX6_goBack_33 : decode cX6_goBack 33 = .ok (.getfield 19, 3) := by decide +kernel
theorem dX6_goBack_36 : decode cX6_goBack 36 = .ok (.invokevirtual 166, 3) := by decide +kernel
theorem dX6_goBack_39 : decode cX6_goBack 39 = .ok (.aload_n 0, 1) := by decide +kernel
theorem dX6_goBack_40 : decode cX6_goBack 40 = .ok (.getfield 10, 3) := by decide +kernel
theorem dX6_goBack_43 : decode cX6_goBack 43 = .ok (.invokevirtual 169, 3) := by decide +kernel
theorem dX6_goBack_46 : decode cX6_goBack 46 = .ok (.ireturn, 1) := by decide +kernel
theorem dX6_undo_0 : decode cX6_undo 0 = .ok (.aload_n 0, 1) := by decide +kernel
theorem dX6_undo_1 : decode cX6_undo 1 = .ok (.getfield 25, 3) := by decide +kernel
theorem dX6_undo_4 : decode cX6_undo 4 = .ok (.getfield 174, 3) := by decide +kernel
theorem dX6_undo_7 : decode cX6_undo 7 = .ok (.ifCond .ne 13, 3) := by decide +kernel
theorem dX6_undo_10 : decode cX6_undo 10 = .ok (.new 91, 3) := by decide +kernel
theorem dX6_undo_13 : decode cX6_undo 13 = .ok (.dup, 1) := by decide +kernel
theorem dX6_undo_14 : decode cX6_undo 14 = .ok (.ldc 177, 2) := by decide +kernel
theorem dX6_undo_16 : decode cX6_undo 16 = .ok (.invokespecial 95, 3) := by decide +kernel
theorem dX6_undo_19 : decode cX6_undo 19 = .ok (.athrow, 1) := by decide +kernel
theorem dX6_undo_20 : decode cX6_undo 20 = .ok (.aload_n 0, 1) := by decide +kernel
theorem dX6_undo_21 : decode cX6_undo 21 = .ok (.getfield 25, 3) := by decide +kernel
theorem dX6_undo_24 : decode cX6_undo 24 = .ok (.aload_n 0, 1) := by decide +kernel
theorem dX6_undo_25 : decode cX6_undo 25 = .ok (.getfield 10, 3) := by decide +kernel
theorem dX6_undo_28 : decode cX6_undo 28 = .ok (.invokevirtual 179, 3) := by decide +kernel
theorem dX6_undo_31 : decode cX6_undo 31 = .ok (.aload_n 0, 1) := by decide +kernel
theorem dX6_undo_32 : decode cX6_undo 32 = .ok (.getfield 25, 3) := by decide +kernel
theorem dX6_undo_35 : decode cX6_undo 35 = .ok (.getfield 174, 3) := by decide +kernel
theorem dX6_undo_38 : decode cX6_undo 38 = .ok (.ireturn, 1) := by decide +kernel
theorem dX6_cell_0 : decode cX6_cell 0 = .ok (.iload_n 1, 1) := by decide +kernel
theorem dX6_cell_1 : decode cX6_cell 1 = .ok (.iload_n 2, 1) := by decide +kernel
theorem dX6_cell_2 : decode cX6_cell 2 = .ok (.invokestatic 81, 3) := by decide +kernel
theorem dX6_cell_5 : decode cX6_cell 5 = .ok (.lstore 4, 2) := by decide +kernel
theorem dX6_cell_7 : decode cX6_cell 7 = .ok (.lload 4, 2) := by decide +kernel
theorem dX6_cell_9 : decode cX6_cell 9 = .ok (.lconst 0, 1) := by decide +kernel
theorem dX6_cell_10 : decode cX6_cell 10 = .ok (.lcmp, 1) := by decide +kernel
theorem dX6_cell_11 : decode cX6_cell 11 = .ok (.ifCond .ne 13, 3) := by decide +kernel
theorem dX6_cell_14 : decode cX6_cell 14 = .ok (.new 51, 3) := by decide +kernel
theorem dX6_cell_17 : decode cX6_cell 17 = .ok (.dup, 1) := by decide +kernel
theorem dX6_cell_18 : decode cX6_cell 18 = .ok (.ldc 85, 2) := by decide +kernel
theorem dX6_cell_20 : decode cX6_cell 20 = .ok (.invokespecial 55, 3) := by decide +kernel
theorem dX6_cell_23 : decode cX6_cell 23 = .ok (.athrow, 1) := by decide +kernel
theorem dX6_cell_24 : decode cX6_cell 24 = .ok (.iload_n 3, 1) := by decide +kernel
theorem dX6_cell_25 : decode cX6_cell 25 = .ok (.ifCond .lt 8, 3) := by decide +kernel
theorem dX6_cell_28 : decode cX6_cell 28 = .ok (.iload_n 3, 1) := by decide +kernel
theorem dX6_cell_29 : decode cX6_cell 29 = .ok (.iconst 5, 1) := by decide +kernel
theorem dX6_cell_30 : decode cX6_cell 30 = .ok (.if_icmp .le 13, 3) := by decide +kernel
theorem dX6_cell_33 : decode cX6_cell 33 = .ok (.new 64, 3) := by decide +kernel
theorem dX6_cell_36 : decode cX6_cell 36 = .ok (.dup, 1) := by decide +kernel
theorem dX6_cell_37 : decode cX6_cell 37 = .ok (.ldc 182, 2) := by decide +kernel
theorem dX6_cell_39 : decode cX6_cell 39 = .ok (.invokespecial 68, 3) := by decide +kernel
theorem dX6_cell_42 : decode cX6_cell 42 = .ok (.athrow, 1) := by decide +kernel
theorem dX6_cell_43 : decode cX6_cell 43 = .ok (.aload_n 0, 1) := by decide +kernel
theorem dX6_cell_44 : decode cX6_cell 44 = .ok (.lload 4, 2) := by decide +kernel
theorem dX6_cell_46 : decode cX6_cell 46 = .ok (.iload_n 3, 1) := by decide +kernel
theorem dX6_cell_47 : decode cX6_cell 47 = .ok (.invokevirtual 184, 3) := by decide +kernel
theorem dX6_cell_50 : decode cX6_cell 50 = .ok (.ireturn, 1) := by decide +kernel
theorem dX6_line_0 : decode cX6_line 0 = .ok (.iload_n 3, 1) := by decide +kernel
theorem dX6_line_1 : decode cX6_line 1 = .ok (.iconst 1, 1) := by decide +kernel
theorem dX6_line_2 : decode cX6_line 2 = .ok (.if_icmp .eq 8, 3) := by decide +kernel
theorem dX6_line_5 : decode cX6_line 5 = .ok (.iload_n 3, 1) := by decide +kernel
theorem dX6_line_6 : decode cX6_line 6 = .ok (.iconst 2, 1) := by decide +kernel
theorem dX6_line_7 : decode cX6_line 7 = .ok (.if_icmp .ne 7, 3) := by decide +kernel
theorem dX6_line_10 : decode cX6_line 10 = .ok (.iconst 1, 1) := by decide +kernel
theorem dX6_line_11 : decode cX6_line 11 = .ok (.goto 4, 3) := by decide +kernel
theorem dX6_line_14 : decode cX6_line 14 = .ok (.iconst 0, 1) := by decide +kernel
theorem dX6_line_15 : decode cX6_line 15 = .ok (.istore 5, 2) := by decide +kernel
theorem dX6_line_17 : decode cX6_line 17 = .ok (.iload_n 1, 1) := by decide +kernel
theorem dX6_line_18 : decode cX6_line 18 = .ok (.iload_n 2, 1) := by decide +kernel
theorem dX6_line_19 : decode cX6_line 19 = .ok (.iload_n 3, 1) := by decide +kernel
theorem dX6_line_20 : decode cX6_line 20 = .ok (.invokestatic 188, 3) := by decide +kernel
theorem dX6_line_23 : decode cX6_line 23 = .ok (.istore 6, 2) := by decide +kernel
theorem dX6_line_25 : decode cX6_line 25 = .ok (.iload_n 1, 1) := by decide +kernel
theorem dX6_line_26 : decode cX6_line 26 = .ok (.iload_n 2, 1) := by decide +kernel
theorem dX6_line_27 : decode cX6_line 27 = .ok (.invokestatic 193, 3) := by decide +kernel
theorem dX6_line_30 : decode cX6_line 30 = .ok (.ifCond .eq 14, 3) := by decide +kernel
theorem dX6_line_33 : decode cX6_line 33 = .ok (.iload 5, 2) := by decide +kernel
theorem dX6_line_35 : decode cX6_line 35 = .ok (.ifCond .eq 19, 3) := by decide +kernel
theorem dX6_line_38 : decode cX6_line 38 = .ok (.iload 6, 2) := by decide +kernel
theorem dX6_line_40 : decode cX6_line 40 = .ok (.iconst (-1), 1) := by decide +kernel
theorem dX6_line_41 : decode cX6_line 41 = .ok (.if_icmp .ne 13, 3) := by decide +kernel
theorem dX6_line_44 : decode cX6_line 44 = .ok (.new 51, 3) := by decide +kernel
theorem dX6_line_47 : decode cX6_line 47 = .ok (.dup, 1) := by decide +kernel
theorem dX6_line_48 : decode cX6_line 48 = .ok (.ldc 197, 2) := by decide +kernel
theorem dX6_line_50 : decode cX6_line 50 = .ok (.invokespecial 55, 3) := by decide +kernel
theorem dX6_line_53 : decode cX6_line 53 = .ok (.athrow, 1) := by decide +kernel
theorem dX6_line_54 : decode cX6_line 54 = .ok (.iload 5, 2) := by decide +kernel
theorem dX6_line_56 : decode cX6_line 56 = .ok (.ifCond .eq 14, 3) := by decide +kernel
theorem dX6_line_59 : decode cX6_line 59 = .ok (.iload 4, 2) := by decide +kernel
theorem dX6_line_61 : decode cX6_line 61 = .ok (.ifCond .lt 9, 3) := by decide +kernel
theorem dX6_line_64 : decode cX6_line 64 = .ok (.iload 4, 2) := by decide +kernel
theorem dX6_line_66 : decode cX6_line 66 = .ok (.iconst 2, 1) := by decide +kernel
theorem dX6_line_67 : decode cX6_line 67 = .ok (.if_icmp .le 13, 3) := by decide +kernel
theorem dX6_line_70 : decode cX6_line 70 = .ok (.new 64, 3) := by decide +kernel
theorem dX6_line_73 : decode cX6_line 73 = .ok (.dup, 1) := by decide +kernel
theorem dX6_line_74 : decode cX6_line 74 = .ok (.ldc 199, 2) := by decide +kernel
theorem dX6_line_76 : decode cX6_line 76 = .ok (.invokespecial 68, 3) := by decide +kernel
theorem dX6_line_79 : decode cX6_line 79 = .ok (.athrow, 1) := by decide +kernel
theorem dX6_line_80 : decode cX6_line 80 = .ok (.aload_n 0, 1) := by decide +kernel
theorem dX6_line_81 : decode cX6_line 81 = .ok (.iload 6, 2) := by decide +kernel
theorem dX6_line_83 : decode cX6_line 83 = .ok (.iload 4, 2) := by decide +kernel
theorem dX6_line_85 : decode cX6_line 85 = .ok (.invokevirtual 201, 3) := by decide +kernel
theorem dX6_line_88 : decode cX6_line 88 = .ok (.ireturn, 1) := by decide +kernel
theorem dX6_skater_0 : decode cX6_skater 0 = .ok (.iload_n 1, 1) := by decide +kernel
theorem dX6_skater_1 : decode cX6_skater 1 = .ok (.invokestatic 47, 3) := by decide +kernel
theorem dX6_skater_4 : decode cX6_skater 4 = .ok (.ifCond .ne 13, 3) := by decide +kernel
theorem dX6_skater_7 : decode cX6_skater 7 = .ok (.new 51, 3) := by decide +kernel
theorem dX6_skater_10 : decode cX6_skater 10 = .ok (.dup, 1) := by decide +kernel
theorem dX6_skater_11 : decode cX6_skater 11 = .ok (.ldc 53, 2) := by decide +kernel
theorem dX6_skater_13 : decode cX6_skater 13 = .ok (.invokespecial 55, 3) := by decide +kernel
theorem dX6_skater_16 : decode cX6_skater 16 = .ok (.athrow, 1) := by decide +kernel
theorem dX6_skater_17 : decode cX6_skater 17 = .ok (.iload_n 2, 1) := by decide +kernel
theorem dX6_skater_18 : decode cX6_skater 18 = .ok (.ifCond .lt 9, 3) := by decide +kernel
theorem dX6_skater_21 : decode cX6_skater 21 = .ok (.iload_n 2, 1) := by decide +kernel
theorem dX6_skater_22 : decode cX6_skater 22 = .ok (.bipush 8, 2) := by decide +kernel
theorem dX6_skater_24 : decode cX6_skater 24 = .ok (.if_icmp .le 13, 3) := by decide +kernel
theorem dX6_skater_27 : decode cX6_skater 27 = .ok (.new 64, 3) := by decide +kernel
theorem dX6_skater_30 : decode cX6_skater 30 = .ok (.dup, 1) := by decide +kernel
theorem dX6_skater_31 : decode cX6_skater 31 = .ok (.ldc 182, 2) := by decide +kernel
theorem dX6_skater_33 : decode cX6_skater 33 = .ok (.invokespecial 68, 3) := by decide +kernel
theorem dX6_skater_36 : decode cX6_skater 36 = .ok (.athrow, 1) := by decide +kernel
theorem dX6_skater_37 : decode cX6_skater 37 = .ok (.aload_n 0, 1) := by decide +kernel
theorem dX6_skater_38 : decode cX6_skater 38 = .ok (.iload_n 1, 1) := by decide +kernel
theorem dX6_skater_39 : decode cX6_skater 39 = .ok (.iload_n 2, 1) := by decide +kernel
theorem dX6_skater_40 : decode cX6_skater 40 = .ok (.invokevirtual 205, 3) := by decide +kernel
theorem dX6_skater_43 : decode cX6_skater 43 = .ok (.ireturn, 1) := by decide +kernel
theorem dX6_rink_0 : decode cX6_rink 0 = .ok (.iload_n 1, 1) := by decide +kernel
theorem dX6_rink_1 : decode cX6_rink 1 = .ok (.ifCond .ge 13, 3) := by decide +kernel
theorem dX6_rink_4 : decode cX6_rink 4 = .ok (.new 51, 3) := by decide +kernel
theorem dX6_rink_7 : decode cX6_rink 7 = .ok (.dup, 1) := by decide +kernel
theorem dX6_rink_8 : decode cX6_rink 8 = .ok (.ldc 208, 2) := by decide +kernel
theorem dX6_rink_10 : decode cX6_rink 10 = .ok (.invokespecial 55, 3) := by decide +kernel
theorem dX6_rink_13 : decode cX6_rink 13 = .ok (.athrow, 1) := by decide +kernel
theorem dX6_rink_14 : decode cX6_rink 14 = .ok (.iload_n 2, 1) := by decide +kernel
theorem dX6_rink_15 : decode cX6_rink 15 = .ok (.ifCond .lt 8, 3) := by decide +kernel
theorem dX6_rink_18 : decode cX6_rink 18 = .ok (.iload_n 2, 1) := by decide +kernel
theorem dX6_rink_19 : decode cX6_rink 19 = .ok (.iconst 2, 1) := by decide +kernel
theorem dX6_rink_20 : decode cX6_rink 20 = .ok (.if_icmp .le 13, 3) := by decide +kernel
theorem dX6_rink_23 : decode cX6_rink 23 = .ok (.new 64, 3) := by decide +kernel
theorem dX6_rink_26 : decode cX6_rink 26 = .ok (.dup, 1) := by decide +kernel
theorem dX6_rink_27 : decode cX6_rink 27 = .ok (.ldc 182, 2) := by decide +kernel
theorem dX6_rink_29 : decode cX6_rink 29 = .ok (.invokespecial 68, 3) := by decide +kernel
theorem dX6_rink_32 : decode cX6_rink 32 = .ok (.athrow, 1) := by decide +kernel
theorem dX6_rink_33 : decode cX6_rink 33 = .ok (.aload_n 0, 1) := by decide +kernel
theorem dX6_rink_34 : decode cX6_rink 34 = .ok (.getfield 10, 3) := by decide +kernel
theorem dX6_rink_37 : decode cX6_rink 37 = .ok (.iload_n 1, 1) := by decide +kernel
theorem dX6_rink_38 : decode cX6_rink 38 = .ok (.invokevirtual 210, 3) := by decide +kernel
theorem dX6_rink_41 : decode cX6_rink 41 = .ok (.lstore_n 3, 1) := by decide +kernel
theorem dX6_rink_42 : decode cX6_rink 42 = .ok (.lload_n 3, 1) := by decide +kernel
theorem dX6_rink_43 : decode cX6_rink 43 = .ok (.lconst 0, 1) := by decide +kernel
theorem dX6_rink_44 : decode cX6_rink 44 = .ok (.lcmp, 1) := by decide +kernel
theorem dX6_rink_45 : decode cX6_rink 45 = .ok (.ifCond .ne 7, 3) := by decide +kernel
theorem dX6_rink_48 : decode cX6_rink 48 = .ok (.iconst (-1), 1) := by decide +kernel
theorem dX6_rink_49 : decode cX6_rink 49 = .ok (.goto 9, 3) := by decide +kernel
theorem dX6_rink_52 : decode cX6_rink 52 = .ok (.aload_n 0, 1) := by decide +kernel
theorem dX6_rink_53 : decode cX6_rink 53 = .ok (.lload_n 3, 1) := by decide +kernel
theorem dX6_rink_54 : decode cX6_rink 54 = .ok (.iload_n 2, 1) := by decide +kernel
theorem dX6_rink_55 : decode cX6_rink 55 = .ok (.invokevirtual 214, 3) := by decide +kernel
theorem dX6_rink_58 : decode cX6_rink 58 = .ok (.ireturn, 1) := by decide +kernel
theorem dX6_count_0 : decode cX6_count 0 = .ok (.iload_n 1, 1) := by decide +kernel
theorem dX6_count_1 : decode cX6_count 1 = .ok (.ifCond .lt 9, 3) := by decide +kernel
theorem dX6_count_4 : decode cX6_count 4 = .ok (.iload_n 1, 1) := by decide +kernel
theorem dX6_count_5 : decode cX6_count 5 = .ok (.bipush 11, 2) := by decide +kernel
theorem dX6_count_7 : decode cX6_count 7 = .ok (.if_icmp .le 13, 3) := by decide +kernel
theorem dX6_count_10 : decode cX6_count 10 = .ok (.new 64, 3) := by decide +kernel
theorem dX6_count_13 : decode cX6_count 13 = .ok (.dup, 1) := by decide +kernel
theorem dX6_count_14 : decode cX6_count 14 = .ok (.ldc 182, 2) := by decide +kernel
theorem dX6_count_16 : decode cX6_count 16 = .ok (.invokespecial 68, 3) := by decide +kernel
theorem dX6_count_19 : decode cX6_count 19 = .ok (.athrow, 1) := by decide +kernel
theorem dX6_count_20 : decode cX6_count 20 = .ok (.aload_n 0, 1) := by decide +kernel
theorem dX6_count_21 : decode cX6_count 21 = .ok (.iload_n 1, 1) := by decide +kernel
theorem dX6_count_22 : decode cX6_count 22 = .ok (.invokevirtual 217, 3) := by decide +kernel
theorem dX6_count_25 : decode cX6_count 25 = .ok (.ireturn, 1) := by decide +kernel
theorem dX6_setting_0 : decode cX6_setting 0 = .ok (.iload_n 1, 1) := by decide +kernel
theorem dX6_setting_1 : decode cX6_setting 1 = .ok (.invokestatic 121, 3) := by decide +kernel
theorem dX6_setting_4 : decode cX6_setting 4 = .ok (.ifCond .ne 13, 3) := by decide +kernel
theorem dX6_setting_7 : decode cX6_setting 7 = .ok (.new 51, 3) := by decide +kernel
theorem dX6_setting_10 : decode cX6_setting 10 = .ok (.dup, 1) := by decide +kernel
theorem dX6_setting_11 : decode cX6_setting 11 = .ok (.ldc 124, 2) := by decide +kernel
theorem dX6_setting_13 : decode cX6_setting 13 = .ok (.invokespecial 55, 3) := by decide +kernel
theorem dX6_setting_16 : decode cX6_setting 16 = .ok (.athrow, 1) := by decide +kernel
theorem dX6_setting_17 : decode cX6_setting 17 = .ok (.aload_n 0, 1) := by decide +kernel
theorem dX6_setting_18 : decode cX6_setting 18 = .ok (.getfield 10, 3) := by decide +kernel
theorem dX6_setting_21 : decode cX6_setting 21 = .ok (.getfield 135, 3) := by decide +kernel
theorem dX6_setting_24 : decode cX6_setting 24 = .ok (.iload_n 1, 1) := by decide +kernel
theorem dX6_setting_25 : decode cX6_setting 25 = .ok (.iaload, 1) := by decide +kernel
theorem dX6_setting_26 : decode cX6_setting 26 = .ok (.ireturn, 1) := by decide +kernel
theorem dX6_why_0 : decode cX6_why 0 = .ok (.iload_n 1, 1) := by decide +kernel
theorem dX6_why_1 : decode cX6_why 1 = .ok (.invokestatic 47, 3) := by decide +kernel
theorem dX6_why_4 : decode cX6_why 4 = .ok (.ifCond .ne 13, 3) := by decide +kernel
theorem dX6_why_7 : decode cX6_why 7 = .ok (.new 51, 3) := by decide +kernel
theorem dX6_why_10 : decode cX6_why 10 = .ok (.dup, 1) := by decide +kernel
theorem dX6_why_11 : decode cX6_why 11 = .ok (.ldc 53, 2) := by decide +kernel
theorem dX6_why_13 : decode cX6_why 13 = .ok (.invokespecial 55, 3) := by decide +kernel
theorem dX6_why_16 : decode cX6_why 16 = .ok (.athrow, 1) := by decide +kernel
theorem dX6_why_17 : decode cX6_why 17 = .ok (.iload_n 2, 1) := by decide +kernel
theorem dX6_why_18 : decode cX6_why 18 = .ok (.invokestatic 58, 3) := by decide +kernel
theorem dX6_why_21 : decode cX6_why 21 = .ok (.ifCond .ne 13, 3) := by decide +kernel
theorem dX6_why_24 : decode cX6_why 24 = .ok (.new 64, 3) := by decide +kernel
theorem dX6_why_27 : decode cX6_why 27 = .ok (.dup, 1) := by decide +kernel
theorem dX6_why_28 : decode cX6_why 28 = .ok (.ldc 220, 2) := by decide +kernel
theorem dX6_why_30 : decode cX6_why 30 = .ok (.invokespecial 68, 3) := by decide +kernel
theorem dX6_why_33 : decode cX6_why 33 = .ok (.athrow, 1) := by decide +kernel
theorem dX6_why_34 : decode cX6_why 34 = .ok (.aload_n 0, 1) := by decide +kernel
theorem dX6_why_35 : decode cX6_why 35 = .ok (.getfield 10, 3) := by decide +kernel
theorem dX6_why_38 : decode cX6_why 38 = .ok (.iload_n 1, 1) := by decide +kernel
theorem dX6_why_39 : decode cX6_why 39 = .ok (.iload_n 2, 1) := by decide +kernel
theorem dX6_why_40 : decode cX6_why 40 = .ok (.invokevirtual 222, 3) := by decide +kernel
theorem dX6_why_43 : decode cX6_why 43 = .ok (.ireturn, 1) := by decide +kernel
theorem dX6_ifGlided_0 : decode cX6_ifGlided 0 = .ok (.iload_n 1, 1) := by decide +kernel
theorem dX6_ifGlided_1 : decode cX6_ifGlided 1 = .ok (.invokestatic 47, 3) := by decide +kernel
theorem dX6_ifGlided_4 : decode cX6_ifGlided 4 = .ok (.ifCond .ne 13, 3) := by decide +kernel
theorem dX6_ifGlided_7 : decode cX6_ifGlided 7 = .ok (.new 51, 3) := by decide +kernel
theorem dX6_ifGlided_10 : decode cX6_ifGlided 10 = .ok (.dup, 1) := by decide +kernel
theorem dX6_ifGlided_11 : decode cX6_ifGlided 11 = .ok (.ldc 53, 2) := by decide +kernel
theorem dX6_ifGlided_13 : decode cX6_ifGlided 13 = .ok (.invokespecial 55, 3) := by decide +kernel
theorem dX6_ifGlided_16 : decode cX6_ifGlided 16 = .ok (.athrow, 1) := by decide +kernel
theorem dX6_ifGlided_17 : decode cX6_ifGlided 17 = .ok (.iload_n 2, 1) := by decide +kernel
theorem dX6_ifGlided_18 : decode cX6_ifGlided 18 = .ok (.invokestatic 58, 3) := by decide +kernel
theorem dX6_ifGlided_21 : decode cX6_ifGlided 21 = .ok (.ifCond .eq 21, 3) := by decide +kernel
theorem dX6_ifGlided_24 : decode cX6_ifGlided 24 = .ok (.iload_n 3, 1) := by decide +kernel
theorem dX6_ifGlided_25 : decode cX6_ifGlided 25 = .ok (.invokestatic 61, 3) := by decide +kernel
theorem dX6_ifGlided_28 : decode cX6_ifGlided 28 = .ok (.ifCond .eq 14, 3) := by decide +kernel
theorem dX6_ifGlided_31 : decode cX6_ifGlided 31 = .ok (.iload 4, 2) := by decide +kernel
theorem dX6_ifGlided_33 : decode cX6_ifGlided 33 = .ok (.ifCond .lt 9, 3) := by decide +kernel
theorem dX6_ifGlided_36 : decode cX6_ifGlided 36 = .ok (.iload 4, 2) := by decide +kernel
theorem dX6_ifGlided_38 : decode cX6_ifGlided 38 = .ok (.iconst 3, 1) := by decide +kernel
theorem dX6_ifGlided_39 : decode cX6_ifGlided 39 = .ok (.if_icmp .le 13, 3) := by decide +kernel
theorem dX6_ifGlided_42 : decode cX6_ifGlided 42 = .ok (.new 64, 3) := by decide +kernel
theorem dX6_ifGlided_45 : decode cX6_ifGlided 45 = .ok (.dup, 1) := by decide +kernel
theorem dX6_ifGlided_46 : decode cX6_ifGlided 46 = .ok (.ldc 225, 2) := by decide +kernel
theorem dX6_ifGlided_48 : decode cX6_ifGlided 48 = .ok (.invokespecial 68, 3) := by decide +kernel
theorem dX6_ifGlided_51 : decode cX6_ifGlided 51 = .ok (.athrow, 1) := by decide +kernel
theorem dX6_ifGlided_52 : decode cX6_ifGlided 52 = .ok (.aload_n 0, 1) := by decide +kernel
theorem dX6_ifGlided_53 : decode cX6_ifGlided 53 = .ok (.getfield 16, 3) := by decide +kernel
theorem dX6_ifGlided_56 : decode cX6_ifGlided 56 = .ok (.aload_n 0, 1) := by decide +kernel
theorem dX6_ifGlided_57 : decode cX6_ifGlided 57 = .ok (.getfield 10, 3) := by decide +kernel
theorem dX6_ifGlided_60 : decode cX6_ifGlided 60 = .ok (.invokevirtual 166, 3) := by decide +kernel
theorem dX6_ifGlided_63 : decode cX6_ifGlided 63 = .ok (.aload_n 0, 1) := by decide +kernel
theorem dX6_ifGlided_64 : decode cX6_ifGlided 64 = .ok (.getfield 16, 3) := by decide +kernel
theorem dX6_ifGlided_67 : decode cX6_ifGlided 67 = .ok (.iload_n 1, 1) := by decide +kernel
theorem dX6_ifGlided_68 : decode cX6_ifGlided 68 = .ok (.iload_n 2, 1) := by decide +kernel
theorem dX6_ifGlided_69 : decode cX6_ifGlided 69 = .ok (.iload_n 3, 1) := by decide +kernel
theorem dX6_ifGlided_70 : decode cX6_ifGlided 70 = .ok (.invokevirtual 73, 3) := by decide +kernel
theorem dX6_ifGlided_73 : decode cX6_ifGlided 73 = .ok (.istore 5, 2) := by decide +kernel
theorem dX6_ifGlided_75 : decode cX6_ifGlided 75 = .ok (.iload 4, 2) := by decide +kernel
theorem dX6_ifGlided_77 : decode cX6_ifGlided 77 = .ok (.tableswitch 82 0 2 #[27, 30, 56], 27) := by decide +kernel
theorem dX6_ifGlided_104 : decode cX6_ifGlided 104 = .ok (.iload 5, 2) := by decide +kernel
theorem dX6_ifGlided_106 : decode cX6_ifGlided 106 = .ok (.ireturn, 1) := by decide +kernel
theorem dX6_ifGlided_107 : decode cX6_ifGlided 107 = .ok (.aload_n 0, 1) := by decide +kernel
theorem dX6_ifGlided_108 : decode cX6_ifGlided 108 = .ok (.getfield 16, 3) := by decide +kernel
theorem dX6_ifGlided_111 : decode cX6_ifGlided 111 = .ok (.getfield 112, 3) := by decide +kernel
theorem dX6_ifGlided_114 : decode cX6_ifGlided 114 = .ok (.iload_n 1, 1) := by decide +kernel
theorem dX6_ifGlided_115 : decode cX6_ifGlided 115 = .ok (.aaload, 1) := by decide +kernel
theorem dX6_ifGlided_116 : decode cX6_ifGlided 116 = .ok (.invokevirtual 227, 3) := by decide +kernel
theorem dX6_ifGlided_119 : decode cX6_ifGlided 119 = .ok (.aload_n 0, 1) := by decide +kernel
theorem dX6_ifGlided_120 : decode cX6_ifGlided 120 = .ok (.getfield 10, 3) := by decide +kernel
theorem dX6_ifGlided_123 : decode cX6_ifGlided 123 = .ok (.getfield 112, 3) := by decide +kernel
theorem dX6_ifGlided_126 : decode cX6_ifGlided 126 = .ok (.iload_n 1, 1) := by decide +kernel
theorem dX6_ifGlided_127 : decode cX6_ifGlided 127 = .ok (.aaload, 1) := by decide +kernel
theorem dX6_ifGlided_128 : decode cX6_ifGlided 128 = .ok (.invokevirtual 227, 3) := by decide +kernel
theorem dX6_ifGlided_131 : decode cX6_ifGlided 131 = .ok (.isub, 1) := by decide +kernel
theorem dX6_ifGlided_132 : decode cX6_ifGlided 132 = .ok (.ireturn, 1) := by decide +kernel
theorem dX6_ifGlided_133 : decode cX6_ifGlided 133 = .ok (.aload_n 0, 1) := by decide +kernel
theorem dX6_ifGlided_134 : decode cX6_ifGlided 134 = .ok (.getfield 16, 3) := by decide +kernel
theorem dX6_ifGlided_137 : decode cX6_ifGlided 137 = .ok (.getfield 112, 3) := by decide +kernel
theorem dX6_ifGlided_140 : decode cX6_ifGlided 140 = .ok (.iload_n 1, 1) := by decide +kernel
theorem dX6_ifGlided_141 : decode cX6_ifGlided 141 = .ok (.aaload, 1) := by decide +kernel
theorem dX6_ifGlided_142 : decode cX6_ifGlided 142 = .ok (.getfield 230, 3) := by decide +kernel
theorem dX6_ifGlided_145 : decode cX6_ifGlided 145 = .ok (.aload_n 0, 1) := by decide +kernel
theorem dX6_ifGlided_146 : decode cX6_ifGlided 146 = .ok (.getfield 10, 3) := by decide +kernel
theorem dX6_ifGlided_149 : decode cX6_ifGlided 149 = .ok (.getfield 112, 3) := by decide +kernel
theorem dX6_ifGlided_152 : decode cX6_ifGlided 152 = .ok (.iload_n 1, 1) := by decide +kernel
theorem dX6_ifGlided_153 : decode cX6_ifGlided 153 = .ok (.aaload, 1) := by decide +kernel
theorem dX6_ifGlided_154 : decode cX6_ifGlided 154 = .ok (.getfield 230, 3) := by decide +kernel
theorem dX6_ifGlided_157 : decode cX6_ifGlided 157 = .ok (.isub, 1) := by decide +kernel
theorem dX6_ifGlided_158 : decode cX6_ifGlided 158 = .ok (.ireturn, 1) := by decide +kernel
theorem dX6_ifGlided_159 : decode cX6_ifGlided 159 = .ok (.aload_n 0, 1) := by decide +kernel
theorem dX6_ifGlided_160 : decode cX6_ifGlided 160 = .ok (.getfield 16, 3) := by decide +kernel
theorem dX6_ifGlided_163 : decode cX6_ifGlided 163 = .ok (.invokevirtual 233, 3) := by decide +kernel
theorem dX6_ifGlided_166 : decode cX6_ifGlided 166 = .ok (.ireturn, 1) := by decide +kernel
theorem dX6_best_0 : decode cX6_best 0 = .ok (.iload_n 1, 1) := by decide +kernel
theorem dX6_best_1 : decode cX6_best 1 = .ok (.invokestatic 47, 3) := by decide +kernel
theorem dX6_best_4 : decode cX6_best 4 = .ok (.ifCond .ne 13, 3) := by decide +kernel
theorem dX6_best_7 : decode cX6_best 7 = .ok (.new 51, 3) := by decide +kernel
theorem dX6_best_10 : decode cX6_best 10 = .ok (.dup, 1) := by decide +kernel
theorem dX6_best_11 : decode cX6_best 11 = .ok (.ldc 53, 2) := by decide +kernel
theorem dX6_best_13 : decode cX6_best 13 = .ok (.invokespecial 55, 3) := by decide +kernel
theorem dX6_best_16 : decode cX6_best 16 = .ok (.athrow, 1) := by decide +kernel
theorem dX6_best_17 : decode cX6_best 17 = .ok (.aload_n 0, 1) := by decide +kernel
theorem dX6_best_18 : decode cX6_best 18 = .ok (.iload_n 1, 1) := by decide +kernel
theorem dX6_best_19 : decode cX6_best 19 = .ok (.invokevirtual 236, 3) := by decide +kernel
theorem dX6_best_22 : decode cX6_best 22 = .ok (.ireturn, 1) := by decide +kernel
theorem dX6_calm_0 : decode cX6_calm 0 = .ok (.aload_n 0, 1) := by decide +kernel
theorem dX6_calm_1 : decode cX6_calm 1 = .ok (.getfield 10, 3) := by decide +kernel
theorem dX6_calm_4 : decode cX6_calm 4 = .ok (.invokevirtual 239, 3) := by decide +kernel
theorem dX6_calm_7 : decode cX6_calm 7 = .ok (.ireturn, 1) := by decide +kernel
theorem dX6_ownedShare_0 : decode cX6_ownedShare 0 = .ok (.aload_n 0, 1) := by decide +kernel
theorem dX6_ownedShare_1 : decode cX6_ownedShare 1 = .ok (.getfield 10, 3) := by decide +kernel
theorem dX6_ownedShare_4 : decode cX6_ownedShare 4 = .ok (.invokevirtual 169, 3) := by decide +kernel
theorem dX6_ownedShare_7 : decode cX6_ownedShare 7 = .ok (.istore_n 1, 1) := by decide +kernel
theorem dX6_ownedShare_8 : decode cX6_ownedShare 8 = .ok (.iload_n 1, 1) := by decide +kernel
theorem dX6_ownedShare_9 : decode cX6_ownedShare 9 = .ok (.ifCond .ne 7, 3) := by decide +kernel
theorem dX6_ownedShare_12 : decode cX6_ownedShare 12 = .ok (.dconst 0, 1) := by decide +kernel
theorem dX6_ownedShare_13 : decode cX6_ownedShare 13 = .ok (.goto 14, 3) := by decide +kernel
theorem dX6_ownedShare_16 : decode cX6_ownedShare 16 = .ok (.aload_n 0, 1) := by decide +kernel
theorem dX6_ownedShare_17 : decode cX6_ownedShare 17 = .ok (.getfield 10, 3) := by decide +kernel
theorem dX6_ownedShare_20 : decode cX6_ownedShare 20 = .ok (.invokevirtual 242, 3) := by decide +kernel
theorem dX6_ownedShare_23 : decode cX6_ownedShare 23 = .ok (.i2d, 1) := by decide +kernel
theorem dX6_ownedShare_24 : decode cX6_ownedShare 24 = .ok (.iload_n 1, 1) := by decide +kernel
theorem dX6_ownedShare_25 : decode cX6_ownedShare 25 = .ok (.i2d, 1) := by decide +kernel
theorem dX6_ownedShare_26 : decode cX6_ownedShare 26 = .ok (.ddiv, 1) := by decide +kernel
theorem dX6_ownedShare_27 : decode cX6_ownedShare 27 = .ok (.dreturn, 1) := by decide +kernel
theorem dX6_meanRink_0 : decode cX6_meanRink 0 = .ok (.aload_n 0, 1) := by decide +kernel
theorem dX6_meanRink_1 : decode cX6_meanRink 1 = .ok (.getfield 10, 3) := by decide +kernel
theorem dX6_meanRink_4 : decode cX6_meanRink 4 = .ok (.invokevirtual 233, 3) := by decide +kernel
theorem dX6_meanRink_7 : decode cX6_meanRink 7 = .ok (.istore_n 1, 1) := by decide +kernel
theorem dX6_meanRink_8 : decode cX6_meanRink 8 = .ok (.iload_n 1, 1) := by decide +kernel
theorem dX6_meanRink_9 : decode cX6_meanRink 9 = .ok (.ifCond .ne 7, 3) := by decide +kernel
theorem dX6_meanRink_12 : decode cX6_meanRink 12 = .ok (.fconst 0, 1) := by decide +kernel
theorem dX6_meanRink_13 : decode cX6_meanRink 13 = .ok (.goto 14, 3) := by decide +kernel
theorem dX6_meanRink_16 : decode cX6_meanRink 16 = .ok (.aload_n 0, 1) := by decide +kernel
theorem dX6_meanRink_17 : decode cX6_meanRink 17 = .ok (.getfield 10, 3) := by decide +kernel
theorem dX6_meanRink_20 : decode cX6_meanRink 20 = .ok (.invokevirtual 169, 3) := by decide +kernel
theorem dX6_meanRink_23 : decode cX6_meanRink 23 = .ok (.i2f, 1) := by decide +kernel
theorem dX6_meanRink_24 : decode cX6_meanRink 24 = .ok (.iload_n 1, 1) := by decide +kernel
theorem dX6_meanRink_25 : decode cX6_meanRink 25 = .ok (.i2f, 1) := by decide +kernel
theorem dX6_meanRink_26 : decode cX6_meanRink 26 = .ok (.fdiv, 1) := by decide +kernel
theorem dX6_meanRink_27 : decode cX6_meanRink 27 = .ok (.freturn, 1) := by decide +kernel
theorem dX6_digest_0 : decode cX6_digest 0 = .ok (.ldc2_w 243, 3) := by decide +kernel
theorem dX6_digest_3 : decode cX6_digest 3 = .ok (.lstore_n 1, 1) := by decide +kernel
theorem dX6_digest_4 : decode cX6_digest 4 = .ok (.iconst 0, 1) := by decide +kernel
theorem dX6_digest_5 : decode cX6_digest 5 = .ok (.istore_n 3, 1) := by decide +kernel
theorem dX6_digest_6 : decode cX6_digest 6 = .ok (.iload_n 3, 1) := by decide +kernel
theorem dX6_digest_7 : decode cX6_digest 7 = .ok (.bipush 11, 2) := by decide +kernel
theorem dX6_digest_9 : decode cX6_digest 9 = .ok (.if_icmp .gt 22, 3) := by decide +kernel
theorem dX6_digest_12 : decode cX6_digest 12 = .ok (.ldc2_w 245, 3) := by decide +kernel
theorem dX6_digest_15 : decode cX6_digest 15 = .ok (.lload_n 1, 1) := by decide +kernel
theorem dX6_digest_16 : decode cX6_digest 16 = .ok (.lmul, 1) := by decide +kernel
theorem dX6_digest_17 : decode cX6_digest 17 = .ok (.aload_n 0, 1) := by decide +kernel
theorem dX6_digest_18 : decode cX6_digest 18 = .ok (.iload_n 3, 1) := by decide +kernel
theorem dX6_digest_19 : decode cX6_digest 19 = .ok (.invokevirtual 217, 3) := by decide +kernel
theorem dX6_digest_22 : decode cX6_digest 22 = .ok (.i2l, 1) := by decide +kernel
theorem dX6_digest_23 : decode cX6_digest 23 = .ok (.ladd, 1) := by decide +kernel
theorem dX6_digest_24 : decode cX6_digest 24 = .ok (.lstore_n 1, 1) := by decide +kernel
theorem dX6_digest_25 : decode cX6_digest 25 = .ok (.iinc 3 1, 3) := by decide +kernel
theorem dX6_digest_28 : decode cX6_digest 28 = .ok (.goto (-22), 3) := by decide +kernel
theorem dX6_digest_31 : decode cX6_digest 31 = .ok (.iconst 0, 1) := by decide +kernel
theorem dX6_digest_32 : decode cX6_digest 32 = .ok (.istore_n 3, 1) := by decide +kernel
theorem dX6_digest_33 : decode cX6_digest 33 = .ok (.iload_n 3, 1) := by decide +kernel
theorem dX6_digest_34 : decode cX6_digest 34 = .ok (.iconst 3, 1) := by decide +kernel
theorem dX6_digest_35 : decode cX6_digest 35 = .ok (.if_icmp .ge 26, 3) := by decide +kernel
theorem dX6_digest_38 : decode cX6_digest 38 = .ok (.ldc2_w 245, 3) := by decide +kernel
theorem dX6_digest_41 : decode cX6_digest 41 = .ok (.lload_n 1, 1) := by decide +kernel
theorem dX6_digest_42 : decode cX6_digest 42 = .ok (.lmul, 1) := by decide +kernel
theorem dX6_digest_43 : decode cX6_digest 43 = .ok (.aload_n 0, 1) := by decide +kernel
theorem dX6_digest_44 : decode cX6_digest 44 = .ok (.getfield 10, 3) := by decide +kernel
theorem dX6_digest_47 : decode cX6_digest 47 = .ok (.getfield 135, 3) := by decide +kernel
theorem dX6_digest_50 : decode cX6_digest 50 = .ok (.iload_n 3, 1) := by decide +kernel
theorem dX6_digest_51 : decode cX6_digest 51 = .ok (.iaload, 1) := by decide +kernel
theorem dX6_digest_52 : decode cX6_digest 52 = .ok (.i2l, 1) := by decide +kernel
theorem dX6_digest_53 : decode cX6_digest 53 = .ok (.ladd, 1) := by decide +kernel
theorem dX6_digest_54 : decode cX6_digest 54 = .ok (.lstore_n 1, 1) := by decide +kernel
theorem dX6_digest_55 : decode cX6_digest 55 = .ok (.iinc 3 1, 3) := by decide +kernel
theorem dX6_digest_58 : decode cX6_digest 58 = .ok (.goto (-25), 3) := by decide +kernel
theorem dX6_digest_61 : decode cX6_digest 61 = .ok (.aload_n 0, 1) := by decide +kernel
theorem dX6_digest_62 : decode cX6_digest 62 = .ok (.lload_n 1, 1) := by decide +kernel
theorem dX6_digest_63 : decode cX6_digest 63 = .ok (.invokevirtual 247, 3) := by decide +kernel
theorem dX6_digest_66 : decode cX6_digest 66 = .ok (.lstore_n 1, 1) := by decide +kernel
theorem dX6_digest_67 : decode cX6_digest 67 = .ok (.aload_n 0, 1) := by decide +kernel
theorem dX6_digest_68 : decode cX6_digest 68 = .ok (.lload_n 1, 1) := by decide +kernel
theorem dX6_digest_69 : decode cX6_digest 69 = .ok (.invokevirtual 251, 3) := by decide +kernel
theorem dX6_digest_72 : decode cX6_digest 72 = .ok (.lstore_n 1, 1) := by decide +kernel
theorem dX6_digest_73 : decode cX6_digest 73 = .ok (.aload_n 0, 1) := by decide +kernel
theorem dX6_digest_74 : decode cX6_digest 74 = .ok (.lload_n 1, 1) := by decide +kernel
theorem dX6_digest_75 : decode cX6_digest 75 = .ok (.invokevirtual 254, 3) := by decide +kernel
theorem dX6_digest_78 : decode cX6_digest 78 = .ok (.lstore_n 1, 1) := by decide +kernel
theorem dX6_digest_79 : decode cX6_digest 79 = .ok (.aload_n 0, 1) := by decide +kernel
theorem dX6_digest_80 : decode cX6_digest 80 = .ok (.lload_n 1, 1) := by decide +kernel
theorem dX6_digest_81 : decode cX6_digest 81 = .ok (.invokevirtual 257, 3) := by decide +kernel
theorem dX6_digest_84 : decode cX6_digest 84 = .ok (.lstore_n 1, 1) := by decide +kernel
theorem dX6_digest_85 : decode cX6_digest 85 = .ok (.ldc2_w 245, 3) := by decide +kernel
theorem dX6_digest_88 : decode cX6_digest 88 = .ok (.lload_n 1, 1) := by decide +kernel
theorem dX6_digest_89 : decode cX6_digest 89 = .ok (.lmul, 1) := by decide +kernel
theorem dX6_digest_90 : decode cX6_digest 90 = .ok (.aload_n 0, 1) := by decide +kernel
theorem dX6_digest_91 : decode cX6_digest 91 = .ok (.getfield 10, 3) := by decide +kernel
theorem dX6_digest_94 : decode cX6_digest 94 = .ok (.invokevirtual 239, 3) := by decide +kernel
theorem dX6_digest_97 : decode cX6_digest 97 = .ok (.i2l, 1) := by decide +kernel
theorem dX6_digest_98 : decode cX6_digest 98 = .ok (.ladd, 1) := by decide +kernel
theorem dX6_digest_99 : decode cX6_digest 99 = .ok (.lstore_n 1, 1) := by decide +kernel
theorem dX6_digest_100 : decode cX6_digest 100 = .ok (.ldc2_w 245, 3) := by decide +kernel
theorem dX6_digest_103 : decode cX6_digest 103 = .ok (.lload_n 1, 1) := by decide +kernel
theorem dX6_digest_104 : decode cX6_digest 104 = .ok (.lmul, 1) := by decide +kernel
theorem dX6_digest_105 : decode cX6_digest 105 = .ok (.aload_n 0, 1) := by decide +kernel
theorem dX6_digest_106 : decode cX6_digest 106 = .ok (.invokevirtual 260, 3) := by decide +kernel
theorem dX6_digest_109 : decode cX6_digest 109 = .ok (.sipush 1023, 3) := by decide +kernel
theorem dX6_digest_112 : decode cX6_digest 112 = .ok (.bipush 52, 2) := by decide +kernel
theorem dX6_digest_114 : decode cX6_digest 114 = .ok (.invokestatic 264, 3) := by decide +kernel
theorem dX6_digest_117 : decode cX6_digest 117 = .ok (.ladd, 1) := by decide +kernel
theorem dX6_digest_118 : decode cX6_digest 118 = .ok (.lstore_n 1, 1) := by decide +kernel
theorem dX6_digest_119 : decode cX6_digest 119 = .ok (.ldc2_w 245, 3) := by decide +kernel
theorem dX6_digest_122 : decode cX6_digest 122 = .ok (.lload_n 1, 1) := by decide +kernel
theorem dX6_digest_123 : decode cX6_digest 123 = .ok (.lmul, 1) := by decide +kernel
theorem dX6_digest_124 : decode cX6_digest 124 = .ok (.aload_n 0, 1) := by decide +kernel
theorem dX6_digest_125 : decode cX6_digest 125 = .ok (.invokevirtual 268, 3) := by decide +kernel
theorem dX6_digest_128 : decode cX6_digest 128 = .ok (.f2d, 1) := by decide +kernel
theorem dX6_digest_129 : decode cX6_digest 129 = .ok (.bipush 127, 2) := by decide +kernel
theorem dX6_digest_131 : decode cX6_digest 131 = .ok (.bipush 23, 2) := by decide +kernel
theorem dX6_digest_133 : decode cX6_digest 133 = .ok (.invokestatic 264, 3) := by decide +kernel
theorem dX6_digest_136 : decode cX6_digest 136 = .ok (.ladd, 1) := by decide +kernel
theorem dX6_digest_137 : decode cX6_digest 137 = .ok (.lstore_n 1, 1) := by decide +kernel
theorem dX6_digest_138 : decode cX6_digest 138 = .ok (.ldc2_w 245, 3) := by decide +kernel
theorem dX6_digest_141 : decode cX6_digest 141 = .ok (.lload_n 1, 1) := by decide +kernel
theorem dX6_digest_142 : decode cX6_digest 142 = .ok (.lmul, 1) := by decide +kernel
theorem dX6_digest_143 : decode cX6_digest 143 = .ok (.aload_n 0, 1) := by decide +kernel
theorem dX6_digest_144 : decode cX6_digest 144 = .ok (.getfield 43, 3) := by decide +kernel
theorem dX6_digest_147 : decode cX6_digest 147 = .ok (.ifCond .eq 7, 3) := by decide +kernel
theorem dX6_digest_150 : decode cX6_digest 150 = .ok (.iconst 1, 1) := by decide +kernel
theorem dX6_digest_151 : decode cX6_digest 151 = .ok (.goto 4, 3) := by decide +kernel
theorem dX6_digest_154 : decode cX6_digest 154 = .ok (.iconst 0, 1) := by decide +kernel
theorem dX6_digest_155 : decode cX6_digest 155 = .ok (.i2l, 1) := by decide +kernel
theorem dX6_digest_156 : decode cX6_digest 156 = .ok (.ladd, 1) := by decide +kernel
theorem dX6_digest_157 : decode cX6_digest 157 = .ok (.lstore_n 1, 1) := by decide +kernel
theorem dX6_digest_158 : decode cX6_digest 158 = .ok (.aload_n 0, 1) := by decide +kernel
theorem dX6_digest_159 : decode cX6_digest 159 = .ok (.lload_n 1, 1) := by decide +kernel
theorem dX6_digest_160 : decode cX6_digest 160 = .ok (.invokevirtual 272, 3) := by decide +kernel
theorem dX6_digest_163 : decode cX6_digest 163 = .ok (.lreturn, 1) := by decide +kernel
theorem dX6_cellNumber_0 : decode cX6_cellNumber 0 = .ok (.iload_n 3, 1) := by decide +kernel
theorem dX6_cellNumber_1 : decode cX6_cellNumber 1 = .ok (.tableswitch 120 0 4 #[35, 52, 61, 88, 100], 35) := by decide +kernel
theorem dX6_cellNumber_36 : decode cX6_cellNumber 36 = .ok (.aload_n 0, 1) := by decide +kernel
theorem dX6_cellNumber_37 : decode cX6_cellNumber 37 = .ok (.getfield 10, 3) := by decide +kernel
theorem dX6_cellNumber_40 : decode cX6_cellNumber 40 = .ok (.lload_n 1, 1) := by decide +kernel
theorem dX6_cellNumber_41 : decode cX6_cellNumber 41 = .ok (.invokevirtual 87, 3) := by decide +kernel
theorem dX6_cellNumber_44 : decode cX6_cellNumber 44 = .ok (.ifCond .eq 7, 3) := by decide +kernel
theorem dX6_cellNumber_47 : decode cX6_cellNumber 47 = .ok (.iconst 1, 1) := by decide +kernel
theorem dX6_cellNumber_48 : decode cX6_cellNumber 48 = .ok (.goto 4, 3) := by decide +kernel
theorem dX6_cellNumber_51 : decode cX6_cellNumber 51 = .ok (.iconst 0, 1) := by decide +kernel
theorem dX6_cellNumber_52 : decode cX6_cellNumber 52 = .ok (.ireturn, 1) := by decide +kernel
theorem dX6_cellNumber_53 : decode cX6_cellNumber 53 = .ok (.aload_n 0, 1) := by decide +kernel
theorem dX6_cellNumber_54 : decode cX6_cellNumber 54 = .ok (.getfield 10, 3) := by decide +kernel
theorem dX6_cellNumber_57 : decode cX6_cellNumber 57 = .ok (.lload_n 1, 1) := by decide +kernel
theorem dX6_cellNumber_58 : decode cX6_cellNumber 58 = .ok (.invokevirtual 96, 3) := by decide +kernel
theorem dX6_cellNumber_61 : decode cX6_cellNumber 61 = .ok (.ireturn, 1) := by decide +kernel
theorem dX6_cellNumber_62 : decode cX6_cellNumber 62 = .ok (.aload_n 0, 1) := by decide +kernel
theorem dX6_cellNumber_63 : decode cX6_cellNumber 63 = .ok (.getfield 10, 3) := by decide +kernel
theorem dX6_cellNumber_66 : decode cX6_cellNumber 66 = .ok (.lload_n 1, 1) := by decide +kernel
theorem dX6_cellNumber_67 : decode cX6_cellNumber 67 = .ok (.invokevirtual 87, 3) := by decide +kernel
theorem dX6_cellNumber_70 : decode cX6_cellNumber 70 = .ok (.ifCond .eq 17, 3) := by decide +kernel
theorem dX6_cellNumber_73 : decode cX6_cellNumber 73 = .ok (.aload_n 0, 1) := by decide +kernel
theorem dX6_cellNumber_74 : decode cX6_cellNumber 74 = .ok (.getfield 10, 3) := by decide +kernel
theorem dX6_cellNumber_77 : decode cX6_cellNumber 77 = .ok (.lload_n 1, 1) := by decide +kernel
theorem dX6_cellNumber_78 : decode cX6_cellNumber 78 = .ok (.invokevirtual 275, 3) := by decide +kernel
theorem dX6_cellNumber_81 : decode cX6_cellNumber 81 = .ok (.invokestatic 278, 3) := by decide +kernel
theorem dX6_cellNumber_84 : decode cX6_cellNumber 84 = .ok (.goto 4, 3) := by decide +kernel
theorem dX6_cellNumber_87 : decode cX6_cellNumber 87 = .ok (.iconst (-1), 1) := by decide +kernel
theorem dX6_cellNumber_88 : decode cX6_cellNumber 88 = .ok (.ireturn, 1) := by decide +kernel
theorem dX6_cellNumber_89 : decode cX6_cellNumber 89 = .ok (.aload_n 0, 1) := by decide +kernel
theorem dX6_cellNumber_90 : decode cX6_cellNumber 90 = .ok (.getfield 10, 3) := by decide +kernel
theorem dX6_cellNumber_93 : decode cX6_cellNumber 93 = .ok (.lload_n 1, 1) := by decide +kernel
theorem dX6_cellNumber_94 : decode cX6_cellNumber 94 = .ok (.invokevirtual 275, 3) := by decide +kernel
theorem dX6_cellNumber_97 : decode cX6_cellNumber 97 = .ok (.invokestatic 281, 3) := by decide +kernel
theorem dX6_cellNumber_100 : decode cX6_cellNumber 100 = .ok (.ireturn, 1) := by decide +kernel
theorem dX6_cellNumber_101 : decode cX6_cellNumber 101 = .ok (.lload_n 1, 1) := by decide +kernel
theorem dX6_cellNumber_102 : decode cX6_cellNumber 102 = .ok (.invokestatic 286, 3) := by decide +kernel
theorem dX6_cellNumber_105 : decode cX6_cellNumber 105 = .ok (.aload_n 0, 1) := by decide +kernel
theorem dX6_cellNumber_106 : decode cX6_cellNumber 106 = .ok (.getfield 10, 3) := by decide +kernel
theorem dX6_cellNumber_109 : decode cX6_cellNumber 109 = .ok (.getfield 289, 3) := by decide +kernel
theorem dX6_cellNumber_112 : decode cX6_cellNumber 112 = .ok (.ldc2_w 293, 3) := by decide +kernel
theorem dX6_cellNumber_115 : decode cX6_cellNumber 115 = .ok (.lxor, 1) := by decide +kernel
theorem dX6_cellNumber_116 : decode cX6_cellNumber 116 = .ok (.land, 1) := by decide +kernel
theorem dX6_cellNumber_117 : decode cX6_cellNumber 117 = .ok (.invokestatic 281, 3) := by decide +kernel
theorem dX6_cellNumber_120 : decode cX6_cellNumber 120 = .ok (.ireturn, 1) := by decide +kernel
theorem dX6_cellNumber_121 : decode cX6_cellNumber 121 = .ok (.aload_n 0, 1) := by decide +kernel
theorem dX6_cellNumber_122 : decode cX6_cellNumber 122 = .ok (.getfield 10, 3) := by decide +kernel
theorem dX6_cellNumber_125 : decode cX6_cellNumber 125 = .ok (.lload_n 1, 1) := by decide +kernel
theorem dX6_cellNumber_126 : decode cX6_cellNumber 126 = .ok (.invokevirtual 295, 3) := by decide +kernel
theorem dX6_cellNumber_129 : decode cX6_cellNumber 129 = .ok (.ireturn, 1) := by decide +kernel
theorem dX6_lineNumber_0 : decode cX6_lineNumber 0 = .ok (.iload_n 2, 1) := by decide +kernel
theorem dX6_lineNumber_1 : decode cX6_lineNumber 1 = .ok (.lookupswitch 54 #[(0, 27), (1, 37)], 27) := by decide +kernel
theorem dX6_lineNumber_28 : decode cX6_lineNumber 28 = .ok (.aload_n 0, 1) := by decide +kernel
theorem dX6_lineNumber_29 : decode cX6_lineNumber 29 = .ok (.getfield 10, 3) := by decide +kernel
theorem dX6_lineNumber_32 : decode cX6_lineNumber 32 = .ok (.getfield 298, 3) := by decide +kernel
theorem dX6_lineNumber_35 : decode cX6_lineNumber 35 = .ok (.iload_n 1, 1) := by decide +kernel
theorem dX6_lineNumber_36 : decode cX6_lineNumber 36 = .ok (.iaload, 1) := by decide +kernel
theorem dX6_lineNumber_37 : decode cX6_lineNumber 37 = .ok (.ireturn, 1) := by decide +kernel
theorem dX6_lineNumber_38 : decode cX6_lineNumber 38 = .ok (.aload_n 0, 1) := by decide +kernel
theorem dX6_lineNumber_39 : decode cX6_lineNumber 39 = .ok (.getfield 10, 3) := by decide +kernel
theorem dX6_lineNumber_42 : decode cX6_lineNumber 42 = .ok (.iload_n 1, 1) := by decide +kernel
theorem dX6_lineNumber_43 : decode cX6_lineNumber 43 = .ok (.invokevirtual 301, 3) := by decide +kernel
theorem dX6_lineNumber_46 : decode cX6_lineNumber 46 = .ok (.ifCond .eq 7, 3) := by decide +kernel
theorem dX6_lineNumber_49 : decode cX6_lineNumber 49 = .ok (.iconst 1, 1) := by decide +kernel
theorem dX6_lineNumber_50 : decode cX6_lineNumber 50 = .ok (.goto 4, 3) := by decide +kernel
theorem dX6_lineNumber_53 : decode cX6_lineNumber 53 = .ok (.iconst 0, 1) := by decide +kernel
theorem dX6_lineNumber_54 : decode cX6_lineNumber 54 = .ok (.ireturn, 1) := by decide +kernel
theorem dX6_lineNumber_55 : decode cX6_lineNumber 55 = .ok (.iload_n 1, 1) := by decide +kernel
theorem dX6_lineNumber_56 : decode cX6_lineNumber 56 = .ok (.invokestatic 304, 3) := by decide +kernel
theorem dX6_lineNumber_59 : decode cX6_lineNumber 59 = .ok (.aload_n 0, 1) := by decide +kernel
theorem dX6_lineNumber_60 : decode cX6_lineNumber 60 = .ok (.getfield 10, 3) := by decide +kernel
theorem dX6_lineNumber_63 : decode cX6_lineNumber 63 = .ok (.getfield 289, 3) := by decide +kernel
theorem dX6_lineNumber_66 : decode cX6_lineNumber 66 = .ok (.land, 1) := by decide +kernel
theorem dX6_lineNumber_67 : decode cX6_lineNumber 67 = .ok (.invokestatic 281, 3) := by decide +kernel
theorem dX6_lineNumber_70 : decode cX6_lineNumber 70 = .ok (.ireturn, 1) := by decide +kernel
theorem dX6_skaterNumber_0 : decode cX6_skaterNumber 0 = .ok (.aload_n 0, 1) := by decide +kernel
theorem dX6_skaterNumber_1 : decode cX6_skaterNumber 1 = .ok (.getfield 10, 3) := by decide +kernel
theorem dX6_skaterNumber_4 : decode cX6_skaterNumber 4 = .ok (.getfield 112, 3) := by decide +kernel
theorem dX6_skaterNumber_7 : decode cX6_skaterNumber 7 = .ok (.iload_n 1, 1) := by decide +kernel
theorem dX6_skaterNumber_8 : decode cX6_skaterNumber 8 = .ok (.aaload, 1) := by decide +kernel
theorem dX6_skaterNumber_9 : decode cX6_skaterNumber 9 = .ok (.astore_n 3, 1) := by decide +kernel
theorem dX6_skaterNumber_10 : decode cX6_skaterNumber 10 = .ok (.iload_n 2, 1) := by decide +kernel
theorem dX6_skaterNumber_11 : decode cX6_skaterNumber 11 = .ok (.tableswitch 93 0 7 #[45, 50, 55, 60, 65, 74, 83, 88], 45) := by decide +kernel
theorem dX6_skaterNumber_56 : decode cX6_skaterNumber 56 = .ok (.aload_n 3, 1) := by decide +kernel
theorem dX6_skaterNumber_57 : decode cX6_skaterNumber 57 = .ok (.getfield 307, 3) := by decide +kernel
theorem dX6_skaterNumber_60 : decode cX6_skaterNumber 60 = .ok (.ireturn, 1) := by decide +kernel
theorem dX6_skaterNumber_61 : decode cX6_skaterNumber 61 = .ok (.aload_n 3, 1) := by decide +kernel
theorem dX6_skaterNumber_62 : decode cX6_skaterNumber 62 = .ok (.getfield 310, 3) := by decide +kernel
theorem dX6_skaterNumber_65 : decode cX6_skaterNumber 65 = .ok (.ireturn, 1) := by decide +kernel
theorem dX6_skaterNumber_66 : decode cX6_skaterNumber 66 = .ok (.aload_n 3, 1) := by decide +kernel
theorem dX6_skaterNumber_67 : decode cX6_skaterNumber 67 = .ok (.getfield 116, 3) := by decide +kernel
theorem dX6_skaterNumber_70 : decode cX6_skaterNumber 70 = .ok (.ireturn, 1) := by decide +kernel
theorem dX6_skaterNumber_71 : decode cX6_skaterNumber 71 = .ok (.aload_n 3, 1) := by decide +kernel
theorem dX6_skaterNumber_72 : decode cX6_skaterNumber 72 = .ok (.invokevirtual 227, 3) := by decide +kernel
theorem dX6_skaterNumber_75 : decode cX6_skaterNumber 75 = .ok (.ireturn, 1) := by decide +kernel
theorem dX6_skaterNumber_76 : decode cX6_skaterNumber 76 = .ok (.aload_n 0, 1) := by decide +kernel
theorem dX6_skaterNumber_77 : decode cX6_skaterNumber 77 = .ok (.getfield 10, 3) := by decide +kernel
theorem dX6_skaterNumber_80 : decode cX6_skaterNumber 80 = .ok (.iload_n 1, 1) := by decide +kernel
theorem dX6_skaterNumber_81 : decode cX6_skaterNumber 81 = .ok (.invokevirtual 313, 3) := by decide +kernel
theorem dX6_skaterNumber_84 : decode cX6_skaterNumber 84 = .ok (.ireturn, 1) := by decide +kernel
theorem dX6_skaterNumber_85 : decode cX6_skaterNumber 85 = .ok (.aload_n 0, 1) := by decide +kernel
theorem dX6_skaterNumber_86 : decode cX6_skaterNumber 86 = .ok (.getfield 10, 3) := by decide +kernel
theorem dX6_skaterNumber_89 : decode cX6_skaterNumber 89 = .ok (.iload_n 1, 1) := by decide +kernel
theorem dX6_skaterNumber_90 : decode cX6_skaterNumber 90 = .ok (.invokevirtual 316, 3) := by decide +kernel
theorem dX6_skaterNumber_93 : decode cX6_skaterNumber 93 = .ok (.ireturn, 1) := by decide +kernel
theorem dX6_skaterNumber_94 : decode cX6_skaterNumber 94 = .ok (.aload_n 3, 1) := by decide +kernel
theorem dX6_skaterNumber_95 : decode cX6_skaterNumber 95 = .ok (.getfield 319, 3) := by decide +kernel
theorem dX6_skaterNumber_98 : decode cX6_skaterNumber 98 = .ok (.ireturn, 1) := by decide +kernel
theorem dX6_skaterNumber_99 : decode cX6_skaterNumber 99 = .ok (.aload_n 3, 1) := by decide +kernel
theorem dX6_skaterNumber_100 : decode cX6_skaterNumber 100 = .ok (.getfield 230, 3) := by decide +kernel
theorem dX6_skaterNumber_103 : decode cX6_skaterNumber 103 = .ok (.ireturn, 1) := by decide +kernel
theorem dX6_skaterNumber_104 : decode cX6_skaterNumber 104 = .ok (.aload_n 3, 1) := by decide +kernel
theorem dX6_skaterNumber_105 : decode cX6_skaterNumber 105 = .ok (.getfield 322, 3) := by decide +kernel
theorem dX6_skaterNumber_108 : decode cX6_skaterNumber 108 = .ok (.ireturn, 1) := by decide +kernel
theorem dX6_rinkNumber_0 : decode cX6_rinkNumber 0 = .ok (.lload_n 1, 1) := by decide +kernel
theorem dX6_rinkNumber_1 : decode cX6_rinkNumber 1 = .ok (.invokestatic 278, 3) := by decide +kernel
theorem dX6_rinkNumber_4 : decode cX6_rinkNumber 4 = .ok (.istore 4, 2) := by decide +kernel
theorem dX6_rinkNumber_6 : decode cX6_rinkNumber 6 = .ok (.iload_n 3, 1) := by decide +kernel
theorem dX6_rinkNumber_7 : decode cX6_rinkNumber 7 = .ok (.lookupswitch 33 #[(0, 25), (1, 28)], 25) := by decide +kernel
theorem dX6_rinkNumber_32 : decode cX6_rinkNumber 32 = .ok (.iload 4, 2) := by decide +kernel
theorem dX6_rinkNumber_34 : decode cX6_rinkNumber 34 = .ok (.ireturn, 1) := by decide +kernel
theorem dX6_rinkNumber_35 : decode cX6_rinkNumber 35 = .ok (.lload_n 1, 1) := by decide +kernel
theorem dX6_rinkNumber_36 : decode cX6_rinkNumber 36 = .ok (.invokestatic 281, 3) := by decide +kernel
theorem dX6_rinkNumber_39 : decode cX6_rinkNumber 39 = .ok (.ireturn, 1) := by decide +kernel
theorem dX6_rinkNumber_40 : decode cX6_rinkNumber 40 = .ok (.aload_n 0, 1) := by decide +kernel
theorem dX6_rinkNumber_41 : decode cX6_rinkNumber 41 = .ok (.getfield 10, 3) := by decide +kernel
theorem dX6_rinkNumber_44 : decode cX6_rinkNumber 44 = .ok (.lconst 1, 1) := by decide +kernel
theorem dX6_rinkNumber_45 : decode cX6_rinkNumber 45 = .ok (.iload 4, 2) := by decide +kernel
theorem dX6_rinkNumber_47 : decode cX6_rinkNumber 47 = .ok (.lshl, 1) := by decide +kernel
theorem dX6_rinkNumber_48 : decode cX6_rinkNumber 48 = .ok (.invokevirtual 96, 3) := by decide +kernel
theorem dX6_rinkNumber_51 : decode cX6_rinkNumber 51 = .ok (.ireturn, 1) := by decide +kernel
theorem dX6_stateNumber_0 : decode cX6_stateNumber 0 = .ok (.iload_n 1, 1) := by decide +kernel
theorem dX6_stateNumber_1 : decode cX6_stateNumber 1 = .ok (.tableswitch 165 0 10 #[59, 67, 75, 87, 95, 117, 125, 133, 141, 149, 157], 59) := by decide +kernel
theorem dX6_stateNumber_60 : decode cX6_stateNumber 60 = .ok (.aload_n 0, 1) := by decide +kernel
theorem dX6_stateNumber_61 : decode cX6_stateNumber 61 = .ok (.getfield 10, 3) := by decide +kernel
theorem dX6_stateNumber_64 : decode cX6_stateNumber 64 = .ok (.invokevirtual 169, 3) := by decide +kernel
theorem dX6_stateNumber_67 : decode cX6_stateNumber 67 = .ok (.ireturn, 1) := by decide +kernel
theorem dX6_stateNumber_68 : decode cX6_stateNumber 68 = .ok (.aload_n 0, 1) := by decide +kernel
theorem dX6_stateNumber_69 : decode cX6_stateNumber 69 = .ok (.getfield 10, 3) := by decide +kernel
theorem dX6_stateNumber_72 : decode cX6_stateNumber 72 = .ok (.invokevirtual 233, 3) := by decide +kernel
theorem dX6_stateNumber_75 : decode cX6_stateNumber 75 = .ok (.ireturn, 1) := by decide +kernel
theorem dX6_stateNumber_76 : decode cX6_stateNumber 76 = .ok (.aload_n 0, 1) := by decide +kernel
theorem dX6_stateNumber_77 : decode cX6_stateNumber 77 = .ok (.getfield 39, 3) := by decide +kernel
theorem dX6_stateNumber_80 : decode cX6_stateNumber 80 = .ok (.aload_n 0, 1) := by decide +kernel
theorem dX6_stateNumber_81 : decode cX6_stateNumber 81 = .ok (.getfield 10, 3) := by decide +kernel
theorem dX6_stateNumber_84 : decode cX6_stateNumber 84 = .ok (.invokevirtual 325, 3) := by decide +kernel
theorem dX6_stateNumber_87 : decode cX6_stateNumber 87 = .ok (.ireturn, 1) := by decide +kernel
theorem dX6_stateNumber_88 : decode cX6_stateNumber 88 = .ok (.aload_n 0, 1) := by decide +kernel
theorem dX6_stateNumber_89 : decode cX6_stateNumber 89 = .ok (.getfield 10, 3) := by decide +kernel
theorem dX6_stateNumber_92 : decode cX6_stateNumber 92 = .ok (.invokevirtual 328, 3) := by decide +kernel
theorem dX6_stateNumber_95 : decode cX6_stateNumber 95 = .ok (.ireturn, 1) := by decide +kernel
theorem dX6_stateNumber_96 : decode cX6_stateNumber 96 = .ok (.aload_n 0, 1) := by decide +kernel
theorem dX6_stateNumber_97 : decode cX6_stateNumber 97 = .ok (.getfield 10, 3) := by decide +kernel
theorem dX6_stateNumber_100 : decode cX6_stateNumber 100 = .ok (.getfield 331, 3) := by decide +kernel
theorem dX6_stateNumber_103 : decode cX6_stateNumber 103 = .ok (.invokestatic 281, 3) := by decide +kernel
theorem dX6_stateNumber_106 : decode cX6_stateNumber 106 = .ok (.aload_n 0, 1) := by decide +kernel
theorem dX6_stateNumber_107 : decode cX6_stateNumber 107 = .ok (.getfield 10, 3) := by decide +kernel
theorem dX6_stateNumber_110 : decode cX6_stateNumber 110 = .ok (.getfield 334, 3) := by decide +kernel
theorem dX6_stateNumber_113 : decode cX6_stateNumber 113 = .ok (.invokestatic 281, 3) := by decide +kernel
theorem dX6_stateNumber_116 : decode cX6_stateNumber 116 = .ok (.iadd, 1) := by decide +kernel
theorem dX6_stateNumber_117 : decode cX6_stateNumber 117 = .ok (.ireturn, 1) := by decide +kernel
theorem dX6_stateNumber_118 : decode cX6_stateNumber 118 = .ok (.aload_n 0, 1) := by decide +kernel
theorem dX6_stateNumber_119 : decode cX6_stateNumber 119 = .ok (.getfield 10, 3) := by decide +kernel
theorem dX6_stateNumber_122 : decode cX6_stateNumber 122 = .ok (.getfield 337, 3) := by decide +kernel
theorem dX6_stateNumber_125 : decode cX6_stateNumber 125 = .ok (.ireturn, 1) := by decide +kernel
theorem dX6_stateNumber_126 : decode cX6_stateNumber 126 = .ok (.aload_n 0, 1) := by decide +kernel
theorem dX6_stateNumber_127 : decode cX6_stateNumber 127 = .ok (.getfield 10, 3) := by decide +kernel
theorem dX6_stateNumber_130 : decode cX6_stateNumber 130 = .ok (.getfield 340, 3) := by decide +kernel
theorem dX6_stateNumber_133 : decode cX6_stateNumber 133 = .ok (.ireturn, 1) := by decide +kernel
theorem dX6_stateNumber_134 : decode cX6_stateNumber 134 = .ok (.aload_n 0, 1) := by decide +kernel
theorem dX6_stateNumber_135 : decode cX6_stateNumber 135 = .ok (.getfield 10, 3) := by decide +kernel
theorem dX6_stateNumber_138 : decode cX6_stateNumber 138 = .ok (.getfield 343, 3) := by decide +kernel
theorem dX6_stateNumber_141 : decode cX6_stateNumber 141 = .ok (.ireturn, 1) := by decide +kernel
theorem dX6_stateNumber_142 : decode cX6_stateNumber 142 = .ok (.aload_n 0, 1) := by decide +kernel
theorem dX6_stateNumber_143 : decode cX6_stateNumber 143 = .ok (.getfield 10, 3) := by decide +kernel
theorem dX6_stateNumber_146 : decode cX6_stateNumber 146 = .ok (.invokevirtual 346, 3) := by decide +kernel
theorem dX6_stateNumber_149 : decode cX6_stateNumber 149 = .ok (.ireturn, 1) := by decide +kernel
theorem dX6_stateNumber_150 : decode cX6_stateNumber 150 = .ok (.aload_n 0, 1) := by decide +kernel
theorem dX6_stateNumber_151 : decode cX6_stateNumber 151 = .ok (.getfield 10, 3) := by decide +kernel
theorem dX6_stateNumber_154 : decode cX6_stateNumber 154 = .ok (.getfield 106, 3) := by decide +kernel
theorem dX6_stateNumber_157 : decode cX6_stateNumber 157 = .ok (.ireturn, 1) := by decide +kernel
theorem dX6_stateNumber_158 : decode cX6_stateNumber 158 = .ok (.aload_n 0, 1) := by decide +kernel
theorem dX6_stateNumber_159 : decode cX6_stateNumber 159 = .ok (.getfield 10, 3) := by decide +kernel
theorem dX6_stateNumber_162 : decode cX6_stateNumber 162 = .ok (.invokevirtual 349, 3) := by decide +kernel
theorem dX6_stateNumber_165 : decode cX6_stateNumber 165 = .ok (.ireturn, 1) := by decide +kernel
theorem dX6_stateNumber_166 : decode cX6_stateNumber 166 = .ok (.aload_n 0, 1) := by decide +kernel
theorem dX6_stateNumber_167 : decode cX6_stateNumber 167 = .ok (.getfield 25, 3) := by decide +kernel
theorem dX6_stateNumber_170 : decode cX6_stateNumber 170 = .ok (.getfield 174, 3) := by decide +kernel
theorem dX6_stateNumber_173 : decode cX6_stateNumber 173 = .ok (.ireturn, 1) := by decide +kernel
theorem dX6_bestGlide_0 : decode cX6_bestGlide 0 = .ok (.aload_n 0, 1) := by decide +kernel
theorem dX6_bestGlide_1 : decode cX6_bestGlide 1 = .ok (.getfield 10, 3) := by decide +kernel
theorem dX6_bestGlide_4 : decode cX6_bestGlide 4 = .ok (.getfield 112, 3) := by decide +kernel
theorem dX6_bestGlide_7 : decode cX6_bestGlide 7 = .ok (.iload_n 1, 1) := by decide +kernel
theorem dX6_bestGlide_8 : decode cX6_bestGlide 8 = .ok (.aaload, 1) := by decide +kernel
theorem dX6_bestGlide_9 : decode cX6_bestGlide 9 = .ok (.invokevirtual 227, 3) := by decide +kernel
theorem dX6_bestGlide_12 : decode cX6_bestGlide 12 = .ok (.istore_n 2, 1) := by decide +kernel
theorem dX6_bestGlide_13 : decode cX6_bestGlide 13 = .ok (.iconst (-1), 1) := by decide +kernel
theorem dX6_bestGlide_14 : decode cX6_bestGlide 14 = .ok (.istore_n 3, 1) := by decide +kernel
theorem dX6_bestGlide_15 : decode cX6_bestGlide 15 = .ok (.iconst 0, 1) := by decide +kernel
theorem dX6_bestGlide_16 : decode cX6_bestGlide 16 = .ok (.istore 4, 2) := by decide +kernel
theorem dX6_bestGlide_18 : decode cX6_bestGlide 18 = .ok (.iconst 0, 1) := by decide +kernel
theorem dX6_bestGlide_19 : decode cX6_bestGlide 19 = .ok (.istore 5, 2) := by decide +kernel
theorem dX6_bestGlide_21 : decode cX6_bestGlide 21 = .ok (.iload 5, 2) := by decide +kernel
theorem dX6_bestGlide_23 : decode cX6_bestGlide 23 = .ok (.iconst 3, 1) := by decide +kernel
theorem dX6_bestGlide_24 : decode cX6_bestGlide 24 = .ok (.if_icmp .gt 103, 3) := by decide +kernel
theorem dX6_bestGlide_27 : decode cX6_bestGlide 27 = .ok (.aload_n 0, 1) := by decide +kernel
theorem dX6_bestGlide_28 : decode cX6_bestGlide 28 = .ok (.getfield 16, 3) := by decide +kernel
theorem dX6_bestGlide_31 : decode cX6_bestGlide 31 = .ok (.aload_n 0, 1) := by decide +kernel
theorem dX6_bestGlide_32 : decode cX6_bestGlide 32 = .ok (.getfield 10, 3) := by decide +kernel
theorem dX6_bestGlide_35 : decode cX6_bestGlide 35 = .ok (.invokevirtual 166, 3) := by decide +kernel
theorem dX6_bestGlide_38 : decode cX6_bestGlide 38 = .ok (.iconst 1, 1) := by decide +kernel
theorem dX6_bestGlide_39 : decode cX6_bestGlide 39 = .ok (.istore 6, 2) := by decide +kernel
theorem dX6_bestGlide_41 : decode cX6_bestGlide 41 = .ok (.iload 6, 2) := by decide +kernel
theorem dX6_bestGlide_43 : decode cX6_bestGlide 43 = .ok (.bipush 8, 2) := by decide +kernel
theorem dX6_bestGlide_45 : decode cX6_bestGlide 45 = .ok (.if_icmp .gt 76, 3) := by decide +kernel
theorem dX6_bestGlide_48 : decode cX6_bestGlide 48 = .ok (.aload_n 0, 1) := by decide +kernel
theorem dX6_bestGlide_49 : decode cX6_bestGlide 49 = .ok (.getfield 16, 3) := by decide +kernel
theorem dX6_bestGlide_52 : decode cX6_bestGlide 52 = .ok (.iload_n 1, 1) := by decide +kernel
theorem dX6_bestGlide_53 : decode cX6_bestGlide 53 = .ok (.iload 5, 2) := by decide +kernel
theorem dX6_bestGlide_55 : decode cX6_bestGlide 55 = .ok (.invokevirtual 222, 3) := by decide +kernel
theorem dX6_bestGlide_58 : decode cX6_bestGlide 58 = .ok (.ifCond .eq 6, 3) := by decide +kernel
theorem dX6_bestGlide_61 : decode cX6_bestGlide 61 = .ok (.goto 60, 3) := by decide +kernel
theorem dX6_bestGlide_64 : decode cX6_bestGlide 64 = .ok (.aload_n 0, 1) := by decide +kernel
theorem dX6_bestGlide_65 : decode cX6_bestGlide 65 = .ok (.getfield 16, 3) := by decide +kernel
theorem dX6_bestGlide_68 : decode cX6_bestGlide 68 = .ok (.iload_n 1, 1) := by decide +kernel
theorem dX6_bestGlide_69 : decode cX6_bestGlide 69 = .ok (.iload 5, 2) := by decide +kernel
theorem dX6_bestGlide_71 : decode cX6_bestGlide 71 = .ok (.invokevirtual 352, 3) := by decide +kernel
theorem dX6_bestGlide_74 : decode cX6_bestGlide 74 = .ok (.aload_n 0, 1) := by decide +kernel
theorem dX6_bestGlide_75 : decode cX6_bestGlide 75 = .ok (.getfield 16, 3) := by decide +kernel
theorem dX6_bestGlide_78 : decode cX6_bestGlide 78 = .ok (.getfield 112, 3) := by decide +kernel
theorem dX6_bestGlide_81 : decode cX6_bestGlide 81 = .ok (.iload_n 1, 1) := by decide +kernel
theorem dX6_bestGlide_82 : decode cX6_bestGlide 82 = .ok (.aaload, 1) := by decide +kernel
theorem dX6_bestGlide_83 : decode cX6_bestGlide 83 = .ok (.invokevirtual 227, 3) := by decide +kernel
theorem dX6_bestGlide_86 : decode cX6_bestGlide 86 = .ok (.iload_n 2, 1) := by decide +kernel
theorem dX6_bestGlide_87 : decode cX6_bestGlide 87 = .ok (.isub, 1) := by decide +kernel
theorem dX6_bestGlide_88 : decode cX6_bestGlide 88 = .ok (.istore 7, 2) := by decide +kernel
theorem dX6_bestGlide_90 : decode cX6_bestGlide 90 = .ok (.iload_n 3, 1) := by decide +kernel
theorem dX6_bestGlide_91 : decode cX6_bestGlide 91 = .ok (.iconst (-1), 1) := by decide +kernel
theorem dX6_bestGlide_92 : decode cX6_bestGlide 92 = .ok (.if_icmp .eq 10, 3) := by decide +kernel
theorem dX6_bestGlide_95 : decode cX6_bestGlide 95 = .ok (.iload 7, 2) := by decide +kernel
theorem dX6_bestGlide_97 : decode cX6_bestGlide 97 = .ok (.iload 4, 2) := by decide +kernel
theorem dX6_bestGlide_99 : decode cX6_bestGlide 99 = .ok (.if_icmp .le 16, 3) := by decide +kernel
theorem dX6_bestGlide_102 : decode cX6_bestGlide 102 = .ok (.bipush 10, 2) := by decide +kernel
theorem dX6_bestGlide_104 : decode cX6_bestGlide 104 = .ok (.iload 5, 2) := by decide +kernel
theorem dX6_bestGlide_106 : decode cX6_bestGlide 106 = .ok (.imul, 1) := by decide +kernel
theorem dX6_bestGlide_107 : decode cX6_bestGlide 107 = .ok (.iload 6, 2) := by decide +kernel
theorem dX6_bestGlide_109 : decode cX6_bestGlide 109 = .ok (.iadd, 1) := by decide +kernel
theorem dX6_bestGlide_110 : decode cX6_bestGlide 110 = .ok (.istore_n 3, 1) := by decide +kernel
theorem dX6_bestGlide_111 : decode cX6_bestGlide 111 = .ok (.iload 7, 2) := by decide +kernel
theorem dX6_bestGlide_113 : decode cX6_bestGlide 113 = .ok (.istore 4, 2) := by decide +kernel
theorem dX6_bestGlide_115 : decode cX6_bestGlide 115 = .ok (.iinc 6 1, 3) := by decide +kernel
theorem dX6_bestGlide_118 : decode cX6_bestGlide 118 = .ok (.goto (-77), 3) := by decide +kernel
theorem dX6_bestGlide_121 : decode cX6_bestGlide 121 = .ok (.iinc 5 1, 3) := by decide +kernel
theorem dX6_bestGlide_124 : decode cX6_bestGlide 124 = .ok (.goto (-103), 3) := by decide +kernel
theorem dX6_bestGlide_127 : decode cX6_bestGlide 127 = .ok (.iload_n 3, 1) := by decide +kernel
theorem dX6_bestGlide_128 : decode cX6_bestGlide 128 = .ok (.ireturn, 1) := by decide +kernel
theorem dX6_hashCells_0 : decode cX6_hashCells 0 = .ok (.lload_n 1, 1) := by decide +kernel
theorem dX6_hashCells_1 : decode cX6_hashCells 1 = .ok (.lstore_n 3, 1) := by decide +kernel
theorem dX6_hashCells_2 : decode cX6_hashCells 2 = .ok (.iconst 0, 1) := by decide +kernel
theorem dX6_hashCells_3 : decode cX6_hashCells 3 = .ok (.istore 5, 2) := by decide +kernel
theorem dX6_hashCells_5 : decode cX6_hashCells 5 = .ok (.iload 5, 2) := by decide +kernel
theorem dX6_hashCells_7 : decode cX6_hashCells 7 = .ok (.bipush 64, 2) := by decide +kernel
theorem dX6_hashCells_9 : decode cX6_hashCells 9 = .ok (.if_icmp .ge 42, 3) := by decide +kernel
theorem dX6_hashCells_12 : decode cX6_hashCells 12 = .ok (.iconst 0, 1) := by decide +kernel
theorem dX6_hashCells_13 : decode cX6_hashCells 13 = .ok (.istore 6, 2) := by decide +kernel
theorem dX6_hashCells_15 : decode cX6_hashCells 15 = .ok (.iload 6, 2) := by decide +kernel
theorem dX6_hashCells_17 : decode cX6_hashCells 17 = .ok (.iconst 5, 1) := by decide +kernel
theorem dX6_hashCells_18 : decode cX6_hashCells 18 = .ok (.if_icmp .gt 27, 3) := by decide +kernel
theorem dX6_hashCells_21 : decode cX6_hashCells 21 = .ok (.ldc2_w 245, 3) := by decide +kernel
theorem dX6_hashCells_24 : decode cX6_hashCells 24 = .ok (.lload_n 3, 1) := by decide +kernel
theorem dX6_hashCells_25 : decode cX6_hashCells 25 = .ok (.lmul, 1) := by decide +kernel
theorem dX6_hashCells_26 : decode cX6_hashCells 26 = .ok (.aload_n 0, 1) := by decide +kernel
theorem dX6_hashCells_27 : decode cX6_hashCells 27 = .ok (.lconst 1, 1) := by decide +kernel
theorem dX6_hashCells_28 : decode cX6_hashCells 28 = .ok (.iload 5, 2) := by decide +kernel
theorem dX6_hashCells_30 : decode cX6_hashCells 30 = .ok (.lshl, 1) := by decide +kernel
theorem dX6_hashCells_31 : decode cX6_hashCells 31 = .ok (.iload 6, 2) := by decide +kernel
theorem dX6_hashCells_33 : decode cX6_hashCells 33 = .ok (.invokevirtual 184, 3) := by decide +kernel
theorem dX6_hashCells_36 : decode cX6_hashCells 36 = .ok (.i2l, 1) := by decide +kernel
theorem dX6_hashCells_37 : decode cX6_hashCells 37 = .ok (.ladd, 1) := by decide +kernel
theorem dX6_hashCells_38 : decode cX6_hashCells 38 = .ok (.lstore_n 3, 1) := by decide +kernel
theorem dX6_hashCells_39 : decode cX6_hashCells 39 = .ok (.iinc 6 1, 3) := by decide +kernel
theorem dX6_hashCells_42 : decode cX6_hashCells 42 = .ok (.goto (-27), 3) := by decide +kernel
theorem dX6_hashCells_45 : decode cX6_hashCells 45 = .ok (.iinc 5 1, 3) := by decide +kernel
theorem dX6_hashCells_48 : decode cX6_hashCells 48 = .ok (.goto (-43), 3) := by decide +kernel
theorem dX6_hashCells_51 : decode cX6_hashCells 51 = .ok (.lload_n 3, 1) := by decide +kernel
theorem dX6_hashCells_52 : decode cX6_hashCells 52 = .ok (.lreturn, 1) := by decide +kernel
theorem dX6_hashLines_0 : decode cX6_hashLines 0 = .ok (.lload_n 1, 1) := by decide +kernel
theorem dX6_hashLines_1 : decode cX6_hashLines 1 = .ok (.lstore_n 3, 1) := by decide +kernel
theorem dX6_hashLines_2 : decode cX6_hashLines 2 = .ok (.iconst 0, 1) := by decide +kernel
theorem dX6_hashLines_3 : decode cX6_hashLines 3 = .ok (.istore 5, 2) := by decide +kernel
theorem dX6_hashLines_5 : decode cX6_hashLines 5 = .ok (.iload 5, 2) := by decide +kernel
theorem dX6_hashLines_7 : decode cX6_hashLines 7 = .ok (.bipush 81, 2) := by decide +kernel
theorem dX6_hashLines_9 : decode cX6_hashLines 9 = .ok (.if_icmp .ge 81, 3) := by decide +kernel
theorem dX6_hashLines_12 : decode cX6_hashLines 12 = .ok (.iconst 1, 1) := by decide +kernel
theorem dX6_hashLines_13 : decode cX6_hashLines 13 = .ok (.istore 6, 2) := by decide +kernel
theorem dX6_hashLines_15 : decode cX6_hashLines 15 = .ok (.iload 6, 2) := by decide +kernel
theorem dX6_hashLines_17 : decode cX6_hashLines 17 = .ok (.iconst 2, 1) := by decide +kernel
theorem dX6_hashLines_18 : decode cX6_hashLines 18 = .ok (.if_icmp .gt 66, 3) := by decide +kernel
theorem dX6_hashLines_21 : decode cX6_hashLines 21 = .ok (.iload 5, 2) := by decide +kernel
theorem dX6_hashLines_23 : decode cX6_hashLines 23 = .ok (.bipush 9, 2) := by decide +kernel
theorem dX6_hashLines_25 : decode cX6_hashLines 25 = .ok (.irem, 1) := by decide +kernel
theorem dX6_hashLines_26 : decode cX6_hashLines 26 = .ok (.iload 5, 2) := by decide +kernel
theorem dX6_hashLines_28 : decode cX6_hashLines 28 = .ok (.bipush 9, 2) := by decide +kernel
theorem dX6_hashLines_30 : decode cX6_hashLines 30 = .ok (.idiv, 1) := by decide +kernel
theorem dX6_hashLines_31 : decode cX6_hashLines 31 = .ok (.iload 6, 2) := by decide +kernel
theorem dX6_hashLines_33 : decode cX6_hashLines 33 = .ok (.invokestatic 188, 3) := by decide +kernel
theorem dX6_hashLines_36 : decode cX6_hashLines 36 = .ok (.istore 7, 2) := by decide +kernel
theorem dX6_hashLines_38 : decode cX6_hashLines 38 = .ok (.iload 7, 2) := by decide +kernel
theorem dX6_hashLines_40 : decode cX6_hashLines 40 = .ok (.iconst (-1), 1) := by decide +kernel
theorem dX6_hashLines_41 : decode cX6_hashLines 41 = .ok (.if_icmp .ne 6, 3) := by decide +kernel
theorem dX6_hashLines_44 : decode cX6_hashLines 44 = .ok (.goto 34, 3) := by decide +kernel
theorem dX6_hashLines_47 : decode cX6_hashLines 47 = .ok (.iconst 0, 1) := by decide +kernel
theorem dX6_hashLines_48 : decode cX6_hashLines 48 = .ok (.istore 8, 2) := by decide +kernel
theorem dX6_hashLines_50 : decode cX6_hashLines 50 = .ok (.iload 8, 2) := by decide +kernel
theorem dX6_hashLines_52 : decode cX6_hashLines 52 = .ok (.iconst 2, 1) := by decide +kernel
theorem dX6_hashLines_53 : decode cX6_hashLines 53 = .ok (.if_icmp .gt 25, 3) := by decide +kernel
theorem dX6_hashLines_56 : decode cX6_hashLines 56 = .ok (.ldc2_w 245, 3) := by decide +kernel
theorem dX6_hashLines_59 : decode cX6_hashLines 59 = .ok (.lload_n 3, 1) := by decide +kernel
theorem dX6_hashLines_60 : decode cX6_hashLines 60 = .ok (.lmul, 1) := by decide +kernel
theorem dX6_hashLines_61 : decode cX6_hashLines 61 = .ok (.aload_n 0, 1) := by decide +kernel
theorem dX6_hashLines_62 : decode cX6_hashLines 62 = .ok (.iload 7, 2) := by decide +kernel
theorem dX6_hashLines_64 : decode cX6_hashLines 64 = .ok (.iload 8, 2) := by decide +kernel
theorem dX6_hashLines_66 : decode cX6_hashLines 66 = .ok (.invokevirtual 201, 3) := by decide +kernel
theorem dX6_hashLines_69 : decode cX6_hashLines 69 = .ok (.i2l, 1) := by decide +kernel
theorem dX6_hashLines_70 : decode cX6_hashLines 70 = .ok (.ladd, 1) := by decide +kernel
theorem dX6_hashLines_71 : decode cX6_hashLines 71 = .ok (.lstore_n 3, 1) := by decide +kernel
theorem dX6_hashLines_72 : decode cX6_hashLines 72 = .ok (.iinc 8 1, 3) := by decide +kernel
theorem dX6_hashLines_75 : decode cX6_hashLines 75 = .ok (.goto (-25), 3) := by decide +kernel
theorem dX6_hashLines_78 : decode cX6_hashLines 78 = .ok (.iinc 6 1, 3) := by decide +kernel
theorem dX6_hashLines_81 : decode cX6_hashLines 81 = .ok (.goto (-66), 3) := by decide +kernel
theorem dX6_hashLines_84 : decode cX6_hashLines 84 = .ok (.iinc 5 1, 3) := by decide +kernel
theorem dX6_hashLines_87 : decode cX6_hashLines 87 = .ok (.goto (-82), 3) := by decide +kernel
theorem dX6_hashLines_90 : decode cX6_hashLines 90 = .ok (.lload_n 3, 1) := by decide +kernel
theorem dX6_hashLines_91 : decode cX6_hashLines 91 = .ok (.lreturn, 1) := by decide +kernel
theorem dX6_hashSkaters_0 : decode cX6_hashSkaters 0 = .ok (.lload_n 1, 1) := by decide +kernel
theorem dX6_hashSkaters_1 : decode cX6_hashSkaters 1 = .ok (.lstore_n 3, 1) := by decide +kernel
theorem dX6_hashSkaters_2 : decode cX6_hashSkaters 2 = .ok (.iconst 0, 1) := by decide +kernel
theorem dX6_hashSkaters_3 : decode cX6_hashSkaters 3 = .ok (.istore 5, 2) := by decide +kernel
theorem dX6_hashSkaters_5 : decode cX6_hashSkaters 5 = .ok (.iload 5, 2) := by decide +kernel
theorem dX6_hashSkaters_7 : decode cX6_hashSkaters 7 = .ok (.iconst 3, 1) := by decide +kernel
theorem dX6_hashSkaters_8 : decode cX6_hashSkaters 8 = .ok (.if_icmp .ge 89, 3) := by decide +kernel
theorem dX6_hashSkaters_11 : decode cX6_hashSkaters 11 = .ok (.iconst 0, 1) := by decide +kernel
theorem dX6_hashSkaters_12 : decode cX6_hashSkaters 12 = .ok (.istore 6, 2) := by decide +kernel
theorem dX6_hashSkaters_14 : decode cX6_hashSkaters 14 = .ok (.iload 6, 2) := by decide +kernel
theorem dX6_hashSkaters_16 : decode cX6_hashSkaters 16 = .ok (.bipush 8, 2) := by decide +kernel
theorem dX6_hashSkaters_18 : decode cX6_hashSkaters 18 = .ok (.if_icmp .gt 25, 3) := by decide +kernel
theorem dX6_hashSkaters_21 : decode cX6_hashSkaters 21 = .ok (.ldc2_w 245, 3) := by decide +kernel
theorem dX6_hashSkaters_24 : decode cX6_hashSkaters 24 = .ok (.lload_n 3, 1) := by decide +kernel
theorem dX6_hashSkaters_25 : decode cX6_hashSkaters 25 = .ok (.lmul, 1) := by decide +kernel
theorem dX6_hashSkaters_26 : decode cX6_hashSkaters 26 = .ok (.aload_n 0, 1) := by decide +kernel
theorem dX6_hashSkaters_27 : decode cX6_hashSkaters 27 = .ok (.iload 5, 2) := by decide +kernel
theorem dX6_hashSkaters_29 : decode cX6_hashSkaters 29 = .ok (.iload 6, 2) := by decide +kernel
theorem dX6_hashSkaters_31 : decode cX6_hashSkaters 31 = .ok (.invokevirtual 205, 3) := by decide +kernel
theorem dX6_hashSkaters_34 : decode cX6_hashSkaters 34 = .ok (.i2l, 1) := by decide +kernel
theorem dX6_hashSkaters_35 : decode cX6_hashSkaters 35 = .ok (.ladd, 1) := by decide +kernel
theorem dX6_hashSkaters_36 : decode cX6_hashSkaters 36 = .ok (.lstore_n 3, 1) := by decide +kernel
theorem dX6_hashSkaters_37 : decode cX6_hashSkaters 37 = .ok (.iinc 6 1, 3) := by decide +kernel
theorem dX6_hashSkaters_40 : decode cX6_hashSkaters 40 = .ok (.goto (-26), 3) := by decide +kernel
theorem dX6_hashSkaters_43 : decode cX6_hashSkaters 43 = .ok (.iconst 0, 1) := by decide +kernel
theorem dX6_hashSkaters_44 : decode cX6_hashSkaters 44 = .ok (.istore 6, 2) := by decide +kernel
theorem dX6_hashSkaters_46 : decode cX6_hashSkaters 46 = .ok (.iload 6, 2) := by decide +kernel
theorem dX6_hashSkaters_48 : decode cX6_hashSkaters 48 = .ok (.iconst 3, 1) := by decide +kernel
theorem dX6_hashSkaters_49 : decode cX6_hashSkaters 49 = .ok (.if_icmp .gt 28, 3) := by decide +kernel
theorem dX6_hashSkaters_52 : decode cX6_hashSkaters 52 = .ok (.ldc2_w 245, 3) := by decide +kernel
theorem dX6_hashSkaters_55 : decode cX6_hashSkaters 55 = .ok (.lload_n 3, 1) := by decide +kernel
theorem dX6_hashSkaters_56 : decode cX6_hashSkaters 56 = .ok (.lmul, 1) := by decide +kernel
theorem dX6_hashSkaters_57 : decode cX6_hashSkaters 57 = .ok (.aload_n 0, 1) := by decide +kernel
theorem dX6_hashSkaters_58 : decode cX6_hashSkaters 58 = .ok (.getfield 10, 3) := by decide +kernel
theorem dX6_hashSkaters_61 : decode cX6_hashSkaters 61 = .ok (.iload 5, 2) := by decide +kernel
theorem dX6_hashSkaters_63 : decode cX6_hashSkaters 63 = .ok (.iload 6, 2) := by decide +kernel
theorem dX6_hashSkaters_65 : decode cX6_hashSkaters 65 = .ok (.invokevirtual 222, 3) := by decide +kernel
theorem dX6_hashSkaters_68 : decode cX6_hashSkaters 68 = .ok (.i2l, 1) := by decide +kernel
theorem dX6_hashSkaters_69 : decode cX6_hashSkaters 69 = .ok (.ladd, 1) := by decide +kernel
theorem dX6_hashSkaters_70 : decode cX6_hashSkaters 70 = .ok (.lstore_n 3, 1) := by decide +kernel
theorem dX6_hashSkaters_71 : decode cX6_hashSkaters 71 = .ok (.iinc 6 1, 3) := by decide +kernel
theorem dX6_hashSkaters_74 : decode cX6_hashSkaters 74 = .ok (.goto (-28), 3) := by decide +kernel
theorem dX6_hashSkaters_77 : decode cX6_hashSkaters 77 = .ok (.ldc2_w 245, 3) := by decide +kernel
theorem dX6_hashSkaters_80 : decode cX6_hashSkaters 80 = .ok (.lload_n 3, 1) := by decide +kernel
theorem dX6_hashSkaters_81 : decode cX6_hashSkaters 81 = .ok (.lmul, 1) := by decide +kernel
theorem dX6_hashSkaters_82 : decode cX6_hashSkaters 82 = .ok (.aload_n 0, 1) := by decide +kernel
theorem dX6_hashSkaters_83 : decode cX6_hashSkaters 83 = .ok (.iload 5, 2) := by decide +kernel
theorem dX6_hashSkaters_85 : decode cX6_hashSkaters 85 = .ok (.invokevirtual 236, 3) := by decide +kernel
theorem dX6_hashSkaters_88 : decode cX6_hashSkaters 88 = .ok (.i2l, 1) := by decide +kernel
theorem dX6_hashSkaters_89 : decode cX6_hashSkaters 89 = .ok (.ladd, 1) := by decide +kernel
theorem dX6_hashSkaters_90 : decode cX6_hashSkaters 90 = .ok (.lstore_n 3, 1) := by decide +kernel
theorem dX6_hashSkaters_91 : decode cX6_hashSkaters 91 = .ok (.iinc 5 1, 3) := by decide +kernel
theorem dX6_hashSkaters_94 : decode cX6_hashSkaters 94 = .ok (.goto (-89), 3) := by decide +kernel
theorem dX6_hashSkaters_97 : decode cX6_hashSkaters 97 = .ok (.lload_n 3, 1) := by decide +kernel
theorem dX6_hashSkaters_98 : decode cX6_hashSkaters 98 = .ok (.lreturn, 1) := by decide +kernel
theorem dX6_hashRinks_0 : decode cX6_hashRinks 0 = .ok (.lload_n 1, 1) := by decide +kernel
theorem dX6_hashRinks_1 : decode cX6_hashRinks 1 = .ok (.lstore_n 3, 1) := by decide +kernel
theorem dX6_hashRinks_2 : decode cX6_hashRinks 2 = .ok (.aload_n 0, 1) := by decide +kernel
theorem dX6_hashRinks_3 : decode cX6_hashRinks 3 = .ok (.getfield 10, 3) := by decide +kernel
theorem dX6_hashRinks_6 : decode cX6_hashRinks 6 = .ok (.getfield 289, 3) := by decide +kernel
theorem dX6_hashRinks_9 : decode cX6_hashRinks 9 = .ok (.lstore 5, 2) := by decide +kernel
theorem dX6_hashRinks_11 : decode cX6_hashRinks 11 = .ok (.iconst 0, 1) := by decide +kernel
theorem dX6_hashRinks_12 : decode cX6_hashRinks 12 = .ok (.istore 7, 2) := by decide +kernel
theorem dX6_hashRinks_14 : decode cX6_hashRinks 14 = .ok (.iload 7, 2) := by decide +kernel
theorem dX6_hashRinks_16 : decode cX6_hashRinks 16 = .ok (.bipush 64, 2) := by decide +kernel
theorem dX6_hashRinks_18 : decode cX6_hashRinks 18 = .ok (.if_icmp .ge 72, 3) := by decide +kernel
theorem dX6_hashRinks_21 : decode cX6_hashRinks 21 = .ok (.lload 5, 2) := by decide +kernel
theorem dX6_hashRinks_23 : decode cX6_hashRinks 23 = .ok (.lconst 0, 1) := by decide +kernel
theorem dX6_hashRinks_24 : decode cX6_hashRinks 24 = .ok (.lcmp, 1) := by decide +kernel
theorem dX6_hashRinks_25 : decode cX6_hashRinks 25 = .ok (.ifCond .eq 65, 3) := by decide +kernel
theorem dX6_hashRinks_28 : decode cX6_hashRinks 28 = .ok (.aload_n 0, 1) := by decide +kernel
theorem dX6_hashRinks_29 : decode cX6_hashRinks 29 = .ok (.getfield 10, 3) := by decide +kernel
theorem dX6_hashRinks_32 : decode cX6_hashRinks 32 = .ok (.lload 5, 2) := by decide +kernel
theorem dX6_hashRinks_34 : decode cX6_hashRinks 34 = .ok (.invokestatic 356, 3) := by decide +kernel
theorem dX6_hashRinks_37 : decode cX6_hashRinks 37 = .ok (.invokevirtual 275, 3) := by decide +kernel
theorem dX6_hashRinks_40 : decode cX6_hashRinks 40 = .ok (.lstore 8, 2) := by decide +kernel
theorem dX6_hashRinks_42 : decode cX6_hashRinks 42 = .ok (.iconst 0, 1) := by decide +kernel
theorem dX6_hashRinks_43 : decode cX6_hashRinks 43 = .ok (.istore 10, 2) := by decide +kernel
theorem dX6_hashRinks_45 : decode cX6_hashRinks 45 = .ok (.iload 10, 2) := by decide +kernel
theorem dX6_hashRinks_47 : decode cX6_hashRinks 47 = .ok (.iconst 2, 1) := by decide +kernel
theorem dX6_hashRinks_48 : decode cX6_hashRinks 48 = .ok (.if_icmp .gt 25, 3) := by decide +kernel
theorem dX6_hashRinks_51 : decode cX6_hashRinks 51 = .ok (.ldc2_w 245, 3) := by decide +kernel
theorem dX6_hashRinks_54 : decode cX6_hashRinks 54 = .ok (.lload_n 3, 1) := by decide +kernel
theorem dX6_hashRinks_55 : decode cX6_hashRinks 55 = .ok (.lmul, 1) := by decide +kernel
theorem dX6_hashRinks_56 : decode cX6_hashRinks 56 = .ok (.aload_n 0, 1) := by decide +kernel
theorem dX6_hashRinks_57 : decode cX6_hashRinks 57 = .ok (.lload 8, 2) := by decide +kernel
theorem dX6_hashRinks_59 : decode cX6_hashRinks 59 = .ok (.iload 10, 2) := by decide +kernel
theorem dX6_hashRinks_61 : decode cX6_hashRinks 61 = .ok (.invokevirtual 214, 3) := by decide +kernel
theorem dX6_hashRinks_64 : decode cX6_hashRinks 64 = .ok (.i2l, 1) := by decide +kernel
theorem dX6_hashRinks_65 : decode cX6_hashRinks 65 = .ok (.ladd, 1) := by decide +kernel
theorem dX6_hashRinks_66 : decode cX6_hashRinks 66 = .ok (.lstore_n 3, 1) := by decide +kernel
theorem dX6_hashRinks_67 : decode cX6_hashRinks 67 = .ok (.iinc 10 1, 3) := by decide +kernel
theorem dX6_hashRinks_70 : decode cX6_hashRinks 70 = .ok (.goto (-25), 3) := by decide +kernel
theorem dX6_hashRinks_73 : decode cX6_hashRinks 73 = .ok (.lload 5, 2) := by decide +kernel
theorem dX6_hashRinks_75 : decode cX6_hashRinks 75 = .ok (.lload 8, 2) := by decide +kernel
theorem dX6_hashRinks_77 : decode cX6_hashRinks 77 = .ok (.ldc2_w 293, 3) := by decide +kernel
theorem dX6_hashRinks_80 : decode cX6_hashRinks 80 = .ok (.lxor, 1) := by decide +kernel
theorem dX6_hashRinks_81 : decode cX6_hashRinks 81 = .ok (.land, 1) := by decide +kernel
theorem dX6_hashRinks_82 : decode cX6_hashRinks 82 = .ok (.lstore 5, 2) := by decide +kernel
theorem dX6_hashRinks_84 : decode cX6_hashRinks 84 = .ok (.iinc 7 1, 3) := by decide +kernel
theorem dX6_hashRinks_87 : decode cX6_hashRinks 87 = .ok (.goto (-73), 3) := by decide +kernel
theorem dX6_hashRinks_90 : decode cX6_hashRinks 90 = .ok (.lload_n 3, 1) := by decide +kernel
theorem dX6_hashRinks_91 : decode cX6_hashRinks 91 = .ok (.lreturn, 1) := by decide +kernel
theorem dX6_hashText_0 : decode cX6_hashText 0 = .ok (.ldc2_w 245, 3) := by decide +kernel
theorem dX6_hashText_3 : decode cX6_hashText 3 = .ok (.lload_n 1, 1) := by decide +kernel
theorem dX6_hashText_4 : decode cX6_hashText 4 = .ok (.lmul, 1) := by decide +kernel
theorem dX6_hashText_5 : decode cX6_hashText 5 = .ok (.aload_n 0, 1) := by decide +kernel
theorem dX6_hashText_6 : decode cX6_hashText 6 = .ok (.getfield 32, 3) := by decide +kernel
theorem dX6_hashText_9 : decode cX6_hashText 9 = .ok (.getfield 151, 3) := by decide +kernel
theorem dX6_hashText_12 : decode cX6_hashText 12 = .ok (.i2l, 1) := by decide +kernel
theorem dX6_hashText_13 : decode cX6_hashText 13 = .ok (.ladd, 1) := by decide +kernel
theorem dX6_hashText_14 : decode cX6_hashText 14 = .ok (.lstore_n 3, 1) := by decide +kernel
theorem dX6_hashText_15 : decode cX6_hashText 15 = .ok (.iconst 0, 1) := by decide +kernel
theorem dX6_hashText_16 : decode cX6_hashText 16 = .ok (.istore 5, 2) := by decide +kernel
theorem dX6_hashText_18 : decode cX6_hashText 18 = .ok (.iload 5, 2) := by decide +kernel
theorem dX6_hashText_20 : decode cX6_hashText 20 = .ok (.aload_n 0, 1) := by decide +kernel
theorem dX6_hashText_21 : decode cX6_hashText 21 = .ok (.getfield 32, 3) := by decide +kernel
theorem dX6_hashText_24 : decode cX6_hashText 24 = .ok (.getfield 151, 3) := by decide +kernel
theorem dX6_hashText_27 : decode cX6_hashText 27 = .ok (.if_icmp .ge 27, 3) := by decide +kernel
theorem dX6_hashText_30 : decode cX6_hashText 30 = .ok (.ldc2_w 245, 3) := by decide +kernel
theorem dX6_hashText_33 : decode cX6_hashText 33 = .ok (.lload_n 3, 1) := by decide +kernel
theorem dX6_hashText_34 : decode cX6_hashText 34 = .ok (.lmul, 1) := by decide +kernel
theorem dX6_hashText_35 : decode cX6_hashText 35 = .ok (.aload_n 0, 1) := by decide +kernel
theorem dX6_hashText_36 : decode cX6_hashText 36 = .ok (.getfield 32, 3) := by decide +kernel
theorem dX6_hashText_39 : decode cX6_hashText 39 = .ok (.getfield 359, 3) := by decide +kernel
theorem dX6_hashText_42 : decode cX6_hashText 42 = .ok (.iload 5, 2) := by decide +kernel
theorem dX6_hashText_44 : decode cX6_hashText 44 = .ok (.iaload, 1) := by decide +kernel
theorem dX6_hashText_45 : decode cX6_hashText 45 = .ok (.i2l, 1) := by decide +kernel
theorem dX6_hashText_46 : decode cX6_hashText 46 = .ok (.ladd, 1) := by decide +kernel
theorem dX6_hashText_47 : decode cX6_hashText 47 = .ok (.lstore_n 3, 1) := by decide +kernel
theorem dX6_hashText_48 : decode cX6_hashText 48 = .ok (.iinc 5 1, 3) := by decide +kernel
theorem dX6_hashText_51 : decode cX6_hashText 51 = .ok (.goto (-33), 3) := by decide +kernel
theorem dX6_hashText_54 : decode cX6_hashText 54 = .ok (.lload_n 3, 1) := by decide +kernel
theorem dX6_hashText_55 : decode cX6_hashText 55 = .ok (.lreturn, 1) := by decide +kernel
theorem dX6_floatingBits_0 : decode cX6_floatingBits 0 = .ok (.dload_n 0, 1) := by decide +kernel
theorem dX6_floatingBits_1 : decode cX6_floatingBits 1 = .ok (.dconst 0, 1) := by decide +kernel
theorem dX6_floatingBits_2 : decode cX6_floatingBits 2 = .ok (.dcmp .l, 1) := by decide +kernel
theorem dX6_floatingBits_3 : decode cX6_floatingBits 3 = .ok (.ifCond .gt 5, 3) := by decide +kernel
theorem dX6_floatingBits_6 : decode cX6_floatingBits 6 = .ok (.lconst 0, 1) := by decide +kernel
theorem dX6_floatingBits_7 : decode cX6_floatingBits 7 = .ok (.lreturn, 1) := by decide +kernel
theorem dX6_floatingBits_8 : decode cX6_floatingBits 8 = .ok (.dload_n 0, 1) := by decide +kernel
theorem dX6_floatingBits_9 : decode cX6_floatingBits 9 = .ok (.dstore 4, 2) := by decide +kernel
theorem dX6_floatingBits_11 : decode cX6_floatingBits 11 = .ok (.iload_n 2, 1) := by decide +kernel
theorem dX6_floatingBits_12 : decode cX6_floatingBits 12 = .ok (.i2l, 1) := by decide +kernel
theorem dX6_floatingBits_13 : decode cX6_floatingBits 13 = .ok (.lstore 6, 2) := by decide +kernel
theorem dX6_floatingBits_15 : decode cX6_floatingBits 15 = .ok (.iconst 0, 1) := by decide +kernel
theorem dX6_floatingBits_16 : decode cX6_floatingBits 16 = .ok (.istore 8, 2) := by decide +kernel
theorem dX6_floatingBits_18 : decode cX6_floatingBits 18 = .ok (.iload 8, 2) := by decide +kernel
theorem dX6_floatingBits_20 : decode cX6_floatingBits 20 = .ok (.bipush 64, 2) := by decide +kernel
theorem dX6_floatingBits_22 : decode cX6_floatingBits 22 = .ok (.if_icmp .ge 32, 3) := by decide +kernel
theorem dX6_floatingBits_25 : decode cX6_floatingBits 25 = .ok (.dload 4, 2) := by decide +kernel
theorem dX6_floatingBits_27 : decode cX6_floatingBits 27 = .ok (.ldc2_w 362, 3) := by decide +kernel
theorem dX6_floatingBits_30 : decode cX6_floatingBits 30 = .ok (.dcmp .l, 1) := by decide +kernel
theorem dX6_floatingBits_31 : decode cX6_floatingBits 31 = .ok (.ifCond .lt 23, 3) := by decide +kernel
theorem dX6_floatingBits_34 : decode cX6_floatingBits 34 = .ok (.dload 4, 2) := by decide +kernel
theorem dX6_floatingBits_36 : decode cX6_floatingBits 36 = .ok (.ldc2_w 362, 3) := by decide +kernel
theorem dX6_floatingBits_39 : decode cX6_floatingBits 39 = .ok (.ddiv, 1) := by decide +kernel
theorem dX6_floatingBits_40 : decode cX6_floatingBits 40 = .ok (.dstore 4, 2) := by decide +kernel
theorem dX6_floatingBits_42 : decode cX6_floatingBits 42 = .ok (.lload 6, 2) := by decide +kernel
theorem dX6_floatingBits_44 : decode cX6_floatingBits 44 = .ok (.lconst 1, 1) := by decide +kernel
theorem dX6_floatingBits_45 : decode cX6_floatingBits 45 = .ok (.ladd, 1) := by decide +kernel
theorem dX6_floatingBits_46 : decode cX6_floatingBits 46 = .ok (.lstore 6, 2) := by decide +kernel
theorem dX6_floatingBits_48 : decode cX6_floatingBits 48 = .ok (.iinc 8 1, 3) := by decide +kernel
theorem dX6_floatingBits_51 : decode cX6_floatingBits 51 = .ok (.goto (-33), 3) := by decide +kernel
theorem dX6_floatingBits_54 : decode cX6_floatingBits 54 = .ok (.iconst 0, 1) := by decide +kernel
theorem dX6_floatingBits_55 : decode cX6_floatingBits 55 = .ok (.istore 8, 2) := by decide +kernel
theorem dX6_floatingBits_57 : decode cX6_floatingBits 57 = .ok (.iload 8, 2) := by decide +kernel
theorem dX6_floatingBits_59 : decode cX6_floatingBits 59 = .ok (.bipush 64, 2) := by decide +kernel
theorem dX6_floatingBits_61 : decode cX6_floatingBits 61 = .ok (.if_icmp .ge 30, 3) := by decide +kernel
theorem dX6_floatingBits_64 : decode cX6_floatingBits 64 = .ok (.dload 4, 2) := by decide +kernel
theorem dX6_floatingBits_66 : decode cX6_floatingBits 66 = .ok (.dconst 1, 1) := by decide +kernel
theorem dX6_floatingBits_67 : decode cX6_floatingBits 67 = .ok (.dcmp .g, 1) := by decide +kernel
theorem dX6_floatingBits_68 : decode cX6_floatingBits 68 = .ok (.ifCond .ge 23, 3) := by decide +kernel
theorem dX6_floatingBits_71 : decode cX6_floatingBits 71 = .ok (.dload 4, 2) := by decide +kernel
theorem dX6_floatingBits_73 : decode cX6_floatingBits 73 = .ok (.ldc2_w 362, 3) := by decide +kernel
theorem dX6_floatingBits_76 : decode cX6_floatingBits 76 = .ok (.dmul, 1) := by decide +kernel
theorem dX6_floatingBits_77 : decode cX6_floatingBits 77 = .ok (.dstore 4, 2) := by decide +kernel
theorem dX6_floatingBits_79 : decode cX6_floatingBits 79 = .ok (.lload 6, 2) := by decide +kernel
theorem dX6_floatingBits_81 : decode cX6_floatingBits 81 = .ok (.lconst 1, 1) := by decide +kernel
theorem dX6_floatingBits_82 : decode cX6_floatingBits 82 = .ok (.lsub, 1) := by decide +kernel
theorem dX6_floatingBits_83 : decode cX6_floatingBits 83 = .ok (.lstore 6, 2) := by decide +kernel
theorem dX6_floatingBits_85 : decode cX6_floatingBits 85 = .ok (.iinc 8 1, 3) := by decide +kernel
theorem dX6_floatingBits_88 : decode cX6_floatingBits 88 = .ok (.goto (-31), 3) := by decide +kernel
theorem dX6_floatingBits_91 : decode cX6_floatingBits 91 = .ok (.dload 4, 2) := by decide +kernel
theorem dX6_floatingBits_93 : decode cX6_floatingBits 93 = .ok (.dconst 1, 1) := by decide +kernel
theorem dX6_floatingBits_94 : decode cX6_floatingBits 94 = .ok (.dsub, 1) := by decide +kernel
theorem dX6_floatingBits_95 : decode cX6_floatingBits 95 = .ok (.lconst 1, 1) := by decide +kernel
theorem dX6_floatingBits_96 : decode cX6_floatingBits 96 = .ok (.iload_n 3, 1) := by decide +kernel
theorem dX6_floatingBits_97 : decode cX6_floatingBits 97 = .ok (.lshl, 1) := by decide +kernel
theorem dX6_floatingBits_98 : decode cX6_floatingBits 98 = .ok (.l2d, 1) := by decide +kernel
theorem dX6_floatingBits_99 : decode cX6_floatingBits 99 = .ok (.dmul, 1) := by decide +kernel
theorem dX6_floatingBits_100 : decode cX6_floatingBits 100 = .ok (.dstore 8, 2) := by decide +kernel
theorem dX6_floatingBits_102 : decode cX6_floatingBits 102 = .ok (.lload 6, 2) := by decide +kernel
theorem dX6_floatingBits_104 : decode cX6_floatingBits 104 = .ok (.iload_n 3, 1) := by decide +kernel
theorem dX6_floatingBits_105 : decode cX6_floatingBits 105 = .ok (.lshl, 1) := by decide +kernel
theorem dX6_floatingBits_106 : decode cX6_floatingBits 106 = .ok (.dload 8, 2) := by decide +kernel
theorem dX6_floatingBits_108 : decode cX6_floatingBits 108 = .ok (.d2l, 1) := by decide +kernel
theorem dX6_floatingBits_109 : decode cX6_floatingBits 109 = .ok (.ladd, 1) := by decide +kernel
theorem dX6_floatingBits_110 : decode cX6_floatingBits 110 = .ok (.lreturn, 1) := by decide +kernel
theorem dX6_isSkater_0 : decode cX6_isSkater 0 = .ok (.iload_n 0, 1) := by decide +kernel
theorem dX6_isSkater_1 : decode cX6_isSkater 1 = .ok (.ifCond .lt 12, 3) := by decide +kernel
theorem dX6_isSkater_4 : decode cX6_isSkater 4 = .ok (.iload_n 0, 1) := by decide +kernel
theorem dX6_isSkater_5 : decode cX6_isSkater 5 = .ok (.iconst 3, 1) := by decide +kernel
theorem dX6_isSkater_6 : decode cX6_isSkater 6 = .ok (.if_icmp .ge 7, 3) := by decide +kernel
theorem dX6_isSkater_9 : decode cX6_isSkater 9 = .ok (.iconst 1, 1) := by decide +kernel
theorem dX6_isSkater_10 : decode cX6_isSkater 10 = .ok (.goto 4, 3) := by decide +kernel
theorem dX6_isSkater_13 : decode cX6_isSkater 13 = .ok (.iconst 0, 1) := by decide +kernel
theorem dX6_isSkater_14 : decode cX6_isSkater 14 = .ok (.ireturn, 1) := by decide +kernel
theorem dX6_isDirection_0 : decode cX6_isDirection 0 = .ok (.iload_n 0, 1) := by decide +kernel
theorem dX6_isDirection_1 : decode cX6_isDirection 1 = .ok (.ifCond .lt 12, 3) := by decide +kernel
theorem dX6_isDirection_4 : decode cX6_isDirection 4 = .ok (.iload_n 0, 1) := by decide +kernel
theorem dX6_isDirection_5 : decode cX6_isDirection 5 = .ok (.iconst 3, 1) := by decide +kernel
theorem dX6_isDirection_6 : decode cX6_isDirection 6 = .ok (.if_icmp .gt 7, 3) := by decide +kernel
theorem dX6_isDirection_9 : decode cX6_isDirection 9 = .ok (.iconst 1, 1) := by decide +kernel
theorem dX6_isDirection_10 : decode cX6_isDirection 10 = .ok (.goto 4, 3) := by decide +kernel
theorem dX6_isDirection_13 : decode cX6_isDirection 13 = .ok (.iconst 0, 1) := by decide +kernel
theorem dX6_isDirection_14 : decode cX6_isDirection 14 = .ok (.ireturn, 1) := by decide +kernel
theorem dX6_isSteps_0 : decode cX6_isSteps 0 = .ok (.iload_n 0, 1) := by decide +kernel
theorem dX6_isSteps_1 : decode cX6_isSteps 1 = .ok (.iconst 1, 1) := by decide +kernel
theorem dX6_isSteps_2 : decode cX6_isSteps 2 = .ok (.if_icmp .lt 13, 3) := by decide +kernel
theorem dX6_isSteps_5 : decode cX6_isSteps 5 = .ok (.iload_n 0, 1) := by decide +kernel
theorem dX6_isSteps_6 : decode cX6_isSteps 6 = .ok (.bipush 8, 2) := by decide +kernel
theorem dX6_isSteps_8 : decode cX6_isSteps 8 = .ok (.if_icmp .gt 7, 3) := by decide +kernel
theorem dX6_isSteps_11 : decode cX6_isSteps 11 = .ok (.iconst 1, 1) := by decide +kernel
theorem dX6_isSteps_12 : decode cX6_isSteps 12 = .ok (.goto 4, 3) := by decide +kernel
theorem dX6_isSteps_15 : decode cX6_isSteps 15 = .ok (.iconst 0, 1) := by decide +kernel
theorem dX6_isSteps_16 : decode cX6_isSteps 16 = .ok (.ireturn, 1) := by decide +kernel
theorem dX6_isPoint_0 : decode cX6_isPoint 0 = .ok (.iload_n 0, 1) := by decide +kernel
theorem dX6_isPoint_1 : decode cX6_isPoint 1 = .ok (.ifCond .lt 23, 3) := by decide +kernel
theorem dX6_isPoint_4 : decode cX6_isPoint 4 = .ok (.iload_n 0, 1) := by decide +kernel
theorem dX6_isPoint_5 : decode cX6_isPoint 5 = .ok (.bipush 9, 2) := by decide +kernel
theorem dX6_isPoint_7 : decode cX6_isPoint 7 = .ok (.if_icmp .ge 17, 3) := by decide +kernel
theorem dX6_isPoint_10 : decode cX6_isPoint 10 = .ok (.iload_n 1, 1) := by decide +kernel
theorem dX6_isPoint_11 : decode cX6_isPoint 11 = .ok (.ifCond .lt 13, 3) := by decide +kernel
theorem dX6_isPoint_14 : decode cX6_isPoint 14 = .ok (.iload_n 1, 1) := by decide +kernel
theorem dX6_isPoint_15 : decode cX6_isPoint 15 = .ok (.bipush 9, 2) := by decide +kernel
theorem dX6_isPoint_17 : decode cX6_isPoint 17 = .ok (.if_icmp .ge 7, 3) := by decide +kernel
theorem dX6_isPoint_20 : decode cX6_isPoint 20 = .ok (.iconst 1, 1) := by decide +kernel
theorem dX6_isPoint_21 : decode cX6_isPoint 21 = .ok (.goto 4, 3) := by decide +kernel
theorem dX6_isPoint_24 : decode cX6_isPoint 24 = .ok (.iconst 0, 1) := by decide +kernel
theorem dX6_isPoint_25 : decode cX6_isPoint 25 = .ok (.ireturn, 1) := by decide +kernel
theorem dX6_isSetting_0 : decode cX6_isSetting 0 = .ok (.iload_n 0, 1) := by decide +kernel
theorem dX6_isSetting_1 : decode cX6_isSetting 1 = .ok (.ifCond .lt 12, 3) := by decide +kernel
theorem dX6_isSetting_4 : decode cX6_isSetting 4 = .ok (.iload_n 0, 1) := by decide +kernel
theorem dX6_isSetting_5 : decode cX6_isSetting 5 = .ok (.iconst 3, 1) := by decide +kernel
theorem dX6_isSetting_6 : decode cX6_isSetting 6 = .ok (.if_icmp .ge 7, 3) := by decide +kernel
theorem dX6_isSetting_9 : decode cX6_isSetting 9 = .ok (.iconst 1, 1) := by decide +kernel
theorem dX6_isSetting_10 : decode cX6_isSetting 10 = .ok (.goto 4, 3) := by decide +kernel
theorem dX6_isSetting_13 : decode cX6_isSetting 13 = .ok (.iconst 0, 1) := by decide +kernel
theorem dX6_isSetting_14 : decode cX6_isSetting 14 = .ok (.ireturn, 1) := by decide +kernel
theorem dX6_leastValue_0 : decode cX6_leastValue 0 = .ok (.iload_n 0, 1) := by decide +kernel
theorem dX6_leastValue_1 : decode cX6_leastValue 1 = .ok (.ifCond .ne 7, 3) := by decide +kernel
theorem dX6_leastValue_4 : decode cX6_leastValue 4 = .ok (.iconst 0, 1) := by decide +kernel
theorem dX6_leastValue_5 : decode cX6_leastValue 5 = .ok (.goto 4, 3) := by decide +kernel
theorem dX6_leastValue_8 : decode cX6_leastValue 8 = .ok (.iconst 1, 1) := by decide +kernel
theorem dX6_leastValue_9 : decode cX6_leastValue 9 = .ok (.ireturn, 1) := by decide +kernel
theorem dX6_mostValue_0 : decode cX6_mostValue 0 = .ok (.iload_n 0, 1) := by decide +kernel
theorem dX6_mostValue_1 : decode cX6_mostValue 1 = .ok (.iconst 2, 1) := by decide +kernel
theorem dX6_mostValue_2 : decode cX6_mostValue 2 = .ok (.if_icmp .ne 7, 3) := by decide +kernel
theorem dX6_mostValue_5 : decode cX6_mostValue 5 = .ok (.iconst 4, 1) := by decide +kernel
theorem dX6_mostValue_6 : decode cX6_mostValue 6 = .ok (.goto 5, 3) := by decide +kernel
theorem dX6_mostValue_9 : decode cX6_mostValue 9 = .ok (.bipush 9, 2) := by decide +kernel
theorem dX6_mostValue_11 : decode cX6_mostValue 11 = .ok (.ireturn, 1) := by decide +kernel
theorem dX6_cellBit_0 : decode cX6_cellBit 0 = .ok (.iload_n 0, 1) := by decide +kernel
theorem dX6_cellBit_1 : decode cX6_cellBit 1 = .ok (.ifCond .lt 23, 3) := by decide +kernel
theorem dX6_cellBit_4 : decode cX6_cellBit 4 = .ok (.iload_n 0, 1) := by decide +kernel
theorem dX6_cellBit_5 : decode cX6_cellBit 5 = .ok (.bipush 8, 2) := by decide +kernel
theorem dX6_cellBit_7 : decode cX6_cellBit 7 = .ok (.if_icmp .ge 17, 3) := by decide +kernel
theorem dX6_cellBit_10 : decode cX6_cellBit 10 = .ok (.iload_n 1, 1) := by decide +kernel
theorem dX6_cellBit_11 : decode cX6_cellBit 11 = .ok (.ifCond .lt 13, 3) := by decide +kernel
theorem dX6_cellBit_14 : decode cX6_cellBit 14 = .ok (.iload_n 1, 1) := by decide +kernel
theorem dX6_cellBit_15 : decode cX6_cellBit 15 = .ok (.bipush 8, 2) := by decide +kernel
theorem dX6_cellBit_17 : decode cX6_cellBit 17 = .ok (.if_icmp .ge 7, 3) := by decide +kernel
theorem dX6_cellBit_20 : decode cX6_cellBit 20 = .ok (.iconst 1, 1) := by decide +kernel
theorem dX6_cellBit_21 : decode cX6_cellBit 21 = .ok (.goto 4, 3) := by decide +kernel
theorem dX6_cellBit_24 : decode cX6_cellBit 24 = .ok (.iconst 0, 1) := by decide +kernel
theorem dX6_cellBit_25 : decode cX6_cellBit 25 = .ok (.istore_n 2, 1) := by decide +kernel
theorem dX6_cellBit_26 : decode cX6_cellBit 26 = .ok (.iload_n 2, 1) := by decide +kernel
theorem dX6_cellBit_27 : decode cX6_cellBit 27 = .ok (.ifCond .eq 14, 3) := by decide +kernel
theorem dX6_cellBit_30 : decode cX6_cellBit 30 = .ok (.lconst 1, 1) := by decide +kernel
theorem dX6_cellBit_31 : decode cX6_cellBit 31 = .ok (.bipush 8, 2) := by decide +kernel
theorem dX6_cellBit_33 : decode cX6_cellBit 33 = .ok (.iload_n 1, 1) := by decide +kernel
theorem dX6_cellBit_34 : decode cX6_cellBit 34 = .ok (.imul, 1) := by decide +kernel
theorem dX6_cellBit_35 : decode cX6_cellBit 35 = .ok (.iload_n 0, 1) := by decide +kernel
theorem dX6_cellBit_36 : decode cX6_cellBit 36 = .ok (.iadd, 1) := by decide +kernel
theorem dX6_cellBit_37 : decode cX6_cellBit 37 = .ok (.lshl, 1) := by decide +kernel
theorem dX6_cellBit_38 : decode cX6_cellBit 38 = .ok (.goto 4, 3) := by decide +kernel
theorem dX6_cellBit_41 : decode cX6_cellBit 41 = .ok (.lconst 0, 1) := by decide +kernel
theorem dX6_cellBit_42 : decode cX6_cellBit 42 = .ok (.lreturn, 1) := by decide +kernel
theorem dX6_lowestBit_0 : decode cX6_lowestBit 0 = .ok (.lload_n 0, 1) := by decide +kernel
theorem dX6_lowestBit_1 : decode cX6_lowestBit 1 = .ok (.lload_n 0, 1) := by decide +kernel
theorem dX6_lowestBit_2 : decode cX6_lowestBit 2 = .ok (.lneg, 1) := by decide +kernel
theorem dX6_lowestBit_3 : decode cX6_lowestBit 3 = .ok (.land, 1) := by decide +kernel
theorem dX6_lowestBit_4 : decode cX6_lowestBit 4 = .ok (.lreturn, 1) := by decide +kernel
theorem dX6_lowestOf_0 : decode cX6_lowestOf 0 = .ok (.lload_n 0, 1) := by decide +kernel
theorem dX6_lowestOf_1 : decode cX6_lowestOf 1 = .ok (.invokestatic 356, 3) := by decide +kernel
theorem dX6_lowestOf_4 : decode cX6_lowestOf 4 = .ok (.lconst 1, 1) := by decide +kernel
theorem dX6_lowestOf_5 : decode cX6_lowestOf 5 = .ok (.lsub, 1) := by decide +kernel
theorem dX6_lowestOf_6 : decode cX6_lowestOf 6 = .ok (.invokestatic 281, 3) := by decide +kernel
theorem dX6_lowestOf_9 : decode cX6_lowestOf 9 = .ok (.ireturn, 1) := by decide +kernel
theorem dX6_northOf_0 : decode cX6_northOf 0 = .ok (.lload_n 0, 1) := by decide +kernel
theorem dX6_northOf_1 : decode cX6_northOf 1 = .ok (.bipush 8, 2) := by decide +kernel
theorem dX6_northOf_3 : decode cX6_northOf 3 = .ok (.lushr, 1) := by decide +kernel
theorem dX6_northOf_4 : decode cX6_northOf 4 = .ok (.lreturn, 1) := by decide +kernel
theorem dX6_southOf_0 : decode cX6_southOf 0 = .ok (.lload_n 0, 1) := by decide +kernel
theorem dX6_southOf_1 : decode cX6_southOf 1 = .ok (.bipush 8, 2) := by decide +kernel
theorem dX6_southOf_3 : decode cX6_southOf 3 = .ok (.lshl, 1) := by decide +kernel
theorem dX6_southOf_4 : decode cX6_southOf 4 = .ok (.lreturn, 1) := by decide +kernel
theorem dX6_westOf_0 : decode cX6_westOf 0 = .ok (.lload_n 0, 1) := by decide +kernel
theorem dX6_westOf_1 : decode cX6_westOf 1 = .ok (.ldc2_w 364, 3) := by decide +kernel
theorem dX6_westOf_4 : decode cX6_westOf 4 = .ok (.land, 1) := by decide +kernel
theorem dX6_westOf_5 : decode cX6_westOf 5 = .ok (.iconst 1, 1) := by decide +kernel
theorem dX6_westOf_6 : decode cX6_westOf 6 = .ok (.lushr, 1) := by decide +kernel
theorem dX6_westOf_7 : decode cX6_westOf 7 = .ok (.lreturn, 1) := by decide +kernel
theorem dX6_eastOf_0 : decode cX6_eastOf 0 = .ok (.lload_n 0, 1) := by decide +kernel
theorem dX6_eastOf_1 : decode cX6_eastOf 1 = .ok (.ldc2_w 366, 3) := by decide +kernel
theorem dX6_eastOf_4 : decode cX6_eastOf 4 = .ok (.land, 1) := by decide +kernel
theorem dX6_eastOf_5 : decode cX6_eastOf 5 = .ok (.iconst 1, 1) := by decide +kernel
theorem dX6_eastOf_6 : decode cX6_eastOf 6 = .ok (.lshl, 1) := by decide +kernel
theorem dX6_eastOf_7 : decode cX6_eastOf 7 = .ok (.lreturn, 1) := by decide +kernel
theorem dX6_cellsBeside_0 : decode cX6_cellsBeside 0 = .ok (.lload_n 0, 1) := by decide +kernel
theorem dX6_cellsBeside_1 : decode cX6_cellsBeside 1 = .ok (.invokestatic 368, 3) := by decide +kernel
theorem dX6_cellsBeside_4 : decode cX6_cellsBeside 4 = .ok (.lload_n 0, 1) := by decide +kernel
theorem dX6_cellsBeside_5 : decode cX6_cellsBeside 5 = .ok (.invokestatic 371, 3) := by decide +kernel
theorem dX6_cellsBeside_8 : decode cX6_cellsBeside 8 = .ok (.lor, 1) := by decide +kernel
theorem dX6_cellsBeside_9 : decode cX6_cellsBeside 9 = .ok (.lload_n 0, 1) := by decide +kernel
theorem dX6_cellsBeside_10 : decode cX6_cellsBeside 10 = .ok (.invokestatic 374, 3) := by decide +kernel
theorem dX6_cellsBeside_13 : decode cX6_cellsBeside 13 = .ok (.lor, 1) := by decide +kernel
theorem dX6_cellsBeside_14 : decode cX6_cellsBeside 14 = .ok (.lload_n 0, 1) := by decide +kernel
theorem dX6_cellsBeside_15 : decode cX6_cellsBeside 15 = .ok (.invokestatic 377, 3) := by decide +kernel
theorem dX6_cellsBeside_18 : decode cX6_cellsBeside 18 = .ok (.lor, 1) := by decide +kernel
theorem dX6_cellsBeside_19 : decode cX6_cellsBeside 19 = .ok (.lreturn, 1) := by decide +kernel
theorem dX6_thawingCells_0 : decode cX6_thawingCells 0 = .ok (.lload_n 0, 1) := by decide +kernel
theorem dX6_thawingCells_1 : decode cX6_thawingCells 1 = .ok (.ldc2_w 293, 3) := by decide +kernel
theorem dX6_thawingCells_4 : decode cX6_thawingCells 4 = .ok (.lxor, 1) := by decide +kernel
theorem dX6_thawingCells_5 : decode cX6_thawingCells 5 = .ok (.lstore_n 3, 1) := by decide +kernel
theorem dX6_thawingCells_6 : decode cX6_thawingCells 6 = .ok (.lload_n 3, 1) := by decide +kernel
theorem dX6_thawingCells_7 : decode cX6_thawingCells 7 = .ok (.invokestatic 374, 3) := by decide +kernel
theorem dX6_thawingCells_10 : decode cX6_thawingCells 10 = .ok (.lstore 5, 2) := by decide +kernel
theorem dX6_thawingCells_12 : decode cX6_thawingCells 12 = .ok (.lload_n 3, 1) := by decide +kernel
theorem dX6_thawingCells_13 : decode cX6_thawingCells 13 = .ok (.invokestatic 368, 3) := by decide +kernel
theorem dX6_thawingCells_16 : decode cX6_thawingCells 16 = .ok (.lstore 7, 2) := by decide +kernel
theorem dX6_thawingCells_18 : decode cX6_thawingCells 18 = .ok (.lload_n 3, 1) := by decide +kernel
theorem dX6_thawingCells_19 : decode cX6_thawingCells 19 = .ok (.invokestatic 371, 3) := by decide +kernel
theorem dX6_thawingCells_22 : decode cX6_thawingCells 22 = .ok (.lstore 9, 2) := by decide +kernel
theorem dX6_thawingCells_24 : decode cX6_thawingCells 24 = .ok (.lload_n 3, 1) := by decide +kernel
theorem dX6_thawingCells_25 : decode cX6_thawingCells 25 = .ok (.invokestatic 377, 3) := by decide +kernel
theorem dX6_thawingCells_28 : decode cX6_thawingCells 28 = .ok (.lstore 11, 2) := by decide +kernel
theorem dX6_thawingCells_30 : decode cX6_thawingCells 30 = .ok (.lload 5, 2) := by decide +kernel
theorem dX6_thawingCells_32 : decode cX6_thawingCells 32 = .ok (.lload 7, 2) := by decide +kernel
theorem dX6_thawingCells_34 : decode cX6_thawingCells 34 = .ok (.lor, 1) := by decide +kernel
theorem dX6_thawingCells_35 : decode cX6_thawingCells 35 = .ok (.lstore 13, 2) := by decide +kernel
theorem dX6_thawingCells_37 : decode cX6_thawingCells 37 = .ok (.lload 9, 2) := by decide +kernel
theorem dX6_thawingCells_39 : decode cX6_thawingCells 39 = .ok (.lload 11, 2) := by decide +kernel
theorem dX6_thawingCells_41 : decode cX6_thawingCells 41 = .ok (.lor, 1) := by decide +kernel
theorem dX6_thawingCells_42 : decode cX6_thawingCells 42 = .ok (.lstore 15, 2) := by decide +kernel
theorem dX6_thawingCells_44 : decode cX6_thawingCells 44 = .ok (.lload 5, 2) := by decide +kernel
theorem dX6_thawingCells_46 : decode cX6_thawingCells 46 = .ok (.lload 7, 2) := by decide +kernel
theorem dX6_thawingCells_48 : decode cX6_thawingCells 48 = .ok (.land, 1) := by decide +kernel
theorem dX6_thawingCells_49 : decode cX6_thawingCells 49 = .ok (.lstore 17, 2) := by decide +kernel
theorem dX6_thawingCells_51 : decode cX6_thawingCells 51 = .ok (.lload 9, 2) := by decide +kernel
theorem dX6_thawingCells_53 : decode cX6_thawingCells 53 = .ok (.lload 11, 2) := by decide +kernel
theorem dX6_thawingCells_55 : decode cX6_thawingCells 55 = .ok (.land, 1) := by decide +kernel
theorem dX6_thawingCells_56 : decode cX6_thawingCells 56 = .ok (.lstore 19, 2) := by decide +kernel
theorem dX6_thawingCells_58 : decode cX6_thawingCells 58 = .ok (.iload_n 2, 1) := by decide +kernel
theorem dX6_thawingCells_59 : decode cX6_thawingCells 59 = .ok (.tableswitch 61 1 3 #[25, 33, 47], 25) := by decide +kernel
theorem dX6_thawingCells_84 : decode cX6_thawingCells 84 = .ok (.lload_n 0, 1) := by decide +kernel
theorem dX6_thawingCells_85 : decode cX6_thawingCells 85 = .ok (.lload 13, 2) := by decide +kernel
theorem dX6_thawingCells_87 : decode cX6_thawingCells 87 = .ok (.lload 15, 2) := by decide +kernel
theorem dX6_thawingCells_89 : decode cX6_thawingCells 89 = .ok (.lor, 1) := by decide +kernel
theorem dX6_thawingCells_90 : decode cX6_thawingCells 90 = .ok (.land, 1) := by decide +kernel
theorem dX6_thawingCells_91 : decode cX6_thawingCells 91 = .ok (.lreturn, 1) := by decide +kernel
theorem dX6_thawingCells_92 : decode cX6_thawingCells 92 = .ok (.lload_n 0, 1) := by decide +kernel
theorem dX6_thawingCells_93 : decode cX6_thawingCells 93 = .ok (.lload 17, 2) := by decide +kernel
theorem dX6_thawingCells_95 : decode cX6_thawingCells 95 = .ok (.lload 19, 2) := by decide +kernel
theorem dX6_thawingCells_97 : decode cX6_thawingCells 97 = .ok (.lor, 1) := by decide +kernel
theorem dX6_thawingCells_98 : decode cX6_thawingCells 98 = .ok (.lload 13, 2) := by decide +kernel
theorem dX6_thawingCells_100 : decode cX6_thawingCells 100 = .ok (.lload 15, 2) := by decide +kernel
theorem dX6_thawingCells_102 : decode cX6_thawingCells 102 = .ok (.land, 1) := by decide +kernel
theorem dX6_thawingCells_103 : decode cX6_thawingCells 103 = .ok (.lor, 1) := by decide +kernel
theorem dX6_thawingCells_104 : decode cX6_thawingCells 104 = .ok (.land, 1) := by decide +kernel
theorem dX6_thawingCells_105 : decode cX6_thawingCells 105 = .ok (.lreturn, 1) := by decide +kernel
theorem dX6_thawingCells_106 : decode cX6_thawingCells 106 = .ok (.lload_n 0, 1) := by decide +kernel
theorem dX6_thawingCells_107 : decode cX6_thawingCells 107 = .ok (.lload 17, 2) := by decide +kernel
theorem dX6_thawingCells_109 : decode cX6_thawingCells 109 = .ok (.lload 15, 2) := by decide +kernel
theorem dX6_thawingCells_111 : decode cX6_thawingCells 111 = .ok (.land, 1) := by decide +kernel
theorem dX6_thawingCells_112 : decode cX6_thawingCells 112 = .ok (.lload 19, 2) := by decide +kernel
theorem dX6_thawingCells_114 : decode cX6_thawingCells 114 = .ok (.lload 13, 2) := by decide +kernel
theorem dX6_thawingCells_116 : decode cX6_thawingCells 116 = .ok (.land, 1) := by decide +kernel
theorem dX6_thawingCells_117 : decode cX6_thawingCells 117 = .ok (.lor, 1) := by decide +kernel
theorem dX6_thawingCells_118 : decode cX6_thawingCells 118 = .ok (.land, 1) := by decide +kernel
theorem dX6_thawingCells_119 : decode cX6_thawingCells 119 = .ok (.lreturn, 1) := by decide +kernel
theorem dX6_thawingCells_120 : decode cX6_thawingCells 120 = .ok (.lload_n 0, 1) := by decide +kernel
theorem dX6_thawingCells_121 : decode cX6_thawingCells 121 = .ok (.lload 17, 2) := by decide +kernel
theorem dX6_thawingCells_123 : decode cX6_thawingCells 123 = .ok (.land, 1) := by decide +kernel
theorem dX6_thawingCells_124 : decode cX6_thawingCells 124 = .ok (.lload 19, 2) := by decide +kernel
theorem dX6_thawingCells_126 : decode cX6_thawingCells 126 = .ok (.land, 1) := by decide +kernel
theorem dX6_thawingCells_127 : decode cX6_thawingCells 127 = .ok (.lreturn, 1) := by decide +kernel
theorem dJxe99ae_isNaN_b9ae7_0 : decode cJxe99ae_isNaN_b9ae7 0 = .ok (.dload_n 0, 1) := by decide +kernel
theorem dJxe99ae_isNaN_b9ae7_1 : decode cJxe99ae_isNaN_b9ae7 1 = .ok (.dload_n 0, 1) := by decide +kernel
theorem dJxe99ae_isNaN_b9ae7_2 : decode cJxe99ae_isNaN_b9ae7 2 = .ok (.dcmp .l, 1) := by decide +kernel
theorem dJxe99ae_isNaN_b9ae7_3 : decode cJxe99ae_isNaN_b9ae7 3 = .ok (.ifCond .eq 7, 3) := by decide +kernel
theorem dJxe99ae_isNaN_b9ae7_6 : decode cJxe99ae_isNaN_b9ae7 6 = .ok (.iconst 1, 1) := by decide +kernel
theorem dJxe99ae_isNaN_b9ae7_7 : decode cJxe99ae_isNaN_b9ae7 7 = .ok (.goto 4, 3) := by decide +kernel
theorem dJxe99ae_isNaN_b9ae7_10 : decode cJxe99ae_isNaN_b9ae7 10 = .ok (.iconst 0, 1) := by decide +kernel
theorem dJxe99ae_isNaN_b9ae7_11 : decode cJxe99ae_isNaN_b9ae7 11 = .ok (.ireturn, 1) := by decide +kernel
theorem dJxe99ae_doubleToLongBits_ccdee_0 : decode cJxe99ae_doubleToLongBits_ccdee 0 = .ok (.dload_n 0, 1) := by decide +kernel
theorem dJxe99ae_doubleToLongBits_ccdee_1 : decode cJxe99ae_doubleToLongBits_ccdee 1 = .ok (.invokestatic 122, 3) := by decide +kernel
theorem dJxe99ae_doubleToLongBits_ccdee_4 : decode cJxe99ae_doubleToLongBits_ccdee 4 = .ok (.ifCond .ne 8, 3) := by decide +kernel
theorem dJxe99ae_doubleToLongBits_ccdee_7 : decode cJxe99ae_doubleToLongBits_ccdee 7 = .ok (.dload_n 0, 1) := by decide +kernel
theorem dJxe99ae_doubleToLongBits_ccdee_8 : decode cJxe99ae_doubleToLongBits_ccdee 8 = .ok (.invokestatic 134, 3) := by decide +kernel
theorem dJxe99ae_doubleToLongBits_ccdee_11 : decode cJxe99ae_doubleToLongBits_ccdee 11 = .ok (.lreturn, 1) := by decide +kernel
theorem dJxe99ae_doubleToLongBits_ccdee_12 : decode cJxe99ae_doubleToLongBits_ccdee 12 = .ok (.ldc2_w 137, 3) := by decide +kernel
theorem dJxe99ae_doubleToLongBits_ccdee_15 : decode cJxe99ae_doubleToLongBits_ccdee 15 = .ok (.lreturn, 1) := by decide +kernel
theorem dJxf58ca_isNaN_12338_0 : decode cJxf58ca_isNaN_12338 0 = .ok (.fload_n 0, 1) := by decide +kernel
theorem dJxf58ca_isNaN_12338_1 : decode cJxf58ca_isNaN_12338 1 = .ok (.fload_n 0, 1) := by decide +kernel
theorem dJxf58ca_isNaN_12338_2 : decode cJxf58ca_isNaN_12338 2 = .ok (.fcmp .l, 1) := by decide +kernel
theorem dJxf58ca_isNaN_12338_3 : decode cJxf58ca_isNaN_12338 3 = .ok (.ifCond .eq 7, 3) := by decide +kernel
theorem dJxf58ca_isNaN_12338_6 : decode cJxf58ca_isNaN_12338 6 = .ok (.iconst 1, 1) := by decide +kernel
theorem dJxf58ca_isNaN_12338_7 : decode cJxf58ca_isNaN_12338 7 = .ok (.goto 4, 3) := by decide +kernel
theorem dJxf58ca_isNaN_12338_10 : decode cJxf58ca_isNaN_12338 10 = .ok (.iconst 0, 1) := by decide +kernel
theorem dJxf58ca_isNaN_12338_11 : decode cJxf58ca_isNaN_12338 11 = .ok (.ireturn, 1) := by decide +kernel
theorem dJxf58ca_floatToIntBits_5c35a_0 : decode cJxf58ca_floatToIntBits_5c35a 0 = .ok (.fload_n 0, 1) := by decide +kernel
theorem dJxf58ca_floatToIntBits_5c35a_1 : decode cJxf58ca_floatToIntBits_5c35a 1 = .ok (.invokestatic 59, 3) := by decide +kernel
theorem dJxf58ca_floatToIntBits_5c35a_4 : decode cJxf58ca_floatToIntBits_5c35a 4 = .ok (.ifCond .ne 8, 3) := by decide +kernel
theorem dJxf58ca_floatToIntBits_5c35a_7 : decode cJxf58ca_floatToIntBits_5c35a 7 = .ok (.fload_n 0, 1) := by decide +kernel
theorem dJxf58ca_floatToIntBits_5c35a_8 : decode cJxf58ca_floatToIntBits_5c35a 8 = .ok (.invokestatic 74, 3) := by decide +kernel
theorem dJxf58ca_floatToIntBits_5c35a_11 : decode cJxf58ca_floatToIntBits_5c35a 11 = .ok (.ireturn, 1) := by decide +kernel
theorem dJxf58ca_floatToIntBits_5c35a_12 : decode cJxf58ca_floatToIntBits_5c35a 12 = .ok (.ldc 77, 2) := by decide +kernel
theorem dJxf58ca_floatToIntBits_5c35a_14 : decode cJxf58ca_floatToIntBits_5c35a 14 = .ok (.ireturn, 1) := by decide +kernel
theorem dJ13_bitCount_95d88_0 : decode cJ13_bitCount_95d88 0 = .ok (.lload_n 0, 1) := by decide +kernel
theorem dJ13_bitCount_95d88_1 : decode cJ13_bitCount_95d88 1 = .ok (.lload_n 0, 1) := by decide +kernel
theorem dJ13_bitCount_95d88_2 : decode cJ13_bitCount_95d88 2 = .ok (.iconst 1, 1) := by decide +kernel
theorem dJ13_bitCount_95d88_3 : decode cJ13_bitCount_95d88 3 = .ok (.lushr, 1) := by decide +kernel
theorem dJ13_bitCount_95d88_4 : decode cJ13_bitCount_95d88 4 = .ok (.ldc2_w 314, 3) := by decide +kernel
theorem dJ13_bitCount_95d88_7 : decode cJ13_bitCount_95d88 7 = .ok (.land, 1) := by decide +kernel
theorem dJ13_bitCount_95d88_8 : decode cJ13_bitCount_95d88 8 = .ok (.lsub, 1) := by decide +kernel
theorem dJ13_bitCount_95d88_9 : decode cJ13_bitCount_95d88 9 = .ok (.lstore_n 0, 1) := by decide +kernel
theorem dJ13_bitCount_95d88_10 : decode cJ13_bitCount_95d88 10 = .ok (.lload_n 0, 1) := by decide +kernel
theorem dJ13_bitCount_95d88_11 : decode cJ13_bitCount_95d88 11 = .ok (.ldc2_w 316, 3) := by decide +kernel
theorem dJ13_bitCount_95d88_14 : decode cJ13_bitCount_95d88 14 = .ok (.land, 1) := by decide +kernel
theorem dJ13_bitCount_95d88_15 : decode cJ13_bitCount_95d88 15 = .ok (.lload_n 0, 1) := by decide +kernel
theorem dJ13_bitCount_95d88_16 : decode cJ13_bitCount_95d88 16 = .ok (.iconst 2, 1) := by decide +kernel
theorem dJ13_bitCount_95d88_17 : decode cJ13_bitCount_95d88 17 = .ok (.lushr, 1) := by decide +kernel
theorem dJ13_bitCount_95d88_18 : decode cJ13_bitCount_95d88 18 = .ok (.ldc2_w 316, 3) := by decide +kernel
theorem dJ13_bitCount_95d88_21 : decode cJ13_bitCount_95d88 21 = .ok (.land, 1) := by decide +kernel
theorem dJ13_bitCount_95d88_22 : decode cJ13_bitCount_95d88 22 = .ok (.ladd, 1) := by decide +kernel
theorem dJ13_bitCount_95d88_23 : decode cJ13_bitCount_95d88 23 = .ok (.lstore_n 0, 1) := by decide +kernel
theorem dJ13_bitCount_95d88_24 : decode cJ13_bitCount_95d88 24 = .ok (.lload_n 0, 1) := by decide +kernel
theorem dJ13_bitCount_95d88_25 : decode cJ13_bitCount_95d88 25 = .ok (.lload_n 0, 1) := by decide +kernel
theorem dJ13_bitCount_95d88_26 : decode cJ13_bitCount_95d88 26 = .ok (.iconst 4, 1) := by decide +kernel
theorem dJ13_bitCount_95d88_27 : decode cJ13_bitCount_95d88 27 = .ok (.lushr, 1) := by decide +kernel
theorem dJ13_bitCount_95d88_28 : decode cJ13_bitCount_95d88 28 = .ok (.ladd, 1) := by decide +kernel
theorem dJ13_bitCount_95d88_29 : decode cJ13_bitCount_95d88 29 = .ok (.ldc2_w 318, 3) := by decide +kernel
theorem dJ13_bitCount_95d88_32 : decode cJ13_bitCount_95d88 32 = .ok (.land, 1) := by decide +kernel
theorem dJ13_bitCount_95d88_33 : decode cJ13_bitCount_95d88 33 = .ok (.lstore_n 0, 1) := by decide +kernel
theorem dJ13_bitCount_95d88_34 : decode cJ13_bitCount_95d88 34 = .ok (.lload_n 0, 1) := by decide +kernel
theorem dJ13_bitCount_95d88_35 : decode cJ13_bitCount_95d88 35 = .ok (.lload_n 0, 1) := by decide +kernel
theorem dJ13_bitCount_95d88_36 : decode cJ13_bitCount_95d88 36 = .ok (.bipush 8, 2) := by decide +kernel
theorem dJ13_bitCount_95d88_38 : decode cJ13_bitCount_95d88 38 = .ok (.lushr, 1) := by decide +kernel
theorem dJ13_bitCount_95d88_39 : decode cJ13_bitCount_95d88 39 = .ok (.ladd, 1) := by decide +kernel
theorem dJ13_bitCount_95d88_40 : decode cJ13_bitCount_95d88 40 = .ok (.lstore_n 0, 1) := by decide +kernel
theorem dJ13_bitCount_95d88_41 : decode cJ13_bitCount_95d88 41 = .ok (.lload_n 0, 1) := by decide +kernel
theorem dJ13_bitCount_95d88_42 : decode cJ13_bitCount_95d88 42 = .ok (.lload_n 0, 1) := by decide +kernel
theorem dJ13_bitCount_95d88_43 : decode cJ13_bitCount_95d88 43 = .ok (.bipush 16, 2) := by decide +kernel
theorem dJ13_bitCount_95d88_45 : decode cJ13_bitCount_95d88 45 = .ok (.lushr, 1) := by decide +kernel
theorem dJ13_bitCount_95d88_46 : decode cJ13_bitCount_95d88 46 = .ok (.ladd, 1) := by decide +kernel
theorem dJ13_bitCount_95d88_47 : decode cJ13_bitCount_95d88 47 = .ok (.lstore_n 0, 1) := by decide +kernel
theorem dJ13_bitCount_95d88_48 : decode cJ13_bitCount_95d88 48 = .ok (.lload_n 0, 1) := by decide +kernel
theorem dJ13_bitCount_95d88_49 : decode cJ13_bitCount_95d88 49 = .ok (.lload_n 0, 1) := by decide +kernel
theorem dJ13_bitCount_95d88_50 : decode cJ13_bitCount_95d88 50 = .ok (.bipush 32, 2) := by decide +kernel
theorem dJ13_bitCount_95d88_52 : decode cJ13_bitCount_95d88 52 = .ok (.lushr, 1) := by decide +kernel
theorem dJ13_bitCount_95d88_53 : decode cJ13_bitCount_95d88 53 = .ok (.ladd, 1) := by decide +kernel
theorem dJ13_bitCount_95d88_54 : decode cJ13_bitCount_95d88 54 = .ok (.lstore_n 0, 1) := by decide +kernel
theorem dJ13_bitCount_95d88_55 : decode cJ13_bitCount_95d88 55 = .ok (.lload_n 0, 1) := by decide +kernel
theorem dJ13_bitCount_95d88_56 : decode cJ13_bitCount_95d88 56 = .ok (.l2i, 1) := by decide +kernel
theorem dJ13_bitCount_95d88_57 : decode cJ13_bitCount_95d88 57 = .ok (.bipush 127, 2) := by decide +kernel
theorem dJ13_bitCount_95d88_59 : decode cJ13_bitCount_95d88 59 = .ok (.iand, 1) := by decide +kernel
theorem dJ13_bitCount_95d88_60 : decode cJ13_bitCount_95d88 60 = .ok (.ireturn, 1) := by decide +kernel
theorem dJ9_max_7cf53_0 : decode cJ9_max_7cf53 0 = .ok (.iload_n 0, 1) := by decide +kernel
theorem dJ9_max_7cf53_1 : decode cJ9_max_7cf53 1 = .ok (.iload_n 1, 1) := by decide +kernel
theorem dJ9_max_7cf53_2 : decode cJ9_max_7cf53 2 = .ok (.if_icmp .lt 7, 3) := by decide +kernel
theorem dJ9_max_7cf53_5 : decode cJ9_max_7cf53 5 = .ok (.iload_n 0, 1) := by decide +kernel
theorem dJ9_max_7cf53_6 : decode cJ9_max_7cf53 6 = .ok (.goto 4, 3) := by decide +kernel
theorem dJ9_max_7cf53_9 : decode cJ9_max_7cf53 9 = .ok (.iload_n 1, 1) := by decide +kernel
theorem dJ9_max_7cf53_10 : decode cJ9_max_7cf53 10 = .ok (.ireturn, 1) := by decide +kernel
theorem dJ9_min_7cf53_0 : decode cJ9_min_7cf53 0 = .ok (.iload_n 0, 1) := by decide +kernel
theorem dJ9_min_7cf53_1 : decode cJ9_min_7cf53 1 = .ok (.iload_n 1, 1) := by decide +kernel
theorem dJ9_min_7cf53_2 : decode cJ9_min_7cf53 2 = .ok (.if_icmp .gt 7, 3) := by decide +kernel
theorem dJ9_min_7cf53_5 : decode cJ9_min_7cf53 5 = .ok (.iload_n 0, 1) := by decide +kernel
theorem dJ9_min_7cf53_6 : decode cJ9_min_7cf53 6 = .ok (.goto 4, 3) := by decide +kernel
theorem dJ9_min_7cf53_9 : decode cJ9_min_7cf53 9 = .ok (.iload_n 1, 1) := by decide +kernel
theorem dJ9_min_7cf53_10 : decode cJ9_min_7cf53 10 = .ok (.ireturn, 1) := by decide +kernel
