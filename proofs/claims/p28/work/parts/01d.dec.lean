theorem dX6_init_0 : decode cX6_init 0 = .ok (.aload_n 0, 1) := by decide +kernel
theorem dX6_init_1 : decode cX6_init 1 = .ok (.invokespecial 1, 3) := by decide +kernel
theorem dX6_init_4 : decode cX6_init 4 = .ok (.aload_n 0, 1) := by decide +kernel
theorem dX6_init_5 : decode cX6_init 5 = .ok (.new 7, 3) := by decide +kernel
theorem dX6_init_8 : decode cX6_init 8 = .ok (.dup, 1) := by decide +kernel
theorem dX6_init_9 : decode cX6_init 9 = .ok (.invokespecial 9, 3) := by decide +kernel
theorem dX6_init_12 : decode cX6_init 12 = .ok (.putfield 10, 3) := by decide +kernel
theorem dX6_init_15 : decode cX6_init 15 = .ok (.aload_n 0, 1) := by decide +kernel
theorem dX6_init_16 : decode cX6_init 16 = .ok (.new 7, 3) := by decide +kernel
theorem dX6_init_19 : decode cX6_init 19 = .ok (.dup, 1) := by decide +kernel
theorem dX6_init_20 : decode cX6_init 20 = .ok (.invokespecial 9, 3) := by decide +kernel
theorem dX6_init_23 : decode cX6_init 23 = .ok (.putfield 16, 3) := by decide +kernel
theorem dX6_init_26 : decode cX6_init 26 = .ok (.aload_n 0, 1) := by decide +kernel
theorem dX6_init_27 : decode cX6_init 27 = .ok (.new 7, 3) := by decide +kernel
theorem dX6_init_30 : decode cX6_init 30 = .ok (.dup, 1) := by decide +kernel
theorem dX6_init_31 : decode cX6_init 31 = .ok (.invokespecial 9, 3) := by decide +kernel
theorem dX6_init_34 : decode cX6_init 34 = .ok (.putfield 19, 3) := by decide +kernel
theorem dX6_init_37 : decode cX6_init 37 = .ok (.aload_n 0, 1) := by decide +kernel
theorem dX6_init_38 : decode cX6_init 38 = .ok (.new 22, 3) := by decide +kernel
theorem dX6_init_41 : decode cX6_init 41 = .ok (.dup, 1) := by decide +kernel
theorem dX6_init_42 : decode cX6_init 42 = .ok (.invokespecial 24, 3) := by decide +kernel
theorem dX6_init_45 : decode cX6_init 45 = .ok (.putfield 25, 3) := by decide +kernel
theorem dX6_init_48 : decode cX6_init 48 = .ok (.aload_n 0, 1) := by decide +kernel
theorem dX6_init_49 : decode cX6_init 49 = .ok (.new 29, 3) := by decide +kernel
theorem dX6_init_52 : decode cX6_init 52 = .ok (.dup, 1) := by decide +kernel
theorem dX6_init_53 : decode cX6_init 53 = .ok (.invokespecial 31, 3) := by decide +kernel
theorem dX6_init_56 : decode cX6_init 56 = .ok (.putfield 32, 3) := by decide +kernel
theorem dX6_init_59 : decode cX6_init 59 = .ok (.aload_n 0, 1) := by decide +kernel
theorem dX6_init_60 : decode cX6_init 60 = .ok (.new 36, 3) := by decide +kernel
theorem dX6_init_63 : decode cX6_init 63 = .ok (.dup, 1) := by decide +kernel
theorem dX6_init_64 : decode cX6_init 64 = .ok (.invokespecial 38, 3) := by decide +kernel
theorem dX6_init_67 : decode cX6_init 67 = .ok (.putfield 39, 3) := by decide +kernel
theorem dX6_init_70 : decode cX6_init 70 = .ok (.aload_n 0, 1) := by decide +kernel
theorem dX6_init_71 : decode cX6_init 71 = .ok (.iconst 0, 1) := by decide +kernel
theorem dX6_init_72 : decode cX6_init 72 = .ok (.putfield 43, 3) := by decide +kernel
theorem dX6_init_75 : decode cX6_init 75 = .ok (.return_, 1) := by decide +kernel
theorem dX6_glide_0 : decode cX6_glide 0 = .ok (.iload_n 1, 1) := by decide +kernel
theorem dX6_glide_1 : decode cX6_glide 1 = .ok (.invokestatic 47, 3) := by decide +kernel
theorem dX6_glide_4 : decode cX6_glide 4 = .ok (.ifCond .ne 13, 3) := by decide +kernel
theorem dX6_glide_7 : decode cX6_glide 7 = .ok (.new 51, 3) := by decide +kernel
theorem dX6_glide_10 : decode cX6_glide 10 = .ok (.dup, 1) := by decide +kernel
theorem dX6_glide_11 : decode cX6_glide 11 = .ok (.ldc 53, 2) := by decide +kernel
theorem dX6_glide_13 : decode cX6_glide 13 = .ok (.invokespecial 55, 3) := by decide +kernel
theorem dX6_glide_16 : decode cX6_glide 16 = .ok (.athrow, 1) := by decide +kernel
theorem dX6_glide_17 : decode cX6_glide 17 = .ok (.iload_n 2, 1) := by decide +kernel
theorem dX6_glide_18 : decode cX6_glide 18 = .ok (.invokestatic 58, 3) := by decide +kernel
theorem dX6_glide_21 : decode cX6_glide 21 = .ok (.ifCond .eq 10, 3) := by decide +kernel
theorem dX6_glide_24 : decode cX6_glide 24 = .ok (.iload_n 3, 1) := by decide +kernel
theorem dX6_glide_25 : decode cX6_glide 25 = .ok (.invokestatic 61, 3) := by decide +kernel
theorem dX6_glide_28 : decode cX6_glide 28 = .ok (.ifCond .ne 13, 3) := by decide +kernel
theorem dX6_glide_31 : decode cX6_glide 31 = .ok (.new 64, 3) := by decide +kernel
theorem dX6_glide_34 : decode cX6_glide 34 = .ok (.dup, 1) := by decide +kernel
theorem dX6_glide_35 : decode cX6_glide 35 = .ok (.ldc 66, 2) := by decide +kernel
theorem dX6_glide_37 : decode cX6_glide 37 = .ok (.invokespecial 68, 3) := by decide +kernel
theorem dX6_glide_40 : decode cX6_glide 40 = .ok (.athrow, 1) := by decide +kernel
theorem dX6_glide_41 : decode cX6_glide 41 = .ok (.aload_n 0, 1) := by decide +kernel
theorem dX6_glide_42 : decode cX6_glide 42 = .ok (.getfield 25, 3) := by decide +kernel
theorem dX6_glide_45 : decode cX6_glide 45 = .ok (.aload_n 0, 1) := by decide +kernel
theorem dX6_glide_46 : decode cX6_glide 46 = .ok (.getfield 10, 3) := by decide +kernel
theorem dX6_glide_49 : decode cX6_glide 49 = .ok (.invokevirtual 69, 3) := by decide +kernel
theorem dX6_glide_52 : decode cX6_glide 52 = .ok (.aload_n 0, 1) := by decide +kernel
theorem dX6_glide_53 : decode cX6_glide 53 = .ok (.getfield 10, 3) := by decide +kernel
theorem dX6_glide_56 : decode cX6_glide 56 = .ok (.iload_n 1, 1) := by decide +kernel
theorem dX6_glide_57 : decode cX6_glide 57 = .ok (.iload_n 2, 1) := by decide +kernel
theorem dX6_glide_58 : decode cX6_glide 58 = .ok (.iload_n 3, 1) := by decide +kernel
theorem dX6_glide_59 : decode cX6_glide 59 = .ok (.invokevirtual 73, 3) := by decide +kernel
theorem dX6_glide_62 : decode cX6_glide 62 = .ok (.ireturn, 1) := by decide +kernel
theorem dX6_thaw_0 : decode cX6_thaw 0 = .ok (.aload_n 0, 1) := by decide +kernel
theorem dX6_thaw_1 : decode cX6_thaw 1 = .ok (.getfield 25, 3) := by decide +kernel
theorem dX6_thaw_4 : decode cX6_thaw 4 = .ok (.aload_n 0, 1) := by decide +kernel
theorem dX6_thaw_5 : decode cX6_thaw 5 = .ok (.getfield 10, 3) := by decide +kernel
theorem dX6_thaw_8 : decode cX6_thaw 8 = .ok (.invokevirtual 69, 3) := by decide +kernel
theorem dX6_thaw_11 : decode cX6_thaw 11 = .ok (.aload_n 0, 1) := by decide +kernel
theorem dX6_thaw_12 : decode cX6_thaw 12 = .ok (.getfield 10, 3) := by decide +kernel
theorem dX6_thaw_15 : decode cX6_thaw 15 = .ok (.invokevirtual 77, 3) := by decide +kernel
theorem dX6_thaw_18 : decode cX6_thaw 18 = .ok (.ireturn, 1) := by decide +kernel
theorem dX6_hole_0 : decode cX6_hole 0 = .ok (.iload_n 1, 1) := by decide +kernel
theorem dX6_hole_1 : decode cX6_hole 1 = .ok (.iload_n 2, 1) := by decide +kernel
theorem dX6_hole_2 : decode cX6_hole 2 = .ok (.invokestatic 81, 3) := by decide +kernel
theorem dX6_hole_5 : decode cX6_hole 5 = .ok (.lstore_n 3, 1) := by decide +kernel
theorem dX6_hole_6 : decode cX6_hole 6 = .ok (.lload_n 3, 1) := by decide +kernel
theorem dX6_hole_7 : decode cX6_hole 7 = .ok (.lconst 0, 1) := by decide +kernel
theorem dX6_hole_8 : decode cX6_hole 8 = .ok (.lcmp, 1) := by decide +kernel
theorem dX6_hole_9 : decode cX6_hole 9 = .ok (.ifCond .ne 13, 3) := by decide +kernel
theorem dX6_hole_12 : decode cX6_hole 12 = .ok (.new 51, 3) := by decide +kernel
theorem dX6_hole_15 : decode cX6_hole 15 = .ok (.dup, 1) := by decide +kernel
theorem dX6_hole_16 : decode cX6_hole 16 = .ok (.ldc 85, 2) := by decide +kernel
theorem dX6_hole_18 : decode cX6_hole 18 = .ok (.invokespecial 55, 3) := by decide +kernel
theorem dX6_hole_21 : decode cX6_hole 21 = .ok (.athrow, 1) := by decide +kernel
theorem dX6_hole_22 : decode cX6_hole 22 = .ok (.aload_n 0, 1) := by decide +kernel
theorem dX6_hole_23 : decode cX6_hole 23 = .ok (.getfield 10, 3) := by decide +kernel
theorem dX6_hole_26 : decode cX6_hole 26 = .ok (.lload_n 3, 1) := by decide +kernel
theorem dX6_hole_27 : decode cX6_hole 27 = .ok (.invokevirtual 87, 3) := by decide +kernel
theorem dX6_hole_30 : decode cX6_hole 30 = .ok (.ifCond .ne 13, 3) := by decide +kernel
theorem dX6_hole_33 : decode cX6_hole 33 = .ok (.new 91, 3) := by decide +kernel
theorem dX6_hole_36 : decode cX6_hole 36 = .ok (.dup, 1) := by decide +kernel
theorem dX6_hole_37 : decode cX6_hole 37 = .ok (.ldc 93, 2) := by decide +kernel
theorem dX6_hole_39 : decode cX6_hole 39 = .ok (.invokespecial 95, 3) := by decide +kernel
theorem dX6_hole_42 : decode cX6_hole 42 = .ok (.athrow, 1) := by decide +kernel
theorem dX6_hole_43 : decode cX6_hole 43 = .ok (.aload_n 0, 1) := by decide +kernel
theorem dX6_hole_44 : decode cX6_hole 44 = .ok (.getfield 25, 3) := by decide +kernel
theorem dX6_hole_47 : decode cX6_hole 47 = .ok (.aload_n 0, 1) := by decide +kernel
theorem dX6_hole_48 : decode cX6_hole 48 = .ok (.getfield 10, 3) := by decide +kernel
theorem dX6_hole_51 : decode cX6_hole 51 = .ok (.invokevirtual 69, 3) := by decide +kernel
theorem dX6_hole_54 : decode cX6_hole 54 = .ok (.aload_n 0, 1) := by decide +kernel
theorem dX6_hole_55 : decode cX6_hole 55 = .ok (.getfield 10, 3) := by decide +kernel
theorem dX6_hole_58 : decode cX6_hole 58 = .ok (.lload_n 3, 1) := by decide +kernel
theorem dX6_hole_59 : decode cX6_hole 59 = .ok (.invokevirtual 96, 3) := by decide +kernel
theorem dX6_hole_62 : decode cX6_hole 62 = .ok (.istore 5, 2) := by decide +kernel
theorem dX6_hole_64 : decode cX6_hole 64 = .ok (.aload_n 0, 1) := by decide +kernel
theorem dX6_hole_65 : decode cX6_hole 65 = .ok (.getfield 10, 3) := by decide +kernel
theorem dX6_hole_68 : decode cX6_hole 68 = .ok (.lload_n 3, 1) := by decide +kernel
theorem dX6_hole_69 : decode cX6_hole 69 = .ok (.invokevirtual 100, 3) := by decide +kernel
theorem dX6_hole_72 : decode cX6_hole 72 = .ok (.iload 5, 2) := by decide +kernel
theorem dX6_hole_74 : decode cX6_hole 74 = .ok (.ireturn, 1) := by decide +kernel
theorem dX6_pay_0 : decode cX6_pay 0 = .ok (.iload_n 1, 1) := by decide +kernel
theorem dX6_pay_1 : decode cX6_pay 1 = .ok (.invokestatic 47, 3) := by decide +kernel
theorem dX6_pay_4 : decode cX6_pay 4 = .ok (.ifCond .ne 13, 3) := by decide +kernel
theorem dX6_pay_7 : decode cX6_pay 7 = .ok (.new 51, 3) := by decide +kernel
theorem dX6_pay_10 : decode cX6_pay 10 = .ok (.dup, 1) := by decide +kernel
theorem dX6_pay_11 : decode cX6_pay 11 = .ok (.ldc 53, 2) := by decide +kernel
theorem dX6_pay_13 : decode cX6_pay 13 = .ok (.invokespecial 55, 3) := by decide +kernel
theorem dX6_pay_16 : decode cX6_pay 16 = .ok (.athrow, 1) := by decide +kernel
theorem dX6_pay_17 : decode cX6_pay 17 = .ok (.iload_n 2, 1) := by decide +kernel
theorem dX6_pay_18 : decode cX6_pay 18 = .ok (.iconst 1, 1) := by decide +kernel
theorem dX6_pay_19 : decode cX6_pay 19 = .ok (.if_icmp .lt 9, 3) := by decide +kernel
theorem dX6_pay_22 : decode cX6_pay 22 = .ok (.iload_n 2, 1) := by decide +kernel
theorem dX6_pay_23 : decode cX6_pay 23 = .ok (.bipush 99, 2) := by decide +kernel
theorem dX6_pay_25 : decode cX6_pay 25 = .ok (.if_icmp .le 13, 3) := by decide +kernel
theorem dX6_pay_28 : decode cX6_pay 28 = .ok (.new 64, 3) := by decide +kernel
theorem dX6_pay_31 : decode cX6_pay 31 = .ok (.dup, 1) := by decide +kernel
theorem dX6_pay_32 : decode cX6_pay 32 = .ok (.ldc 104, 2) := by decide +kernel
theorem dX6_pay_34 : decode cX6_pay 34 = .ok (.invokespecial 68, 3) := by decide +kernel
theorem dX6_pay_37 : decode cX6_pay 37 = .ok (.athrow, 1) := by decide +kernel
theorem dX6_pay_38 : decode cX6_pay 38 = .ok (.aload_n 0, 1) := by decide +kernel
theorem dX6_pay_39 : decode cX6_pay 39 = .ok (.getfield 10, 3) := by decide +kernel
theorem dX6_pay_42 : decode cX6_pay 42 = .ok (.getfield 106, 3) := by decide +kernel
theorem dX6_pay_45 : decode cX6_pay 45 = .ok (.iload_n 2, 1) := by decide +kernel
theorem dX6_pay_46 : decode cX6_pay 46 = .ok (.iadd, 1) := by decide +kernel
theorem dX6_pay_47 : decode cX6_pay 47 = .ok (.sipush 9999, 3) := by decide +kernel
theorem dX6_pay_50 : decode cX6_pay 50 = .ok (.if_icmp .le 13, 3) := by decide +kernel
theorem dX6_pay_53 : decode cX6_pay 53 = .ok (.new 91, 3) := by decide +kernel
theorem dX6_pay_56 : decode cX6_pay 56 = .ok (.dup, 1) := by decide +kernel
theorem dX6_pay_57 : decode cX6_pay 57 = .ok (.ldc 110, 2) := by decide +kernel
theorem dX6_pay_59 : decode cX6_pay 59 = .ok (.invokespecial 95, 3) := by decide +kernel
theorem dX6_pay_62 : decode cX6_pay 62 = .ok (.athrow, 1) := by decide +kernel
theorem dX6_pay_63 : decode cX6_pay 63 = .ok (.aload_n 0, 1) := by decide +kernel
theorem dX6_pay_64 : decode cX6_pay 64 = .ok (.getfield 25, 3) := by decide +kernel
theorem dX6_pay_67 : decode cX6_pay 67 = .ok (.aload_n 0, 1) := by decide +kernel
theorem dX6_pay_68 : decode cX6_pay 68 = .ok (.getfield 10, 3) := by decide +kernel
theorem dX6_pay_71 : decode cX6_pay 71 = .ok (.invokevirtual 69, 3) := by decide +kernel
theorem dX6_pay_74 : decode cX6_pay 74 = .ok (.aload_n 0, 1) := by decide +kernel
theorem dX6_pay_75 : decode cX6_pay 75 = .ok (.getfield 10, 3) := by decide +kernel
theorem dX6_pay_78 : decode cX6_pay 78 = .ok (.getfield 112, 3) := by decide +kernel
theorem dX6_pay_81 : decode cX6_pay 81 = .ok (.iload_n 1, 1) := by decide +kernel
theorem dX6_pay_82 : decode cX6_pay 82 = .ok (.aaload, 1) := by decide +kernel
theorem dX6_pay_83 : decode cX6_pay 83 = .ok (.astore_n 3, 1) := by decide +kernel
theorem dX6_pay_84 : decode cX6_pay 84 = .ok (.aload_n 3, 1) := by decide +kernel
theorem dX6_pay_85 : decode cX6_pay 85 = .ok (.dup, 1) := by decide +kernel
theorem dX6_pay_86 : decode cX6_pay 86 = .ok (.getfield 116, 3) := by decide +kernel
theorem dX6_pay_89 : decode cX6_pay 89 = .ok (.iload_n 2, 1) := by decide +kernel
theorem dX6_pay_90 : decode cX6_pay 90 = .ok (.iadd, 1) := by decide +kernel
theorem dX6_pay_91 : decode cX6_pay 91 = .ok (.putfield 116, 3) := by decide +kernel
theorem dX6_pay_94 : decode cX6_pay 94 = .ok (.aload_n 0, 1) := by decide +kernel
theorem dX6_pay_95 : decode cX6_pay 95 = .ok (.getfield 10, 3) := by decide +kernel
theorem dX6_pay_98 : decode cX6_pay 98 = .ok (.dup, 1) := by decide +kernel
theorem dX6_pay_99 : decode cX6_pay 99 = .ok (.getfield 106, 3) := by decide +kernel
theorem dX6_pay_102 : decode cX6_pay 102 = .ok (.iload_n 2, 1) := by decide +kernel
theorem dX6_pay_103 : decode cX6_pay 103 = .ok (.iadd, 1) := by decide +kernel
theorem dX6_pay_104 : decode cX6_pay 104 = .ok (.putfield 106, 3) := by decide +kernel
theorem dX6_pay_107 : decode cX6_pay 107 = .ok (.aload_n 3, 1) := by decide +kernel
theorem dX6_pay_108 : decode cX6_pay 108 = .ok (.getfield 116, 3) := by decide +kernel
theorem dX6_pay_111 : decode cX6_pay 111 = .ok (.ireturn, 1) := by decide +kernel
theorem dX6_set_0 : decode cX6_set 0 = .ok (.iload_n 1, 1) := by decide +kernel
theorem dX6_set_1 : decode cX6_set 1 = .ok (.invokestatic 121, 3) := by decide +kernel
theorem dX6_set_4 : decode cX6_set 4 = .ok (.ifCond .ne 13, 3) := by decide +kernel
theorem dX6_set_7 : decode cX6_set 7 = .ok (.new 51, 3) := by decide +kernel
theorem dX6_set_10 : decode cX6_set 10 = .ok (.dup, 1) := by decide +kernel
theorem dX6_set_11 : decode cX6_set 11 = .ok (.ldc 124, 2) := by decide +kernel
theorem dX6_set_13 : decode cX6_set 13 = .ok (.invokespecial 55, 3) := by decide +kernel
theorem dX6_set_16 : decode cX6_set 16 = .ok (.athrow, 1) := by decide +kernel
theorem dX6_set_17 : decode cX6_set 17 = .ok (.iload_n 2, 1) := by decide +kernel
theorem dX6_set_18 : decode cX6_set 18 = .ok (.iload_n 1, 1) := by decide +kernel
theorem dX6_set_19 : decode cX6_set 19 = .ok (.invokestatic 126, 3) := by decide +kernel
theorem dX6_set_22 : decode cX6_set 22 = .ok (.if_icmp .lt 11, 3) := by decide +kernel
theorem dX6_set_25 : decode cX6_set 25 = .ok (.iload_n 2, 1) := by decide +kernel
theorem dX6_set_26 : decode cX6_set 26 = .ok (.iload_n 1, 1) := by decide +kernel
theorem dX6_set_27 : decode cX6_set 27 = .ok (.invokestatic 130, 3) := by decide +kernel
theorem dX6_set_30 : decode cX6_set 30 = .ok (.if_icmp .le 13, 3) := by decide +kernel
theorem dX6_set_33 : decode cX6_set 33 = .ok (.new 64, 3) := by decide +kernel
theorem dX6_set_36 : decode cX6_set 36 = .ok (.dup, 1) := by decide +kernel
theorem dX6_set_37 : decode cX6_set 37 = .ok (.ldc 133, 2) := by decide +kernel
theorem dX6_set_39 : decode cX6_set 39 = .ok (.invokespecial 68, 3) := by decide +kernel
theorem dX6_set_42 : decode cX6_set 42 = .ok (.athrow, 1) := by decide +kernel
theorem dX6_set_43 : decode cX6_set 43 = .ok (.aload_n 0, 1) := by decide +kernel
theorem dX6_set_44 : decode cX6_set 44 = .ok (.getfield 25, 3) := by decide +kernel
theorem dX6_set_47 : decode cX6_set 47 = .ok (.aload_n 0, 1) := by decide +kernel
theorem dX6_set_48 : decode cX6_set 48 = .ok (.getfield 10, 3) := by decide +kernel
theorem dX6_set_51 : decode cX6_set 51 = .ok (.invokevirtual 69, 3) := by decide +kernel
theorem dX6_set_54 : decode cX6_set 54 = .ok (.aload_n 0, 1) := by decide +kernel
theorem dX6_set_55 : decode cX6_set 55 = .ok (.getfield 10, 3) := by decide +kernel
theorem dX6_set_58 : decode cX6_set 58 = .ok (.getfield 135, 3) := by decide +kernel
theorem dX6_set_61 : decode cX6_set 61 = .ok (.iload_n 1, 1) := by decide +kernel
theorem dX6_set_62 : decode cX6_set 62 = .ok (.iaload, 1) := by decide +kernel
theorem dX6_set_63 : decode cX6_set 63 = .ok (.istore_n 3, 1) := by decide +kernel
theorem dX6_set_64 : decode cX6_set 64 = .ok (.aload_n 0, 1) := by decide +kernel
theorem dX6_set_65 : decode cX6_set 65 = .ok (.getfield 10, 3) := by decide +kernel
theorem dX6_set_68 : decode cX6_set 68 = .ok (.getfield 135, 3) := by decide +kernel
theorem dX6_set_71 : decode cX6_set 71 = .ok (.iload_n 1, 1) := by decide +kernel
theorem dX6_set_72 : decode cX6_set 72 = .ok (.iload_n 2, 1) := by decide +kernel
theorem dX6_set_73 : decode cX6_set 73 = .ok (.iastore, 1) := by decide +kernel
theorem dX6_set_74 : decode cX6_set 74 = .ok (.iload_n 3, 1) := by decide +kernel
theorem dX6_set_75 : decode cX6_set 75 = .ok (.ireturn, 1) := by decide +kernel
theorem dX6_append_0 : decode cX6_append 0 = .ok (.iload_n 1, 1) := by decide +kernel
theorem dX6_append_1 : decode cX6_append 1 = .ok (.bipush 33, 2) := by decide +kernel
theorem dX6_append_3 : decode cX6_append 3 = .ok (.if_icmp .lt 9, 3) := by decide +kernel
theorem dX6_append_6 : decode cX6_append 6 = .ok (.iload_n 1, 1) := by decide +kernel
theorem dX6_append_7 : decode cX6_append 7 = .ok (.bipush 126, 2) := by decide +kernel
theorem dX6_append_9 : decode cX6_append 9 = .ok (.if_icmp .le 13, 3) := by decide +kernel
theorem dX6_append_12 : decode cX6_append 12 = .ok (.new 64, 3) := by decide +kernel
theorem dX6_append_15 : decode cX6_append 15 = .ok (.dup, 1) := by decide +kernel
theorem dX6_append_16 : decode cX6_append 16 = .ok (.ldc 139, 2) := by decide +kernel
theorem dX6_append_18 : decode cX6_append 18 = .ok (.invokespecial 68, 3) := by decide +kernel
theorem dX6_append_21 : decode cX6_append 21 = .ok (.athrow, 1) := by decide +kernel
theorem dX6_append_22 : decode cX6_append 22 = .ok (.aload_n 0, 1) := by decide +kernel
theorem dX6_append_23 : decode cX6_append 23 = .ok (.getfield 32, 3) := by decide +kernel
theorem dX6_append_26 : decode cX6_append 26 = .ok (.invokevirtual 141, 3) := by decide +kernel
theorem dX6_append_29 : decode cX6_append 29 = .ok (.ifCond .eq 13, 3) := by decide +kernel
theorem dX6_append_32 : decode cX6_append 32 = .ok (.new 91, 3) := by decide +kernel
theorem dX6_append_35 : decode cX6_append 35 = .ok (.dup, 1) := by decide +kernel
theorem dX6_append_36 : decode cX6_append 36 = .ok (.ldc 145, 2) := by decide +kernel
theorem dX6_append_38 : decode cX6_append 38 = .ok (.invokespecial 95, 3) := by decide +kernel
theorem dX6_append_41 : decode cX6_append 41 = .ok (.athrow, 1) := by decide +kernel
theorem dX6_append_42 : decode cX6_append 42 = .ok (.aload_n 0, 1) := by decide +kernel
theorem dX6_append_43 : decode cX6_append 43 = .ok (.getfield 32, 3) := by decide +kernel
theorem dX6_append_46 : decode cX6_append 46 = .ok (.iload_n 1, 1) := by decide +kernel
theorem dX6_append_47 : decode cX6_append 47 = .ok (.invokevirtual 147, 3) := by decide +kernel
theorem dX6_append_50 : decode cX6_append 50 = .ok (.aload_n 0, 1) := by decide +kernel
theorem dX6_append_51 : decode cX6_append 51 = .ok (.getfield 32, 3) := by decide +kernel
theorem dX6_append_54 : decode cX6_append 54 = .ok (.getfield 151, 3) := by decide +kernel
theorem dX6_append_57 : decode cX6_append 57 = .ok (.ireturn, 1) := by decide +kernel
theorem dX6_clearBuffer_0 : decode cX6_clearBuffer 0 = .ok (.aload_n 0, 1) := by decide +kernel
theorem dX6_clearBuffer_1 : decode cX6_clearBuffer 1 = .ok (.getfield 32, 3) := by decide +kernel
theorem dX6_clearBuffer_4 : decode cX6_clearBuffer 4 = .ok (.getfield 151, 3) := by decide +kernel
theorem dX6_clearBuffer_7 : decode cX6_clearBuffer 7 = .ok (.istore_n 1, 1) := by decide +kernel
theorem dX6_clearBuffer_8 : decode cX6_clearBuffer 8 = .ok (.aload_n 0, 1) := by decide +kernel
theorem dX6_clearBuffer_9 : decode cX6_clearBuffer 9 = .ok (.getfield 32, 3) := by decide +kernel
theorem dX6_clearBuffer_12 : decode cX6_clearBuffer 12 = .ok (.iconst 0, 1) := by decide +kernel
theorem dX6_clearBuffer_13 : decode cX6_clearBuffer 13 = .ok (.putfield 151, 3) := by decide +kernel
theorem dX6_clearBuffer_16 : decode cX6_clearBuffer 16 = .ok (.iload_n 1, 1) := by decide +kernel
theorem dX6_clearBuffer_17 : decode cX6_clearBuffer 17 = .ok (.ireturn, 1) := by decide +kernel
theorem dX6_firstError_0 : decode cX6_firstError 0 = .ok (.aload_n 0, 1) := by decide +kernel
theorem dX6_firstError_1 : decode cX6_firstError 1 = .ok (.getfield 32, 3) := by decide +kernel
theorem dX6_firstError_4 : decode cX6_firstError 4 = .ok (.invokevirtual 154, 3) := by decide +kernel
theorem dX6_firstError_7 : decode cX6_firstError 7 = .ok (.ireturn, 1) := by decide +kernel
theorem dX6_play_0 : decode cX6_play 0 = .ok (.aload_n 0, 1) := by decide +kernel
theorem dX6_play_1 : decode cX6_play 1 = .ok (.getfield 32, 3) := by decide +kernel
theorem dX6_play_4 : decode cX6_play 4 = .ok (.invokevirtual 157, 3) := by decide +kernel
theorem dX6_play_7 : decode cX6_play 7 = .ok (.ifCond .ne 13, 3) := by decide +kernel
theorem dX6_play_10 : decode cX6_play 10 = .ok (.new 64, 3) := by decide +kernel
theorem dX6_play_13 : decode cX6_play 13 = .ok (.dup, 1) := by decide +kernel
theorem dX6_play_14 : decode cX6_play 14 = .ok (.ldc 160, 2) := by decide +kernel
theorem dX6_play_16 : decode cX6_play 16 = .ok (.invokespecial 68, 3) := by decide +kernel
theorem dX6_play_19 : decode cX6_play 19 = .ok (.athrow, 1) := by decide +kernel
theorem dX6_play_20 : decode cX6_play 20 = .ok (.aload_n 0, 1) := by decide +kernel
theorem dX6_play_21 : decode cX6_play 21 = .ok (.getfield 25, 3) := by decide +kernel
theorem dX6_play_24 : decode cX6_play 24 = .ok (.aload_n 0, 1) := by decide +kernel
theorem dX6_play_25 : decode cX6_play 25 = .ok (.getfield 10, 3) := by decide +kernel
theorem dX6_play_28 : decode cX6_play 28 = .ok (.invokevirtual 69, 3) := by decide +kernel
theorem dX6_play_31 : decode cX6_play 31 = .ok (.aload_n 0, 1) := by decide +kernel
theorem dX6_play_32 : decode cX6_play 32 = .ok (.getfield 32, 3) := by decide +kernel
theorem dX6_play_35 : decode cX6_play 35 = .ok (.aload_n 0, 1) := by decide +kernel
theorem dX6_play_36 : decode cX6_play 36 = .ok (.getfield 10, 3) := by decide +kernel
theorem dX6_play_39 : decode cX6_play 39 = .ok (.invokevirtual 162, 3) := by decide +kernel
theorem dX6_play_42 : decode cX6_play 42 = .ok (.istore_n 1, 1) := by decide +kernel
theorem dX6_play_43 : decode cX6_play 43 = .ok (.aload_n 0, 1) := by decide +kernel
theorem dX6_play_44 : decode cX6_play 44 = .ok (.getfield 32, 3) := by decide +kernel
theorem dX6_play_47 : decode cX6_play 47 = .ok (.iconst 0, 1) := by decide +kernel
theorem dX6_play_48 : decode cX6_play 48 = .ok (.putfield 151, 3) := by decide +kernel
theorem dX6_play_51 : decode cX6_play 51 = .ok (.iload_n 1, 1) := by decide +kernel
theorem dX6_play_52 : decode cX6_play 52 = .ok (.ireturn, 1) := by decide +kernel
theorem dX6_keep_0 : decode cX6_keep 0 = .ok (.aload_n 0, 1) := by decide +kernel
theorem dX6_keep_1 : decode cX6_keep 1 = .ok (.getfield 19, 3) := by decide +kernel
theorem dX6_keep_4 : decode cX6_keep 4 = .ok (.aload_n 0, 1) := by decide +kernel
theorem dX6_keep_5 : decode cX6_keep 5 = .ok (.getfield 10, 3) := by decide +kernel
theorem dX6_keep_8 : decode cX6_keep 8 = .ok (.invokevirtual 166, 3) := by decide +kernel
theorem dX6_keep_11 : decode cX6_keep 11 = .ok (.aload_n 0, 1) := by decide +kernel
theorem dX6_keep_12 : decode cX6_keep 12 = .ok (.iconst 1, 1) := by decide +kernel
theorem dX6_keep_13 : decode cX6_keep 13 = .ok (.putfield 43, 3) := by decide +kernel
theorem dX6_keep_16 : decode cX6_keep 16 = .ok (.aload_n 0, 1) := by decide +kernel
theorem dX6_keep_17 : decode cX6_keep 17 = .ok (.getfield 10, 3) := by decide +kernel
theorem dX6_keep_20 : decode cX6_keep 20 = .ok (.invokevirtual 169, 3) := by decide +kernel
theorem dX6_keep_23 : decode cX6_keep 23 = .ok (.ireturn, 1) := by decide +kernel
theorem dX6_goBack_0 : decode cX6_goBack 0 = .ok (.aload_n 0, 1) := by decide +kernel
theorem dX6_goBack_1 : decode cX6_goBack 1 = .ok (.getfield 43, 3) := by decide +kernel
theorem dX6_goBack_4 : decode cX6_goBack 4 = .ok (.ifCond .ne 13, 3) := by decide +kernel
theorem dX6_goBack_7 : decode cX6_goBack 7 = .ok (.new 91, 3) := by decide +kernel
theorem dX6_goBack_10 : decode cX6_goBack 10 = .ok (.dup, 1) := by decide +kernel
theorem dX6_goBack_11 : decode cX6_goBack 11 = .ok (.ldc 172, 2) := by decide +kernel
theorem dX6_goBack_13 : decode cX6_goBack 13 = .ok (.invokespecial 95, 3) := by decide +kernel
theorem dX6_goBack_16 : decode cX6_goBack 16 = .ok (.athrow, 1) := by decide +kernel
theorem dX6_goBack_17 : decode cX6_goBack 17 = .ok (.aload_n 0, 1) := by decide +kernel
theorem dX6_goBack_18 : decode cX6_goBack 18 = .ok (.getfield 25, 3) := by decide +kernel
theorem dX6_goBack_21 : decode cX6_goBack 21 = .ok (.aload_n 0, 1) := by decide +kernel
theorem dX6_goBack_22 : decode cX6_goBack 22 = .ok (.getfield 10, 3) := by decide +kernel
theorem dX6_goBack_25 : decode cX6_goBack 25 = .ok (.invokevirtual 69, 3) := by decide +kernel
theorem dX6_goBack_28 : decode cX6_goBack 28 = .ok (.aload_n 0, 1) := by decide +kernel
theorem dX6_goBack_29 : decode cX6_goBack 29 = .ok (.getfield 10, 3) := by decide +kernel
theorem dX6_goBack_32 : decode cX6_goBack 32 = .ok (.aload_n 0, 1) := by decide +kernel
theorem dX6_goBack_33 : decode cX6_goBack 33 = .ok (.getfield 19, 3) := by decide +kernel
theorem dX6_goBack_36 : decode cX6_goBack 36 = .ok (.invokevirtual 166, 3) := by decide +kernel
theorem dX6_goBack_39 : decode cX6_goBack 39 = .ok (.aload_n 0, 1) := by decide +kernel
theorem dX6_goBack_40 : decode cX6_goBack 40 = .ok (.getfield 10, 3) := by decide +kernel
theorem dX6_goBack_43 : decode cX6_goBack 43 = .ok (.invokevirtual 169, 3) := by decide +kernel
theorem dX6_goBack_46 : decode cX6_goBack 46 = .ok (.ireturn, 1) := by decide +kernel
theorem dX6_undo_0 : decode cX6_undo 0 = .ok (.aload_n 0, 1) := by decide +kernel
theorem dX6_undo_1 : decode cX6_undo 1 = .ok (.getfield 25, 3) := by decide +kernel
theorem dX6_undo_4 : decode cX6_undo 4 = .ok (.getfield 174, 3) := by decide +kernel
theorem dX6_undo_7 : decode cX6_undo 7 = .ok (.ifCond .ne 13, 3) := by decide +kernel
theorem dX6_undo_10 : decode cX6_undo 10 = .ok (.new 91, 3) := by decide +kernel
theorem dX6_undo_13 : decode cX6_undo 13 = .ok (.dup, 1) := by decide +kernel
theorem dX6_undo_14 : decode cX6_undo 14 = .ok (.ldc 177, 2) := by decide +kernel
theorem dX6_undo_16 : decode cX6_undo 16 = .ok (.invokespecial 95, 3) := by decide +kernel
theorem dX6_undo_19 : decode cX6_undo 19 = .ok (.athrow, 1) := by decide +kernel
theorem dX6_undo_20 : decode cX6_undo 20 = .ok (.aload_n 0, 1) := by decide +kernel
theorem dX6_undo_21 : decode cX6_undo 21 = .ok (.getfield 25, 3) := by decide +kernel
theorem dX6_undo_24 : decode cX6_undo 24 = .ok (.aload_n 0, 1) := by decide +kernel
theorem dX6_undo_25 : decode cX6_undo 25 = .ok (.getfield 10, 3) := by decide +kernel
theorem dX6_undo_28 : decode cX6_undo 28 = .ok (.invokevirtual 179, 3) := by decide +kernel
theorem dX6_undo_31 : decode cX6_undo 31 = .ok (.aload_n 0, 1) := by decide +kernel
theorem dX6_undo_32 : decode cX6_undo 32 = .ok (.getfield 25, 3) := by decide +kernel
theorem dX6_undo_35 : decode cX6_undo 35 = .ok (.getfield 174, 3) := by decide +kernel
theorem dX6_undo_38 : decode cX6_undo 38 = .ok (.ireturn, 1) := by decide +kernel
theorem dX6_cell_0 : decode cX6_cell 0 = .ok (.iload_n 1, 1) := by decide +kernel
theorem dX6_cell_1 : decode cX6_cell 1 = .ok (.iload_n 2, 1) := by decide +kernel
theorem dX6_cell_2 : decode cX6_cell 2 = .ok (.invokestatic 81, 3) := by decide +kernel
theorem dX6_cell_5 : decode cX6_cell 5 = .ok (.lstore 4, 2) := by decide +kernel
theorem dX6_cell_7 : decode cX6_cell 7 = .ok (.lload 4, 2) := by decide +kernel
theorem dX6_cell_9 : decode cX6_cell 9 = .ok (.lconst 0, 1) := by decide +kernel
theorem dX6_cell_10 : decode cX6_cell 10 = .ok (.lcmp, 1) := by decide +kernel
theorem dX6_cell_11 : decode cX6_cell 11 = .ok (.ifCond .ne 13, 3) := by decide +kernel
theorem dX6_cell_14 : decode cX6_cell 14 = .ok (.new 51, 3) := by decide +kernel
theorem dX6_cell_17 : decode cX6_cell 17 = .ok (.dup, 1) := by decide +kernel
theorem dX6_cell_18 : decode cX6_cell 18 = .ok (.ldc 85, 2) := by decide +kernel
theorem dX6_cell_20 : decode cX6_cell 20 = .ok (.invokespecial 55, 3) := by decide +kernel
theorem dX6_cell_23 : decode cX6_cell 23 = .ok (.athrow, 1) := by decide +kernel
theorem dX6_cell_24 : decode cX6_cell 24 = .ok (.iload_n 3, 1) := by decide +kernel
theorem dX6_cell_25 : decode cX6_cell 25 = .ok (.ifCond .lt 8, 3) := by decide +kernel
theorem dX6_cell_28 : decode cX6_cell 28 = .ok (.iload_n 3, 1) := by decide +kernel
theorem dX6_cell_29 : decode cX6_cell 29 = .ok (.iconst 5, 1) := by decide +kernel
theorem dX6_cell_30 : decode cX6_cell 30 = .ok (.if_icmp .le 13, 3) := by decide +kernel
theorem dX6_cell_33 : decode cX6_cell 33 = .ok (.new 64, 3) := by decide +kernel
theorem dX6_cell_36 : decode cX6_cell 36 = .ok (.dup, 1) := by decide +kernel
theorem dX6_cell_37 : decode cX6_cell 37 = .ok (.ldc 182, 2) := by decide +kernel
theorem dX6_cell_39 : decode cX6_cell 39 = .ok (.invokespecial 68, 3) := by decide +kernel
theorem dX6_cell_42 : decode cX6_cell 42 = .ok (.athrow, 1) := by decide +kernel
theorem dX6_cell_43 : decode cX6_cell 43 = .ok (.aload_n 0, 1) := by decide +kernel
theorem dX6_cell_44 : decode cX6_cell 44 = .ok (.lload 4, 2) := by decide +kernel
theorem dX6_cell_46 : decode cX6_cell 46 = .ok (.iload_n 3, 1) := by decide +kernel
theorem dX6_cell_47 : decode cX6_cell 47 = .ok (.invokevirtual 184, 3) := by decide +kernel
theorem dX6_cell_50 : decode cX6_cell 50 = .ok (.ireturn, 1) := by decide +kernel
theorem dX6_line_0 : decode cX6_line 0 = .ok (.iload_n 3, 1) := by decide +kernel
theorem dX6_line_1 : decode cX6_line 1 = .ok (.iconst 1, 1) := by decide +kernel
theorem dX6_line_2 : decode cX6_line 2 = .ok (.if_icmp .eq 8, 3) := by decide +kernel
theorem dX6_line_5 : decode cX6_line 5 = .ok (.iload_n 3, 1) := by decide +kernel
theorem dX6_line_6 : decode cX6_line 6 = .ok (.iconst 2, 1) := by decide +kernel
theorem dX6_line_7 : decode cX6_line 7 = .ok (.if_icmp .ne 7, 3) := by decide +kernel
theorem dX6_line_10 : decode cX6_line 10 = .ok (.iconst 1, 1) := by decide +kernel
theorem dX6_line_11 : decode cX6_line 11 = .ok (.goto 4, 3) := by decide +kernel
theorem dX6_line_14 : decode cX6_line 14 = .ok (.iconst 0, 1) := by decide +kernel
theorem dX6_line_15 : decode cX6_line 15 = .ok (.istore 5, 2) := by decide +kernel
theorem dX6_line_17 : decode cX6_line 17 = .ok (.iload_n 1, 1) := by decide +kernel
theorem dX6_line_18 : decode cX6_line 18 = .ok (.iload_n 2, 1) := by decide +kernel
theorem dX6_line_19 : decode cX6_line 19 = .ok (.iload_n 3, 1) := by decide +kernel
theorem dX6_line_20 : decode cX6_line 20 = .ok (.invokestatic 188, 3) := by decide +kernel
theorem dX6_line_23 : decode cX6_line 23 = .ok (.istore 6, 2) := by decide +kernel
theorem dX6_line_25 : decode cX6_line 25 = .ok (.iload_n 1, 1) := by decide +kernel
theorem dX6_line_26 : decode cX6_line 26 = .ok (.iload_n 2, 1) := by decide +kernel
theorem dX6_line_27 : decode cX6_line 27 = .ok (.invokestatic 193, 3) := by decide +kernel
theorem dX6_line_30 : decode cX6_line 30 = .ok (.ifCond .eq 14, 3) := by decide +kernel
theorem dX6_line_33 : decode cX6_line 33 = .ok (.iload 5, 2) := by decide +kernel
theorem dX6_line_35 : decode cX6_line 35 = .ok (.ifCond .eq 19, 3) := by decide +kernel
theorem dX6_line_38 : decode cX6_line 38 = .ok (.iload 6, 2) := by decide +kernel
theorem dX6_line_40 : decode cX6_line 40 = .ok (.iconst (-1), 1) := by decide +kernel
theorem dX6_line_41 : decode cX6_line 41 = .ok (.if_icmp .ne 13, 3) := by decide +kernel
theorem dX6_line_44 : decode cX6_line 44 = .ok (.new 51, 3) := by decide +kernel
theorem dX6_line_47 : decode cX6_line 47 = .ok (.dup, 1) := by decide +kernel
theorem dX6_line_48 : decode cX6_line 48 = .ok (.ldc 197, 2) := by decide +kernel
theorem dX6_line_50 : decode cX6_line 50 = .ok (.invokespecial 55, 3) := by decide +kernel
theorem dX6_line_53 : decode cX6_line 53 = .ok (.athrow, 1) := by decide +kernel
theorem dX6_line_54 : decode cX6_line 54 = .ok (.iload 5, 2) := by decide +kernel
theorem dX6_line_56 : decode cX6_line 56 = .ok (.ifCond .eq 14, 3) := by decide +kernel
theorem dX6_line_59 : decode cX6_line 59 = .ok (.iload 4, 2) := by decide +kernel
theorem dX6_line_61 : decode cX6_line 61 = .ok (.ifCond .lt 9, 3) := by decide +kernel
theorem dX6_line_64 : decode cX6_line 64 = .ok (.iload 4, 2) := by decide +kernel
theorem dX6_line_66 : decode cX6_line 66 = .ok (.iconst 2, 1) := by decide +kernel
theorem dX6_line_67 : decode cX6_line 67 = .ok (.if_icmp .le 13, 3) := by decide +kernel
theorem dX6_line_70 : decode cX6_line 70 = .ok (.new 64, 3) := by decide +kernel
theorem dX6_line_73 : decode cX6_line 73 = .ok (.dup, 1) := by decide +kernel
theorem dX6_line_74 : decode cX6_line 74 = .ok (.ldc 199, 2) := by decide +kernel
theorem dX6_line_76 : decode cX6_line 76 = .ok (.invokespecial 68, 3) := by decide +kernel
theorem dX6_line_79 : decode cX6_line 79 = .ok (.athrow, 1) := by decide +kernel
theorem dX6_line_80 : decode cX6_line 80 = .ok (.aload_n 0, 1) := by decide +kernel
theorem dX6_line_81 : decode cX6_line 81 = .ok (.iload 6, 2) := by decide +kernel
theorem dX6_line_83 : decode cX6_line 83 = .ok (.iload 4, 2) := by decide +kernel
theorem dX6_line_85 : decode cX6_line 85 = .ok (.invokevirtual 201, 3) := by decide +kernel
theorem dX6_line_88 : decode cX6_line 88 = .ok (.ireturn, 1) := by decide +kernel
theorem dX6_skater_0 : decode cX6_skater 0 = .ok (.iload_n 1, 1) := by decide +kernel
theorem dX6_skater_1 : decode cX6_skater 1 = .ok (.invokestatic 47, 3) := by decide +kernel
theorem dX6_skater_4 : decode cX6_skater 4 = .ok (.ifCond .ne 13, 3) := by decide +kernel
theorem dX6_skater_7 : decode cX6_skater 7 = .ok (.new 51, 3) := by decide +kernel
theorem dX6_skater_10 : decode cX6_skater 10 = .ok (.dup, 1) := by decide +kernel
theorem dX6_skater_11 : decode cX6_skater 11 = .ok (.ldc 53, 2) := by decide +kernel
theorem dX6_skater_13 : decode cX6_skater 13 = .ok (.invokespecial 55, 3) := by decide +kernel
theorem dX6_skater_16 : decode cX6_skater 16 = .ok (.athrow, 1) := by decide +kernel
theorem dX6_skater_17 : decode cX6_skater 17 = .ok (.iload_n 2, 1) := by decide +kernel
theorem dX6_skater_18 : decode cX6_skater 18 = .ok (.ifCond .lt 9, 3) := by decide +kernel
theorem dX6_skater_21 : decode cX6_skater 21 = .ok (.iload_n 2, 1) := by decide +kernel
theorem dX6_skater_22 : decode cX6_skater 22 = .ok (.bipush 8, 2) := by decide +kernel
theorem dX6_skater_24 : decode cX6_skater 24 = .ok (.if_icmp .le 13, 3) := by decide +kernel
theorem dX6_skater_27 : decode cX6_skater 27 = .ok (.new 64, 3) := by decide +kernel
theorem dX6_skater_30 : decode cX6_skater 30 = .ok (.dup, 1) := by decide +kernel
theorem dX6_skater_31 : decode cX6_skater 31 = .ok (.ldc 182, 2) := by decide +kernel
theorem dX6_skater_33 : decode cX6_skater 33 = .ok (.invokespecial 68, 3) := by decide +kernel
theorem dX6_skater_36 : decode cX6_skater 36 = .ok (.athrow, 1) := by decide +kernel
theorem dX6_skater_37 : decode cX6_skater 37 = .ok (.aload_n 0, 1) := by decide +kernel
theorem dX6_skater_38 : decode cX6_skater 38 = .ok (.iload_n 1, 1) := by decide +kernel
theorem dX6_skater_39 : decode cX6_skater 39 = .ok (.iload_n 2, 1) := by decide +kernel
theorem dX6_skater_40 : decode cX6_skater 40 = .ok (.invokevirtual 205, 3) := by decide +kernel
theorem dX6_skater_43 : decode cX6_skater 43 = .ok (.ireturn, 1) := by decide +kernel
theorem dX6_rink_0 : decode cX6_rink 0 = .ok (.iload_n 1, 1) := by decide +kernel
theorem dX6_rink_1 : decode cX6_rink 1 = .ok (.ifCond .ge 13, 3) := by decide +kernel
theorem dX6_rink_4 : decode cX6_rink 4 = .ok (.new 51, 3) := by decide +kernel
theorem dX6_rink_7 : decode cX6_rink 7 = .ok (.dup, 1) := by decide +kernel
theorem dX6_rink_8 : decode cX6_rink 8 = .ok (.ldc 208, 2) := by decide +kernel
theorem dX6_rink_10 : decode cX6_rink 10 = .ok (.invokespecial 55, 3) := by decide +kernel
theorem dX6_rink_13 : decode cX6_rink 13 = .ok (.athrow, 1) := by decide +kernel
theorem dX6_rink_14 : decode cX6_rink 14 = .ok (.iload_n 2, 1) := by decide +kernel
theorem dX6_rink_15 : decode cX6_rink 15 = .ok (.ifCond .lt 8, 3) := by decide +kernel
theorem dX6_rink_18 : decode cX6_rink 18 = .ok (.iload_n 2, 1) := by decide +kernel
theorem dX6_rink_19 : decode cX6_rink 19 = .ok (.iconst 2, 1) := by decide +kernel
theorem dX6_rink_20 : decode cX6_rink 20 = .ok (.if_icmp .le 13, 3) := by decide +kernel
theorem dX6_rink_23 : decode cX6_rink 23 = .ok (.new 64, 3) := by decide +kernel
theorem dX6_rink_26 : decode cX6_rink 26 = .ok (.dup, 1) := by decide +kernel
theorem dX6_rink_27 : decode cX6_rink 27 = .ok (.ldc 182, 2) := by decide +kernel
theorem dX6_rink_29 : decode cX6_rink 29 = .ok (.invokespecial 68, 3) := by decide +kernel
theorem dX6_rink_32 : decode cX6_rink 32 = .ok (.athrow, 1) := by decide +kernel
theorem dX6_rink_33 : decode cX6_rink 33 = .ok (.aload_n 0, 1) := by decide +kernel
theorem dX6_rink_34 : decode cX6_rink 34 = .ok (.getfield 10, 3) := by decide +kernel
theorem dX6_rink_37 : decode cX6_rink 37 = .ok (.iload_n 1, 1) := by decide +kernel
theorem dX6_rink_38 : decode cX6_rink 38 = .ok (.invokevirtual 210, 3) := by decide +kernel
theorem dX6_rink_41 : decode cX6_rink 41 = .ok (.lstore_n 3, 1) := by decide +kernel
theorem dX6_rink_42 : decode cX6_rink 42 = .ok (.lload_n 3, 1) := by decide +kernel
theorem dX6_rink_43 : decode cX6_rink 43 = .ok (.lconst 0, 1) := by decide +kernel
theorem dX6_rink_44 : decode cX6_rink 44 = .ok (.lcmp, 1) := by decide +kernel
theorem dX6_rink_45 : decode cX6_rink 45 = .ok (.ifCond .ne 7, 3) := by decide +kernel
theorem dX6_rink_48 : decode cX6_rink 48 = .ok (.iconst (-1), 1) := by decide +kernel
theorem dX6_rink_49 : decode cX6_rink 49 = .ok (.goto 9, 3) := by decide +kernel
theorem dX6_rink_52 : decode cX6_rink 52 = .ok (.aload_n 0, 1) := by decide +kernel
theorem dX6_rink_53 : decode cX6_rink 53 = .ok (.lload_n 3, 1) := by decide +kernel
theorem dX6_rink_54 : decode cX6_rink 54 = .ok (.iload_n 2, 1) := by decide +kernel
theorem dX6_rink_55 : decode cX6_rink 55 = .ok (.invokevirtual 214, 3) := by decide +kernel
theorem dX6_rink_58 : decode cX6_rink 58 = .ok (.ireturn, 1) := by decide +kernel
theorem dX6_count_0 : decode cX6_count 0 = .ok (.iload_n 1, 1) := by decide +kernel
theorem dX6_count_1 : decode cX6_count 1 = .ok (.ifCond .lt 9, 3) := by decide +kernel
theorem dX6_count_4 : decode cX6_count 4 = .ok (.iload_n 1, 1) := by decide +kernel
theorem dX6_count_5 : decode cX6_count 5 = .ok (.bipush 11, 2) := by decide +kernel
theorem dX6_count_7 : decode cX6_count 7 = .ok (.if_icmp .le 13, 3) := by decide +kernel
theorem dX6_count_10 : decode cX6_count 10 = .ok (.new 64, 3) := by decide +kernel
theorem dX6_count_13 : decode cX6_count 13 = .ok (.dup, 1) := by decide +kernel
theorem dX6_count_14 : decode cX6_count 14 = .ok (.ldc 182, 2) := by decide +kernel
theorem dX6_count_16 : decode cX6_count 16 = .ok (.invokespecial 68, 3) := by decide +kernel
theorem dX6_count_19 : decode cX6_count 19 = .ok (.athrow, 1) := by decide +kernel
theorem dX6_count_20 : decode cX6_count 20 = .ok (.aload_n 0, 1) := by decide +kernel
theorem dX6_count_21 : decode cX6_count 21 = .ok (.iload_n 1, 1) := by decide +kernel
theorem dX6_count_22 : decode cX6_count 22 = .ok (.invokevirtual 217, 3) := by decide +kernel
theorem dX6_count_25 : decode cX6_count 25 = .ok (.ireturn, 1) := by decide +kernel
theorem dX6_setting_0 : decode cX6_setting 0 = .ok (.iload_n 1, 1) := by decide +kernel
theorem dX6_setting_1 : decode cX6_setting 1 = .ok (.invokestatic 121, 3) := by decide +kernel
theorem dX6_setting_4 : decode cX6_setting 4 = .ok (.ifCond .ne 13, 3) := by decide +kernel
theorem dX6_setting_7 : decode cX6_setting 7 = .ok (.new 51, 3) := by decide +kernel
theorem dX6_setting_10 : decode cX6_setting 10 = .ok (.dup, 1) := by decide +kernel
theorem dX6_setting_11 : decode cX6_setting 11 = .ok (.ldc 124, 2) := by decide +kernel
theorem dX6_setting_13 : decode cX6_setting 13 = .ok (.invokespecial 55, 3) := by decide +kernel
theorem dX6_setting_16 : decode cX6_setting 16 = .ok (.athrow, 1) := by decide +kernel
theorem dX6_setting_17 : decode cX6_setting 17 = .ok (.aload_n 0, 1) := by decide +kernel
theorem dX6_setting_18 : decode cX6_setting 18 = .ok (.getfield 10, 3) := by decide +kernel
theorem dX6_setting_21 : decode cX6_setting 21 = .ok (.getfield 135, 3) := by decide +kernel
theorem dX6_setting_24 : decode cX6_setting 24 = .ok (.iload_n 1, 1) := by decide +kernel
theorem dX6_setting_25 : decode cX6_setting 25 = .ok (.iaload, 1) := by decide +kernel
theorem dX6_setting_26 : decode cX6_setting 26 = .ok (.ireturn, 1) := by decide +kernel
theorem dX6_why_0 : decode cX6_why 0 = .ok (.iload_n 1, 1) := by decide +kernel
theorem dX6_why_1 : decode cX6_why 1 = .ok (.invokestatic 47, 3) := by decide +kernel
theorem dX6_why_4 : decode cX6_why 4 = .ok (.ifCond .ne 13, 3) := by decide +kernel
theorem dX6_why_7 : decode cX6_why 7 = .ok (.new 51, 3) := by decide +kernel
theorem dX6_why_10 : decode cX6_why 10 = .ok (.dup, 1) := by decide +kernel
theorem dX6_why_11 : decode cX6_why 11 = .ok (.ldc 53, 2) := by decide +kernel
theorem dX6_why_13 : decode cX6_why 13 = .ok (.invokespecial 55, 3) := by decide +kernel
theorem dX6_why_16 : decode cX6_why 16 = .ok (.athrow, 1) := by decide +kernel
theorem dX6_why_17 : decode cX6_why 17 = .ok (.iload_n 2, 1) := by decide +kernel
theorem dX6_why_18 : decode cX6_why 18 = .ok (.invokestatic 58, 3) := by decide +kernel
theorem dX6_why_21 : decode cX6_why 21 = .ok (.ifCond .ne 13, 3) := by decide +kernel
theorem dX6_why_24 : decode cX6_why 24 = .ok (.new 64, 3) := by decide +kernel
theorem dX6_why_27 : decode cX6_why 27 = .ok (.dup, 1) := by decide +kernel
theorem dX6_why_28 : decode cX6_why 28 = .ok (.ldc 220, 2) := by decide +kernel
theorem dX6_why_30 : decode cX6_why 30 = .ok (.invokespecial 68, 3) := by decide +kernel
theorem dX6_why_33 : decode cX6_why 33 = .ok (.athrow, 1) := by decide +kernel
theorem dX6_why_34 : decode cX6_why 34 = .ok (.aload_n 0, 1) := by decide +kernel
theorem dX6_why_35 : decode cX6_why 35 = .ok (.getfield 10, 3) := by decide +kernel
theorem dX6_why_38 : decode cX6_why 38 = .ok (.iload_n 1, 1) := by decide +kernel
theorem dX6_why_39 : decode cX6_why 39 = .ok (.iload_n 2, 1) := by decide +kernel
theorem dX6_why_40 : decode cX6_why 40 = .ok (.invokevirtual 222, 3) := by decide +kernel
theorem dX6_why_43 : decode cX6_why 43 = .ok (.ireturn, 1) := by decide +kernel
theorem dX6_ifGlided_0 : decode cX6_ifGlided 0 = .ok (.iload_n 1, 1) := by decide +kernel
theorem dX6_ifGlided_1 : decode cX6_ifGlided 1 = .ok (.invokestatic 47, 3) := by decide +kernel
theorem dX6_ifGlided_4 : decode cX6_ifGlided 4 = .ok (.ifCond .ne 13, 3) := by decide +kernel
theorem dX6_ifGlided_7 : decode cX6_ifGlided 7 = .ok (.new 51, 3) := by decide +kernel
theorem dX6_ifGlided_10 : decode cX6_ifGlided 10 = .ok (.dup, 1) := by decide +kernel
theorem dX6_ifGlided_11 : decode cX6_ifGlided 11 = .ok (.ldc 53, 2) := by decide +kernel
theorem dX6_ifGlided_13 : decode cX6_ifGlided 13 = .ok (.invokespecial 55, 3) := by decide +kernel
theorem dX6_ifGlided_16 : decode cX6_ifGlided 16 = .ok (.athrow, 1) := by decide +kernel
theorem dX6_ifGlided_17 : decode cX6_ifGlided 17 = .ok (.iload_n 2, 1) := by decide +kernel
theorem dX6_ifGlided_18 : decode cX6_ifGlided 18 = .ok (.invokestatic 58, 3) := by decide +kernel
theorem dX6_ifGlided_21 : decode cX6_ifGlided 21 = .ok (.ifCond .eq 21, 3) := by decide +kernel
theorem dX6_ifGlided_24 : decode cX6_ifGlided 24 = .ok (.iload_n 3, 1) := by decide +kernel
theorem dX6_ifGlided_25 : decode cX6_ifGlided 25 = .ok (.invokestatic 61, 3) := by decide +kernel
theorem dX6_ifGlided_28 : decode cX6_ifGlided 28 = .ok (.ifCond .eq 14, 3) := by decide +kernel
theorem dX6_ifGlided_31 : decode cX6_ifGlided 31 = .ok (.iload 4, 2) := by decide +kernel
theorem dX6_ifGlided_33 : decode cX6_ifGlided 33 = .ok (.ifCond .lt 9, 3) := by decide +kernel
theorem dX6_ifGlided_36 : decode cX6_ifGlided 36 = .ok (.iload 4, 2) := by decide +kernel
theorem dX6_ifGlided_38 : decode cX6_ifGlided 38 = .ok (.iconst 3, 1) := by decide +kernel
theorem dX6_ifGlided_39 : decode cX6_ifGlided 39 = .ok (.if_icmp .le 13, 3) := by decide +kernel
theorem dX6_ifGlided_42 : decode cX6_ifGlided 42 = .ok (.new 64, 3) := by decide +kernel
theorem dX6_ifGlided_45 : decode cX6_ifGlided 45 = .ok (.dup, 1) := by decide +kernel
theorem dX6_ifGlided_46 : decode cX6_ifGlided 46 = .ok (.ldc 225, 2) := by decide +kernel
theorem dX6_ifGlided_48 : decode cX6_ifGlided 48 = .ok (.invokespecial 68, 3) := by decide +kernel
theorem dX6_ifGlided_51 : decode cX6_ifGlided 51 = .ok (.athrow, 1) := by decide +kernel
theorem dX6_ifGlided_52 : decode cX6_ifGlided 52 = .ok (.aload_n 0, 1) := by decide +kernel
theorem dX6_ifGlided_53 : decode cX6_ifGlided 53 = .ok (.getfield 16, 3) := by decide +kernel
theorem dX6_ifGlided_56 : decode cX6_ifGlided 56 = .ok (.aload_n 0, 1) := by decide +kernel
theorem dX6_ifGlided_57 : decode cX6_ifGlided 57 = .ok (.getfield 10, 3) := by decide +kernel
theorem dX6_ifGlided_60 : decode cX6_ifGlided 60 = .ok (.invokevirtual 166, 3) := by decide +kernel
theorem dX6_ifGlided_63 : decode cX6_ifGlided 63 = .ok (.aload_n 0, 1) := by decide +kernel
theorem dX6_ifGlided_64 : decode cX6_ifGlided 64 = .ok (.getfield 16, 3) := by decide +kernel
theorem dX6_ifGlided_67 : decode cX6_ifGlided 67 = .ok (.iload_n 1, 1) := by decide +kernel
theorem dX6_ifGlided_68 : decode cX6_ifGlided 68 = .ok (.iload_n 2, 1) := by decide +kernel
theorem dX6_ifGlided_69 : decode cX6_ifGlided 69 = .ok (.iload_n 3, 1) := by decide +kernel
theorem dX6_ifGlided_70 : decode cX6_ifGlided 70 = .ok (.invokevirtual 73, 3) := by decide +kernel
theorem dX6_ifGlided_73 : decode cX6_ifGlided 73 = .ok (.istore 5, 2) := by decide +kernel
theorem dX6_ifGlided_75 : decode cX6_ifGlided 75 = .ok (.iload 4, 2) := by decide +kernel
theorem dX6_ifGlided_77 : decode cX6_ifGlided 77 = .ok (.tableswitch 82 0 2 #[27, 30, 56], 27) := by decide +kernel
theorem dX6_ifGlided_104 : decode cX6_ifGlided 104 = .ok (.iload 5, 2) := by decide +kernel
theorem dX6_ifGlided_106 : decode cX6_ifGlided 106 = .ok (.ireturn, 1) := by decide +kernel
theorem dX6_ifGlided_107 : decode cX6_ifGlided 107 = .ok (.aload_n 0, 1) := by decide +kernel
theorem dX6_ifGlided_108 : decode cX6_ifGlided 108 = .ok (.getfield 16, 3) := by decide +kernel
theorem dX6_ifGlided_111 : decode cX6_ifGlided 111 = .ok (.getfield 112, 3) := by decide +kernel
theorem dX6_ifGlided_114 : decode cX6_ifGlided 114 = .ok (.iload_n 1, 1) := by decide +kernel
theorem dX6_ifGlided_115 : decode cX6_ifGlided 115 = .ok (.aaload, 1) := by decide +kernel
theorem dX6_ifGlided_116 : decode cX6_ifGlided 116 = .ok (.invokevirtual 227, 3) := by decide +kernel
theorem dX6_ifGlided_119 : decode cX6_ifGlided 119 = .ok (.aload_n 0, 1) := by decide +kernel
theorem dX6_ifGlided_120 : decode cX6_ifGlided 120 = .ok (.getfield 10, 3) := by decide +kernel
theorem dX6_ifGlided_123 : decode cX6_ifGlided 123 = .ok (.getfield 112, 3) := by decide +kernel
theorem dX6_ifGlided_126 : decode cX6_ifGlided 126 = .ok (.iload_n 1, 1) := by decide +kernel
theorem dX6_ifGlided_127 : decode cX6_ifGlided 127 = .ok (.aaload, 1) := by decide +kernel
theorem dX6_ifGlided_128 : decode cX6_ifGlided 128 = .ok (.invokevirtual 227, 3) := by decide +kernel
theorem dX6_ifGlided_131 : decode cX6_ifGlided 131 = .ok (.isub, 1) := by decide +kernel
theorem dX6_ifGlided_132 : decode cX6_ifGlided 132 = .ok (.ireturn, 1) := by decide +kernel
theorem dX6_ifGlided_133 : decode cX6_ifGlided 133 = .ok (.aload_n 0, 1) := by decide +kernel
theorem dX6_ifGlided_134 : decode cX6_ifGlided 134 = .ok (.getfield 16, 3) := by decide +kernel
theorem dX6_ifGlided_137 : decode cX6_ifGlided 137 = .ok (.getfield 112, 3) := by decide +kernel
theorem dX6_ifGlided_140 : decode cX6_ifGlided 140 = .ok (.iload_n 1, 1) := by decide +kernel
theorem dX6_ifGlided_141 : decode cX6_ifGlided 141 = .ok (.aaload, 1) := by decide +kernel
theorem dX6_ifGlided_142 : decode cX6_ifGlided 142 = .ok (.getfield 230, 3) := by decide +kernel
theorem dX6_ifGlided_145 : decode cX6_ifGlided 145 = .ok (.aload_n 0, 1) := by decide +kernel
theorem dX6_ifGlided_146 : decode cX6_ifGlided 146 = .ok (.getfield 10, 3) := by decide +kernel
theorem dX6_ifGlided_149 : decode cX6_ifGlided 149 = .ok (.getfield 112, 3) := by decide +kernel
theorem dX6_ifGlided_152 : decode cX6_ifGlided 152 = .ok (.iload_n 1, 1) := by decide +kernel
theorem dX6_ifGlided_153 : decode cX6_ifGlided 153 = .ok (.aaload, 1) := by decide +kernel
theorem dX6_ifGlided_154 : decode cX6_ifGlided 154 = .ok (.getfield 230, 3) := by decide +kernel
theorem dX6_ifGlided_157 : decode cX6_ifGlided 157 = .ok (.isub, 1) := by decide +kernel
theorem dX6_ifGlided_158 : decode cX6_ifGlided 158 = .ok (.ireturn, 1) := by decide +kernel
theorem dX6_ifGlided_159 : decode cX6_ifGlided 159 = .ok (.aload_n 0, 1) := by decide +kernel
theorem dX6_ifGlided_160 : decode cX6_ifGlided 160 = .ok (.getfield 16, 3) := by decide +kernel
theorem dX6_ifGlided_163 : decode cX6_ifGlided 163 = .ok (.invokevirtual 233, 3) := by decide +kernel
theorem dX6_ifGlided_166 : decode cX6_ifGlided 166 = .ok (.ireturn, 1) := by decide +kernel
theorem dX6_best_0 : decode cX6_best 0 = .ok (.iload_n 1, 1) := by decide +kernel
theorem dX6_best_1 : decode cX6_best 1 = .ok (.invokestatic 47, 3) := by decide +kernel
theorem dX6_best_4 : decode cX6_best 4 = .ok (.ifCond .ne 13, 3) := by decide +kernel
theorem dX6_best_7 : decode cX6_best 7 = .ok (.new 51, 3) := by decide +kernel
theorem dX6_best_10 : decode cX6_best 10 = .ok (.dup, 1) := by decide +kernel
theorem dX6_best_11 : decode cX6_best 11 = .ok (.ldc 53, 2) := by decide +kernel
theorem dX6_best_13 : decode cX6_best 13 = .ok (.invokespecial 55, 3) := by decide +kernel
theorem dX6_best_16 : decode cX6_best 16 = .ok (.athrow, 1) := by decide +kernel
theorem dX6_best_17 : decode cX6_best 17 = .ok (.aload_n 0, 1) := by decide +kernel
theorem dX6_best_18 : decode cX6_best 18 = .ok (.iload_n 1, 1) := by decide +kernel
theorem dX6_best_19 : decode cX6_best 19 = .ok (.invokevirtual 236, 3) := by decide +kernel
theorem dX6_best_22 : decode cX6_best 22 = .ok (.ireturn, 1) := by decide +kernel
theorem dX6_calm_0 : decode cX6_calm 0 = .ok (.aload_n 0, 1) := by decide +kernel
theorem dX6_calm_1 : decode cX6_calm 1 = .ok (.getfield 10, 3) := by decide +kernel
theorem dX6_calm_4 : decode cX6_calm 4 = .ok (.invokevirtual 239, 3) := by decide +kernel
theorem dX6_calm_7 : decode cX6_calm 7 = .ok (.ireturn, 1) := by decide +kernel
theorem dX6_ownedShare_0 : decode cX6_ownedShare 0 = .ok (.aload_n 0, 1) := by decide +kernel
theorem dX6_ownedShare_1 : decode cX6_ownedShare 1 = .ok (.getfield 10, 3) := by decide +kernel
theorem dX6_ownedShare_4 : decode cX6_ownedShare 4 = .ok (.invokevirtual 169, 3) := by decide +kernel
theorem dX6_ownedShare_7 : decode cX6_ownedShare 7 = .ok (.istore_n 1, 1) := by decide +kernel
theorem dX6_ownedShare_8 : decode cX6_ownedShare 8 = .ok (.iload_n 1, 1) := by decide +kernel
theorem dX6_ownedShare_9 : decode cX6_ownedShare 9 = .ok (.ifCond .ne 7, 3) := by decide +kernel
theorem dX6_ownedShare_12 : decode cX6_ownedShare 12 = .ok (.dconst 0, 1) := by decide +kernel
theorem dX6_ownedShare_13 : decode cX6_ownedShare 13 = .ok (.goto 14, 3) := by decide +kernel
theorem dX6_ownedShare_16 : decode cX6_ownedShare 16 = .ok (.aload_n 0, 1) := by decide +kernel
theorem dX6_ownedShare_17 : decode cX6_ownedShare 17 = .ok (.getfield 10, 3) := by decide +kernel
theorem dX6_ownedShare_20 : decode cX6_ownedShare 20 = .ok (.invokevirtual 242, 3) := by decide +kernel
theorem dX6_ownedShare_23 : decode cX6_ownedShare 23 = .ok (.i2d, 1) := by decide +kernel
theorem dX6_ownedShare_24 : decode cX6_ownedShare 24 = .ok (.iload_n 1, 1) := by decide +kernel
theorem dX6_ownedShare_25 : decode cX6_ownedShare 25 = .ok (.i2d, 1) := by decide +kernel
theorem dX6_ownedShare_26 : decode cX6_ownedShare 26 = .ok (.ddiv, 1) := by decide +kernel
theorem dX6_ownedShare_27 : decode cX6_ownedShare 27 = .ok (.dreturn, 1) := by decide +kernel
theorem dX6_meanRink_0 : decode cX6_meanRink 0 = .ok (.aload_n 0, 1) := by decide +kernel
theorem dX6_meanRink_1 : decode cX6_meanRink 1 = .ok (.getfield 10, 3) := by decide +kernel
theorem dX6_meanRink_4 : decode cX6_meanRink 4 = .ok (.invokevirtual 233, 3) := by decide +kernel
theorem dX6_meanRink_7 : decode cX6_meanRink 7 = .ok (.istore_n 1, 1) := by decide +kernel
theorem dX6_meanRink_8 : decode cX6_meanRink 8 = .ok (.iload_n 1, 1) := by decide +kernel
theorem dX6_meanRink_9 : decode cX6_meanRink 9 = .ok (.ifCond .ne 7, 3) := by decide +kernel
theorem dX6_meanRink_12 : decode cX6_meanRink 12 = .ok (.fconst 0, 1) := by decide +kernel
theorem dX6_meanRink_13 : decode cX6_meanRink 13 = .ok (.goto 14, 3) := by decide +kernel
theorem dX6_meanRink_16 : decode cX6_meanRink 16 = .ok (.aload_n 0, 1) := by decide +kernel
theorem dX6_meanRink_17 : decode cX6_meanRink 17 = .ok (.getfield 10, 3) := by decide +kernel
theorem dX6_meanRink_20 : decode cX6_meanRink 20 = .ok (.invokevirtual 169, 3) := by decide +kernel
theorem dX6_meanRink_23 : decode cX6_meanRink 23 = .ok (.i2f, 1) := by decide +kernel
theorem dX6_meanRink_24 : decode cX6_meanRink 24 = .ok (.iload_n 1, 1) := by decide +kernel
theorem dX6_meanRink_25 : decode cX6_meanRink 25 = .ok (.i2f, 1) := by decide +kernel
theorem dX6_meanRink_26 : decode cX6_meanRink 26 = .ok (.fdiv, 1) := by decide +kernel
theorem dX6_meanRink_27 : decode cX6_meanRink 27 = .ok (.freturn, 1) := by decide +kernel
theorem dX6_digest_0 : decode cX6_digest 0 = .ok (.ldc2_w 243, 3) := by decide +kernel
theorem dX6_digest_3 : decode cX6_digest 3 = .ok (.lstore_n 1, 1) := by decide +kernel
theorem dX6_digest_4 : decode cX6_digest 4 = .ok (.iconst 0, 1) := by decide +kernel
theorem dX6_digest_5 : decode cX6_digest 5 = .ok (.istore_n 3, 1) := by decide +kernel
theorem dX6_digest_6 : decode cX6_digest 6 = .ok (.iload_n 3, 1) := by decide +kernel
theorem dX6_digest_7 : decode cX6_digest 7 = .ok (.bipush 11, 2) := by decide +kernel
theorem dX6_digest_9 : decode cX6_digest 9 = .ok (.if_icmp .gt 22, 3) := by decide +kernel
theorem dX6_digest_12 : decode cX6_digest 12 = .ok (.ldc2_w 245, 3) := by decide +kernel
theorem dX6_digest_15 : decode cX6_digest 15 = .ok (.lload_n 1, 1) := by decide +kernel
theorem dX6_digest_16 : decode cX6_digest 16 = .ok (.lmul, 1) := by decide +kernel
theorem dX6_digest_17 : decode cX6_digest 17 = .ok (.aload_n 0, 1) := by decide +kernel
theorem dX6_digest_18 : decode cX6_digest 18 = .ok (.iload_n 3, 1) := by decide +kernel
theorem dX6_digest_19 : decode cX6_digest 19 = .ok (.invokevirtual 217, 3) := by decide +kernel
theorem dX6_digest_22 : decode cX6_digest 22 = .ok (.i2l, 1) := by decide +kernel
theorem dX6_digest_23 : decode cX6_digest 23 = .ok (.ladd, 1) := by decide +kernel
theorem dX6_digest_24 : decode cX6_digest 24 = .ok (.lstore_n 1, 1) := by decide +kernel
theorem dX6_digest_25 : decode cX6_digest 25 = .ok (.iinc 3 1, 3) := by decide +kernel
theorem dX6_digest_28 : decode cX6_digest 28 = .ok (.goto (-22), 3) := by decide +kernel
theorem dX6_digest_31 : decode cX6_digest 31 = .ok (.iconst 0, 1) := by decide +kernel
theorem dX6_digest_32 : decode cX6_digest 32 = .ok (.istore_n 3, 1) := by decide +kernel
theorem dX6_digest_33 : decode cX6_digest 33 = .ok (.iload_n 3, 1) := by decide +kernel
theorem dX6_digest_34 : decode cX6_digest 34 = .ok (.iconst 3, 1) := by decide +kernel
theorem dX6_digest_35 : decode cX6_digest 35 = .ok (.if_icmp .ge 26, 3) := by decide +kernel
theorem dX6_digest_38 : decode cX6_digest 38 = .ok (.ldc2_w 245, 3) := by decide +kernel
theorem dX6_digest_41 : decode cX6_digest 41 = .ok (.lload_n 1, 1) := by decide +kernel
theorem dX6_digest_42 : decode cX6_digest 42 = .ok (.lmul, 1) := by decide +kernel
theorem dX6_digest_43 : decode cX6_digest 43 = .ok (.aload_n 0, 1) := by decide +kernel
theorem dX6_digest_44 : decode cX6_digest 44 = .ok (.getfield 10, 3) := by decide +kernel
theorem dX6_digest_47 : decode cX6_digest 47 = .ok (.getfield 135, 3) := by decide +kernel
theorem dX6_digest_50 : decode cX6_digest 50 = .ok (.iload_n 3, 1) := by decide +kernel
theorem dX6_digest_51 : decode cX6_digest 51 = .ok (.iaload, 1) := by decide +kernel
theorem dX6_digest_52 : decode cX6_digest 52 = .ok (.i2l, 1) := by decide +kernel
theorem dX6_digest_53 : decode cX6_digest 53 = .ok (.ladd, 1) := by decide +kernel
theorem dX6_digest_54 : decode cX6_digest 54 = .ok (.lstore_n 1, 1) := by decide +kernel
theorem dX6_digest_55 : decode cX6_digest 55 = .ok (.iinc 3 1, 3) := by decide +kernel
theorem dX6_digest_58 : decode cX6_digest 58 = .ok (.goto (-25), 3) := by decide +kernel
theorem dX6_digest_61 : decode cX6_digest 61 = .ok (.aload_n 0, 1) := by decide +kernel
theorem dX6_digest_62 : decode cX6_digest 62 = .ok (.lload_n 1, 1) := by decide +kernel
theorem dX6_digest_63 : decode cX6_digest 63 = .ok (.invokevirtual 247, 3) := by decide +kernel
theorem dX6_digest_66 : decode cX6_digest 66 = .ok (.lstore_n 1, 1) := by decide +kernel
theorem dX6_digest_67 : decode cX6_digest 67 = .ok (.aload_n 0, 1) := by decide +kernel
theorem dX6_digest_68 : decode cX6_digest 68 = .ok (.lload_n 1, 1) := by decide +kernel
theorem dX6_digest_69 : decode cX6_digest 69 = .ok (.invokevirtual 251, 3) := by decide +kernel
theorem dX6_digest_72 : decode cX6_digest 72 = .ok (.lstore_n 1, 1) := by decide +kernel
theorem dX6_digest_73 : decode cX6_digest 73 = .ok (.aload_n 0, 1) := by decide +kernel
theorem dX6_digest_74 : decode cX6_digest 74 = .ok (.lload_n 1, 1) := by decide +kernel
theorem dX6_digest_75 : decode cX6_digest 75 = .ok (.invokevirtual 254, 3) := by decide +kernel
theorem dX6_digest_78 : decode cX6_digest 78 = .ok (.lstore_n 1, 1) := by decide +kernel
theorem dX6_digest_79 : decode cX6_digest 79 = .ok (.aload_n 0, 1) := by decide +kernel
theorem dX6_digest_80 : decode cX6_digest 80 = .ok (.lload_n 1, 1) := by decide +kernel
theorem dX6_digest_81 : decode cX6_digest 81 = .ok (.invokevirtual 257, 3) := by decide +kernel
theorem dX6_digest_84 : decode cX6_digest 84 = .ok (.lstore_n 1, 1) := by decide +kernel
theorem dX6_digest_85 : decode cX6_digest 85 = .ok (.ldc2_w 245, 3) := by decide +kernel
theorem dX6_digest_88 : decode cX6_digest 88 = .ok (.lload_n 1, 1) := by decide +kernel
theorem dX6_digest_89 : decode cX6_digest 89 = .ok (.lmul, 1) := by decide +kernel
theorem dX6_digest_90 : decode cX6_digest 90 = .ok (.aload_n 0, 1) := by decide +kernel
theorem dX6_digest_91 : decode cX6_digest 91 = .ok (.getfield 10, 3) := by decide +kernel
theorem dX6_digest_94 : decode cX6_digest 94 = .ok (.invokevirtual 239, 3) := by decide +kernel
theorem dX6_digest_97 : decode cX6_digest 97 = .ok (.i2l, 1) := by decide +kernel
theorem dX6_digest_98 : decode cX6_digest 98 = .ok (.ladd, 1) := by decide +kernel
theorem dX6_digest_99 : decode cX6_digest 99 = .ok (.lstore_n 1, 1) := by decide +kernel
theorem dX6_digest_100 : decode cX6_digest 100 = .ok (.ldc2_w 245, 3) := by decide +kernel
theorem dX6_digest_103 : decode cX6_digest 103 = .ok (.lload_n 1, 1) := by decide +kernel
theorem dX6_digest_104 : decode cX6_digest 104 = .ok (.lmul, 1) := by decide +kernel
theorem dX6_digest_105 : decode cX6_digest 105 = .ok (.aload_n 0, 1) := by decide +kernel
theorem dX6_digest_106 : decode cX6_digest 106 = .ok (.invokevirtual 260, 3) := by decide +kernel
theorem dX6_digest_109 : decode cX6_digest 109 = .ok (.sipush 1023, 3) := by decide +kernel
theorem dX6_digest_112 : decode cX6_digest 112 = .ok (.bipush 52, 2) := by decide +kernel
theorem dX6_digest_114 : decode cX6_digest 114 = .ok (.invokestatic 264, 3) := by decide +kernel
theorem dX6_digest_117 : decode cX6_digest 117 = .ok (.ladd, 1) := by decide +kernel
theorem dX6_digest_118 : decode cX6_digest 118 = .ok (.lstore_n 1, 1) := by decide +kernel
theorem dX6_digest_119 : decode cX6_digest 119 = .ok (.ldc2_w 245, 3) := by decide +kernel
theorem dX6_digest_122 : decode cX6_digest 122 = .ok (.lload_n 1, 1) := by decide +kernel
theorem dX6_digest_123 : decode cX6_digest 123 = .ok (.lmul, 1) := by decide +kernel
theorem dX6_digest_124 : decode cX6_digest 124 = .ok (.aload_n 0, 1) := by decide +kernel
theorem dX6_digest_125 : decode cX6_digest 125 = .ok (.invokevirtual 268, 3) := by decide +kernel
theorem dX6_digest_128 : decode cX6_digest 128 = .ok (.f2d, 1) := by decide +kernel
theorem dX6_digest_129 : decode cX6_digest 129 = .ok (.bipush 127, 2) := by decide +kernel
theorem dX6_digest_131 : decode cX6_digest 131 = .ok (.bipush 23, 2) := by decide +kernel
theorem dX6_digest_133 : decode cX6_digest 133 = .ok (.invokestatic 264, 3) := by decide +kernel
theorem dX6_digest_136 : decode cX6_digest 136 = .ok (.ladd, 1) := by decide +kernel
theorem dX6_digest_137 : decode cX6_digest 137 = .ok (.lstore_n 1, 1) := by decide +kernel
theorem dX6_digest_138 : decode cX6_digest 138 = .ok (.ldc2_w 245, 3) := by decide +kernel
theorem dX6_digest_141 : decode cX6_digest 141 = .ok (.lload_n 1, 1) := by decide +kernel
theorem dX6_digest_142 : decode cX6_digest 142 = .ok (.lmul, 1) := by decide +kernel
theorem dX6_digest_143 : decode cX6_digest 143 = .ok (.aload_n 0, 1) := by decide +kernel
theorem dX6_digest_144 : decode cX6_digest 144 = .ok (.getfield 43, 3) := by decide +kernel
theorem dX6_digest_147 : decode cX6_digest 147 = .ok (.ifCond .eq 7, 3) := by decide +kernel
theorem dX6_digest_150 : decode cX6_digest 150 = .ok (.iconst 1, 1) := by decide +kernel
theorem dX6_digest_151 : decode cX6_digest 151 = .ok (.goto 4, 3) := by decide +kernel
theorem dX6_digest_154 : decode cX6_digest 154 = .ok (.iconst 0, 1) := by decide +kernel
theorem dX6_digest_155 : decode cX6_digest 155 = .ok (.i2l, 1) := by decide +kernel
theorem dX6_digest_156 : decode cX6_digest 156 = .ok (.ladd, 1) := by decide +kernel
theorem dX6_digest_157 : decode cX6_digest 157 = .ok (.lstore_n 1, 1) := by decide +kernel
theorem dX6_digest_158 : decode cX6_digest 158 = .ok (.aload_n 0, 1) := by decide +kernel
theorem dX6_digest_159 : decode cX6_digest 159 = .ok (.lload_n 1, 1) := by decide +kernel
theorem dX6_digest_160 : decode cX6_digest 160 = .ok (.invokevirtual 272, 3) := by decide +kernel
theorem dX6_digest_163 : decode cX6_digest 163 = .ok (.lreturn, 1) := by decide +kernel
theorem dX6_cellNumber_0 : decode cX6_cellNumber 0 = .ok (.iload_n 3, 1) := by decide +kernel
theorem dX6_cellNumber_1 : decode cX6_cellNumber 1 = .ok (.tableswitch 120 0 4 #[35, 52, 61, 88, 100], 35) := by decide +kernel
theorem dX6_cellNumber_36 : decode cX6_cellNumber 36 = .ok (.aload_n 0, 1) := by decide +kernel
theorem dX6_cellNumber_37 : decode cX6_cellNumber 37 = .ok (.getfield 10, 3) := by decide +kernel
theorem dX6_cellNumber_40 : decode cX6_cellNumber 40 = .ok (.lload_n 1, 1) := by decide +kernel
theorem dX6_cellNumber_41 : decode cX6_cellNumber 41 = .ok (.invokevirtual 87, 3) := by decide +kernel
theorem dX6_cellNumber_44 : decode cX6_cellNumber 44 = .ok (.ifCond .eq 7, 3) := by decide +kernel
theorem dX6_cellNumber_47 : decode cX6_cellNumber 47 = .ok (.iconst 1, 1) := by decide +kernel
theorem dX6_cellNumber_48 : decode cX6_cellNumber 48 = .ok (.goto 4, 3) := by decide +kernel
theorem dX6_cellNumber_51 : decode cX6_cellNumber 51 = .ok (.iconst 0, 1) := by decide +kernel
theorem dX6_cellNumber_52 : decode cX6_cellNumber 52 = .ok (.ireturn, 1) := by decide +kernel
theorem dX6_cellNumber_53 : decode cX6_cellNumber 53 = .ok (.aload_n 0, 1) := by decide +kernel
theorem dX6_cellNumber_54 : decode cX6_cellNumber 54 = .ok (.getfield 10, 3) := by decide +kernel
theorem dX6_cellNumber_57 : decode cX6_cellNumber 57 = .ok (.lload_n 1, 1) := by decide +kernel
theorem dX6_cellNumber_58 : decode cX6_cellNumber 58 = .ok (.invokevirtual 96, 3) := by decide +kernel
theorem dX6_cellNumber_61 : decode cX6_cellNumber 61 = .ok (.ireturn, 1) := by decide +kernel
theorem dX6_cellNumber_62 : decode cX6_cellNumber 62 = .ok (.aload_n 0, 1) := by decide +kernel
theorem dX6_cellNumber_63 : decode cX6_cellNumber 63 = .ok (.getfield 10, 3) := by decide +kernel
theorem dX6_cellNumber_66 : decode cX6_cellNumber 66 = .ok (.lload_n 1, 1) := by decide +kernel
theorem dX6_cellNumber_67 : decode cX6_cellNumber 67 = .ok (.invokevirtual 87, 3) := by decide +kernel
theorem dX6_cellNumber_70 : decode cX6_cellNumber 70 = .ok (.ifCond .eq 17, 3) := by decide +kernel
theorem dX6_cellNumber_73 : decode cX6_cellNumber 73 = .ok (.aload_n 0, 1) := by decide +kernel
theorem dX6_cellNumber_74 : decode cX6_cellNumber 74 = .ok (.getfield 10, 3) := by decide +kernel
theorem dX6_cellNumber_77 : decode cX6_cellNumber 77 = .ok (.lload_n 1, 1) := by decide +kernel
theorem dX6_cellNumber_78 : decode cX6_cellNumber 78 = .ok (.invokevirtual 275, 3) := by decide +kernel
theorem dX6_cellNumber_81 : decode cX6_cellNumber 81 = .ok (.invokestatic 278, 3) := by decide +kernel
theorem dX6_cellNumber_84 : decode cX6_cellNumber 84 = .ok (.goto 4, 3) := by decide +kernel
theorem dX6_cellNumber_87 : decode cX6_cellNumber 87 = .ok (.iconst (-1), 1) := by decide +kernel
theorem dX6_cellNumber_88 : decode cX6_cellNumber 88 = .ok (.ireturn, 1) := by decide +kernel
theorem dX6_cellNumber_89 : decode cX6_cellNumber 89 = .ok (.aload_n 0, 1) := by decide +kernel
theorem dX6_cellNumber_90 : decode cX6_cellNumber 90 = .ok (.getfield 10, 3) := by decide +kernel
theorem dX6_cellNumber_93 : decode cX6_cellNumber 93 = .ok (.lload_n 1, 1) := by decide +kernel
theorem dX6_cellNumber_94 : decode cX6_cellNumber 94 = .ok (.invokevirtual 275, 3) := by decide +kernel
theorem dX6_cellNumber_97 : decode cX6_cellNumber 97 = .ok (.invokestatic 281, 3) := by decide +kernel
theorem dX6_cellNumber_100 : decode cX6_cellNumber 100 = .ok (.ireturn, 1) := by decide +kernel
theorem dX6_cellNumber_101 : decode cX6_cellNumber 101 = .ok (.lload_n 1, 1) := by decide +kernel
theorem dX6_cellNumber_102 : decode cX6_cellNumber 102 = .ok (.invokestatic 286, 3) := by decide +kernel
theorem dX6_cellNumber_105 : decode cX6_cellNumber 105 = .ok (.aload_n 0, 1) := by decide +kernel
theorem dX6_cellNumber_106 : decode cX6_cellNumber 106 = .ok (.getfield 10, 3) := by decide +kernel
theorem dX6_cellNumber_109 : decode cX6_cellNumber 109 = .ok (.getfield 289, 3) := by decide +kernel
theorem dX6_cellNumber_112 : decode cX6_cellNumber 112 = .ok (.ldc2_w 293, 3) := by decide +kernel
theorem dX6_cellNumber_115 : decode cX6_cellNumber 115 = .ok (.lxor, 1) := by decide +kernel
theorem dX6_cellNumber_116 : decode cX6_cellNumber 116 = .ok (.land, 1) := by decide +kernel
theorem dX6_cellNumber_117 : decode cX6_cellNumber 117 = .ok (.invokestatic 281, 3) := by decide +kernel
theorem dX6_cellNumber_120 : decode cX6_cellNumber 120 = .ok (.ireturn, 1) := by decide +kernel
theorem dX6_cellNumber_121 : decode cX6_cellNumber 121 = .ok (.aload_n 0, 1) := by decide +kernel
theorem dX6_cellNumber_122 : decode cX6_cellNumber 122 = .ok (.getfield 10, 3) := by decide +kernel
theorem dX6_cellNumber_125 : decode cX6_cellNumber 125 = .ok (.lload_n 1, 1) := by decide +kernel
theorem dX6_cellNumber_126 : decode cX6_cellNumber 126 = .ok (.invokevirtual 295, 3) := by decide +kernel
theorem dX6_cellNumber_129 : decode cX6_cellNumber 129 = .ok (.ireturn, 1) := by decide +kernel
theorem dX6_lineNumber_0 : decode cX6_lineNumber 0 = .ok (.iload_n 2, 1) := by decide +kernel
theorem dX6_lineNumber_1 : decode cX6_lineNumber 1 = .ok (.lookupswitch 54 #[(0, 27), (1, 37)], 27) := by decide +kernel
theorem dX6_lineNumber_28 : decode cX6_lineNumber 28 = .ok (.aload_n 0, 1) := by decide +kernel
theorem dX6_lineNumber_29 : decode cX6_lineNumber 29 = .ok (.getfield 10, 3) := by decide +kernel
theorem dX6_lineNumber_32 : decode cX6_lineNumber 32 = .ok (.getfield 298, 3) := by decide +kernel
theorem dX6_lineNumber_35 : decode cX6_lineNumber 35 = .ok (.iload_n 1, 1) := by decide +kernel
theorem dX6_lineNumber_36 : decode cX6_lineNumber 36 = .ok (.iaload, 1) := by decide +kernel
theorem dX6_lineNumber_37 : decode cX6_lineNumber 37 = .ok (.ireturn, 1) := by decide +kernel
theorem dX6_lineNumber_38 : decode cX6_lineNumber 38 = .ok (.aload_n 0, 1) := by decide +kernel
theorem dX6_lineNumber_39 : decode cX6_lineNumber 39 = .ok (.getfield 10, 3) := by decide +kernel
theorem dX6_lineNumber_42 : decode cX6_lineNumber 42 = .ok (.iload_n 1, 1) := by decide +kernel
theorem dX6_lineNumber_43 : decode cX6_lineNumber 43 = .ok (.invokevirtual 301, 3) := by decide +kernel
theorem dX6_lineNumber_46 : decode cX6_lineNumber 46 = .ok (.ifCond .eq 7, 3) := by decide +kernel
theorem dX6_lineNumber_49 : decode cX6_lineNumber 49 = .ok (.iconst 1, 1) := by decide +kernel
theorem dX6_lineNumber_50 : decode cX6_lineNumber 50 = .ok (.goto 4, 3) := by decide +kernel
theorem dX6_lineNumber_53 : decode cX6_lineNumber 53 = .ok (.iconst 0, 1) := by decide +kernel
theorem dX6_lineNumber_54 : decode cX6_lineNumber 54 = .ok (.ireturn, 1) := by decide +kernel
theorem dX6_lineNumber_55 : decode cX6_lineNumber 55 = .ok (.iload_n 1, 1) := by decide +kernel
theorem dX6_lineNumber_56 : decode cX6_lineNumber 56 = .ok (.invokestatic 304, 3) := by decide +kernel
theorem dX6_lineNumber_59 : decode cX6_lineNumber 59 = .ok (.aload_n 0, 1) := by decide +kernel
theorem dX6_lineNumber_60 : decode cX6_lineNumber 60 = .ok (.getfield 10, 3) := by decide +kernel
theorem dX6_lineNumber_63 : decode cX6_lineNumber 63 = .ok (.getfield 289, 3) := by decide +kernel
theorem dX6_lineNumber_66 : decode cX6_lineNumber 66 = .ok (.land, 1) := by decide +kernel
theorem dX6_lineNumber_67 : decode cX6_lineNumber 67 = .ok (.invokestatic 281, 3) := by decide +kernel
theorem dX6_lineNumber_70 : decode cX6_lineNumber 70 = .ok (.ireturn, 1) := by decide +kernel
theorem dX6_skaterNumber_0 : decode cX6_skaterNumber 0 = .ok (.aload_n 0, 1) := by decide +kernel
theorem dX6_skaterNumber_1 : decode cX6_skaterNumber 1 = .ok (.getfield 10, 3) := by decide +kernel
theorem dX6_skaterNumber_4 : decode cX6_skaterNumber 4 = .ok (.getfield 112, 3) := by decide +kernel
theorem dX6_skaterNumber_7 : decode cX6_skaterNumber 7 = .ok (.iload_n 1, 1) := by decide +kernel
theorem dX6_skaterNumber_8 : decode cX6_skaterNumber 8 = .ok (.aaload, 1) := by decide +kernel
theorem dX6_skaterNumber_9 : decode cX6_skaterNumber 9 = .ok (.astore_n 3, 1) := by decide +kernel
theorem dX6_skaterNumber_10 : decode cX6_skaterNumber 10 = .ok (.iload_n 2, 1) := by decide +kernel
theorem dX6_skaterNumber_11 : decode cX6_skaterNumber 11 = .ok (.tableswitch 93 0 7 #[45, 50, 55, 60, 65, 74, 83, 88], 45) := by decide +kernel
theorem dX6_skaterNumber_56 : decode cX6_skaterNumber 56 = .ok (.aload_n 3, 1) := by decide +kernel
theorem dX6_skaterNumber_57 : decode cX6_skaterNumber 57 = .ok (.getfield 307, 3) := by decide +kernel
theorem dX6_skaterNumber_60 : decode cX6_skaterNumber 60 = .ok (.ireturn, 1) := by decide +kernel
theorem dX6_skaterNumber_61 : decode cX6_skaterNumber 61 = .ok (.aload_n 3, 1) := by decide +kernel
theorem dX6_skaterNumber_62 : decode cX6_skaterNumber 62 = .ok (.getfield 310, 3) := by decide +kernel
theorem dX6_skaterNumber_65 : decode cX6_skaterNumber 65 = .ok (.ireturn, 1) := by decide +kernel
theorem dX6_skaterNumber_66 : decode cX6_skaterNumber 66 = .ok (.aload_n 3, 1) := by decide +kernel
theorem dX6_skaterNumber_67 : decode cX6_skaterNumber 67 = .ok (.getfield 116, 3) := by decide +kernel
theorem dX6_skaterNumber_70 : decode cX6_skaterNumber 70 = .ok (.ireturn, 1) := by decide +kernel
theorem dX6_skaterNumber_71 : decode cX6_skaterNumber 71 = .ok (.aload_n 3, 1) := by decide +kernel
theorem dX6_skaterNumber_72 : decode cX6_skaterNumber 72 = .ok (.invokevirtual 227, 3) := by decide +kernel
theorem dX6_skaterNumber_75 : decode cX6_skaterNumber 75 = .ok (.ireturn, 1) := by decide +kernel
theorem dX6_skaterNumber_76 : decode cX6_skaterNumber 76 = .ok (.aload_n 0, 1) := by decide +kernel
theorem dX6_skaterNumber_77 : decode cX6_skaterNumber 77 = .ok (.getfield 10, 3) := by decide +kernel
theorem dX6_skaterNumber_80 : decode cX6_skaterNumber 80 = .ok (.iload_n 1, 1) := by decide +kernel
theorem dX6_skaterNumber_81 : decode cX6_skaterNumber 81 = .ok (.invokevirtual 313, 3) := by decide +kernel
theorem dX6_skaterNumber_84 : decode cX6_skaterNumber 84 = .ok (.ireturn, 1) := by decide +kernel
theorem dX6_skaterNumber_85 : decode cX6_skaterNumber 85 = .ok (.aload_n 0, 1) := by decide +kernel
theorem dX6_skaterNumber_86 : decode cX6_skaterNumber 86 = .ok (.getfield 10, 3) := by decide +kernel
theorem dX6_skaterNumber_89 : decode cX6_skaterNumber 89 = .ok (.iload_n 1, 1) := by decide +kernel
theorem dX6_skaterNumber_90 : decode cX6_skaterNumber 90 = .ok (.invokevirtual 316, 3) := by decide +kernel
theorem dX6_skaterNumber_93 : decode cX6_skaterNumber 93 = .ok (.ireturn, 1) := by decide +kernel
theorem dX6_skaterNumber_94 : decode cX6_skaterNumber 94 = .ok (.aload_n 3, 1) := by decide +kernel
theorem dX6_skaterNumber_95 : decode cX6_skaterNumber 95 = .ok (.getfield 319, 3) := by decide +kernel
theorem dX6_skaterNumber_98 : decode cX6_skaterNumber 98 = .ok (.ireturn, 1) := by decide +kernel
theorem dX6_skaterNumber_99 : decode cX6_skaterNumber 99 = .ok (.aload_n 3, 1) := by decide +kernel
theorem dX6_skaterNumber_100 : decode cX6_skaterNumber 100 = .ok (.getfield 230, 3) := by decide +kernel
theorem dX6_skaterNumber_103 : decode cX6_skaterNumber 103 = .ok (.ireturn, 1) := by decide +kernel
theorem dX6_skaterNumber_104 : decode cX6_skaterNumber 104 = .ok (.aload_n 3, 1) := by decide +kernel
theorem dX6_skaterNumber_105 : decode cX6_skaterNumber 105 = .ok (.getfield 322, 3) := by decide +kernel
theorem dX6_skaterNumber_108 : decode cX6_skaterNumber 108 = .ok (.ireturn, 1) := by decide +kernel
theorem dX6_rinkNumber_0 : decode cX6_rinkNumber 0 = .ok (.lload_n 1, 1) := by decide +kernel
theorem dX6_rinkNumber_1 : decode cX6_rinkNumber 1 = .ok (.invokestatic 278, 3) := by decide +kernel
theorem dX6_rinkNumber_4 : decode cX6_rinkNumber 4 = .ok (.istore 4, 2) := by decide +kernel
theorem dX6_rinkNumber_6 : decode cX6_rinkNumber 6 = .ok (.iload_n 3, 1) := by decide +kernel
theorem dX6_rinkNumber_7 : decode cX6_rinkNumber 7 = .ok (.lookupswitch 33 #[(0, 25), (1, 28)], 25) := by decide +kernel
theorem dX6_rinkNumber_32 : decode cX6_rinkNumber 32 = .ok (.iload 4, 2) := by decide +kernel
theorem dX6_rinkNumber_34 : decode cX6_rinkNumber 34 = .ok (.ireturn, 1) := by decide +kernel
theorem dX6_rinkNumber_35 : decode cX6_rinkNumber 35 = .ok (.lload_n 1, 1) := by decide +kernel
theorem dX6_rinkNumber_36 : decode cX6_rinkNumber 36 = .ok (.invokestatic 281, 3) := by decide +kernel
theorem dX6_rinkNumber_39 : decode cX6_rinkNumber 39 = .ok (.ireturn, 1) := by decide +kernel
theorem dX6_rinkNumber_40 : decode cX6_rinkNumber 40 = .ok (.aload_n 0, 1) := by decide +kernel
theorem dX6_rinkNumber_41 : decode cX6_rinkNumber 41 = .ok (.getfield 10, 3) := by decide +kernel
theorem dX6_rinkNumber_44 : decode cX6_rinkNumber 44 = .ok (.lconst 1, 1) := by decide +kernel
theorem dX6_rinkNumber_45 : decode cX6_rinkNumber 45 = .ok (.iload 4, 2) := by decide +kernel
theorem dX6_rinkNumber_47 : decode cX6_rinkNumber 47 = .ok (.lshl, 1) := by decide +kernel
theorem dX6_rinkNumber_48 : decode cX6_rinkNumber 48 = .ok (.invokevirtual 96, 3) := by decide +kernel
theorem dX6_rinkNumber_51 : decode cX6_rinkNumber 51 = .ok (.ireturn, 1) := by decide +kernel
theorem dX6_stateNumber_0 : decode cX6_stateNumber 0 = .ok (.iload_n 1, 1) := by decide +kernel
theorem dX6_stateNumber_1 : decode cX6_stateNumber 1 = .ok (.tableswitch 165 0 10 #[59, 67, 75, 87, 95, 117, 125, 133, 141, 149, 157], 59) := by decide +kernel
theorem dX6_stateNumber_60 : decode cX6_stateNumber 60 = .ok (.aload_n 0, 1) := by decide +kernel
theorem dX6_stateNumber_61 : decode cX6_stateNumber 61 = .ok (.getfield 10, 3) := by decide +kernel
theorem dX6_stateNumber_64 : decode cX6_stateNumber 64 = .ok (.invokevirtual 169, 3) := by decide +kernel
theorem dX6_stateNumber_67 : decode cX6_stateNumber 67 = .ok (.ireturn, 1) := by decide +kernel
theorem dX6_stateNumber_68 : decode cX6_stateNumber 68 = .ok (.aload_n 0, 1) := by decide +kernel
theorem dX6_stateNumber_69 : decode cX6_stateNumber 69 = .ok (.getfield 10, 3) := by decide +kernel
theorem dX6_stateNumber_72 : decode cX6_stateNumber 72 = .ok (.invokevirtual 233, 3) := by decide +kernel
theorem dX6_stateNumber_75 : decode cX6_stateNumber 75 = .ok (.ireturn, 1) := by decide +kernel
theorem dX6_stateNumber_76 : decode cX6_stateNumber 76 = .ok (.aload_n 0, 1) := by decide +kernel
theorem dX6_stateNumber_77 : decode cX6_stateNumber 77 = .ok (.getfield 39, 3) := by decide +kernel
theorem dX6_stateNumber_80 : decode cX6_stateNumber 80 = .ok (.aload_n 0, 1) := by decide +kernel
theorem dX6_stateNumber_81 : decode cX6_stateNumber 81 = .ok (.getfield 10, 3) := by decide +kernel
theorem dX6_stateNumber_84 : decode cX6_stateNumber 84 = .ok (.invokevirtual 325, 3) := by decide +kernel
theorem dX6_stateNumber_87 : decode cX6_stateNumber 87 = .ok (.ireturn, 1) := by decide +kernel
theorem dX6_stateNumber_88 : decode cX6_stateNumber 88 = .ok (.aload_n 0, 1) := by decide +kernel
theorem dX6_stateNumber_89 : decode cX6_stateNumber 89 = .ok (.getfield 10, 3) := by decide +kernel
theorem dX6_stateNumber_92 : decode cX6_stateNumber 92 = .ok (.invokevirtual 328, 3) := by decide +kernel
theorem dX6_stateNumber_95 : decode cX6_stateNumber 95 = .ok (.ireturn, 1) := by decide +kernel
theorem dX6_stateNumber_96 : decode cX6_stateNumber 96 = .ok (.aload_n 0, 1) := by decide +kernel
theorem dX6_stateNumber_97 : decode cX6_stateNumber 97 = .ok (.getfield 10, 3) := by decide +kernel
theorem dX6_stateNumber_100 : decode cX6_stateNumber 100 = .ok (.getfield 331, 3) := by decide +kernel
theorem dX6_stateNumber_103 : decode cX6_stateNumber 103 = .ok (.invokestatic 281, 3) := by decide +kernel
theorem dX6_stateNumber_106 : decode cX6_stateNumber 106 = .ok (.aload_n 0, 1) := by decide +kernel
theorem dX6_stateNumber_107 : decode cX6_stateNumber 107 = .ok (.getfield 10, 3) := by decide +kernel
theorem dX6_stateNumber_110 : decode cX6_stateNumber 110 = .ok (.getfield 334, 3) := by decide +kernel
theorem dX6_stateNumber_113 : decode cX6_stateNumber 113 = .ok (.invokestatic 281, 3) := by decide +kernel
theorem dX6_stateNumber_116 : decode cX6_stateNumber 116 = .ok (.iadd, 1) := by decide +kernel
theorem dX6_stateNumber_117 : decode cX6_stateNumber 117 = .ok (.ireturn, 1) := by decide +kernel
theorem dX6_stateNumber_118 : decode cX6_stateNumber 118 = .ok (.aload_n 0, 1) := by decide +kernel
theorem dX6_stateNumber_119 : decode cX6_stateNumber 119 = .ok (.getfield 10, 3) := by decide +kernel
theorem dX6_stateNumber_122 : decode cX6_stateNumber 122 = .ok (.getfield 337, 3) := by decide +kernel
theorem dX6_stateNumber_125 : decode cX6_stateNumber 125 = .ok (.ireturn, 1) := by decide +kernel
theorem dX6_stateNumber_126 : decode cX6_stateNumber 126 = .ok (.aload_n 0, 1) := by decide +kernel
theorem dX6_stateNumber_127 : decode cX6_stateNumber 127 = .ok (.getfield 10, 3) := by decide +kernel
theorem dX6_stateNumber_130 : decode cX6_stateNumber 130 = .ok (.getfield 340, 3) := by decide +kernel
theorem dX6_stateNumber_133 : decode cX6_stateNumber 133 = .ok (.ireturn, 1) := by decide +kernel
theorem dX6_stateNumber_134 : decode cX6_stateNumber 134 = .ok (.aload_n 0, 1) := by decide +kernel
theorem dX6_stateNumber_135 : decode cX6_stateNumber 135 = .ok (.getfield 10, 3) := by decide +kernel
theorem dX6_stateNumber_138 : decode cX6_stateNumber 138 = .ok (.getfield 343, 3) := by decide +kernel
theorem dX6_stateNumber_141 : decode cX6_stateNumber 141 = .ok (.ireturn, 1) := by decide +kernel
theorem dX6_stateNumber_142 : decode cX6_stateNumber 142 = .ok (.aload_n 0, 1) := by decide +kernel
theorem dX6_stateNumber_143 : decode cX6_stateNumber 143 = .ok (.getfield 10, 3) := by decide +kernel
theorem dX6_stateNumber_146 : decode cX6_stateNumber 146 = .ok (.invokevirtual 346, 3) := by decide +kernel
theorem dX6_stateNumber_149 : decode cX6_stateNumber 149 = .ok (.ireturn, 1) := by decide +kernel
theorem dX6_stateNumber_150 : decode cX6_stateNumber 150 = .ok (.aload_n 0, 1) := by decide +kernel
theorem dX6_stateNumber_151 : decode cX6_stateNumber 151 = .ok (.getfield 10, 3) := by decide +kernel
theorem dX6_stateNumber_154 : decode cX6_stateNumber 154 = .ok (.getfield 106, 3) := by decide +kernel
theorem dX6_stateNumber_157 : decode cX6_stateNumber 157 = .ok (.ireturn, 1) := by decide +kernel
theorem dX6_stateNumber_158 : decode cX6_stateNumber 158 = .ok (.aload_n 0, 1) := by decide +kernel
theorem dX6_stateNumber_159 : decode cX6_stateNumber 159 = .ok (.getfield 10, 3) := by decide +kernel
theorem dX6_stateNumber_162 : decode cX6_stateNumber 162 = .ok (.invokevirtual 349, 3) := by decide +kernel
theorem dX6_stateNumber_165 : decode cX6_stateNumber 165 = .ok (.ireturn, 1) := by decide +kernel
theorem dX6_stateNumber_166 : decode cX6_stateNumber 166 = .ok (.aload_n 0, 1) := by decide +kernel
theorem dX6_stateNumber_167 : decode cX6_stateNumber 167 = .ok (.getfield 25, 3) := by decide +kernel
theorem dX6_stateNumber_170 : decode cX6_stateNumber 170 = .ok (.getfield 174, 3) := by decide +kernel
theorem dX6_stateNumber_173 : decode cX6_stateNumber 173 = .ok (.ireturn, 1) := by decide +kernel
theorem dX6_bestGlide_0 : decode cX6_bestGlide 0 = .ok (.aload_n 0, 1) := by decide +kernel
theorem dX6_bestGlide_1 : decode cX6_bestGlide 1 = .ok (.getfield 10, 3) := by decide +kernel
theorem dX6_bestGlide_4 : decode cX6_bestGlide 4 = .ok (.getfield 112, 3) := by decide +kernel
theorem dX6_bestGlide_7 : decode cX6_bestGlide 7 = .ok (.iload_n 1, 1) := by decide +kernel
theorem dX6_bestGlide_8 : decode cX6_bestGlide 8 = .ok (.aaload, 1) := by decide +kernel
theorem dX6_bestGlide_9 : decode cX6_bestGlide 9 = .ok (.invokevirtual 227, 3) := by decide +kernel
theorem dX6_bestGlide_12 : decode cX6_bestGlide 12 = .ok (.istore_n 2, 1) := by decide +kernel
theorem dX6_bestGlide_13 : decode cX6_bestGlide 13 = .ok (.iconst (-1), 1) := by decide +kernel
theorem dX6_bestGlide_14 : decode cX6_bestGlide 14 = .ok (.istore_n 3, 1) := by decide +kernel
theorem dX6_bestGlide_15 : decode cX6_bestGlide 15 = .ok (.iconst 0, 1) := by decide +kernel
theorem dX6_bestGlide_16 : decode cX6_bestGlide 16 = .ok (.istore 4, 2) := by decide +kernel
theorem dX6_bestGlide_18 : decode cX6_bestGlide 18 = .ok (.iconst 0, 1) := by decide +kernel
theorem dX6_bestGlide_19 : decode cX6_bestGlide 19 = .ok (.istore 5, 2) := by decide +kernel
theorem dX6_bestGlide_21 : decode cX6_bestGlide 21 = .ok (.iload 5, 2) := by decide +kernel
theorem dX6_bestGlide_23 : decode cX6_bestGlide 23 = .ok (.iconst 3, 1) := by decide +kernel
theorem dX6_bestGlide_24 : decode cX6_bestGlide 24 = .ok (.if_icmp .gt 103, 3) := by decide +kernel
theorem dX6_bestGlide_27 : decode cX6_bestGlide 27 = .ok (.aload_n 0, 1) := by decide +kernel
theorem dX6_bestGlide_28 : decode cX6_bestGlide 28 = .ok (.getfield 16, 3) := by decide +kernel
theorem dX6_bestGlide_31 : decode cX6_bestGlide 31 = .ok (.aload_n 0, 1) := by decide +kernel
theorem dX6_bestGlide_32 : decode cX6_bestGlide 32 = .ok (.getfield 10, 3) := by decide +kernel
theorem dX6_bestGlide_35 : decode cX6_bestGlide 35 = .ok (.invokevirtual 166, 3) := by decide +kernel
theorem dX6_bestGlide_38 : decode cX6_bestGlide 38 = .ok (.iconst 1, 1) := by decide +kernel
theorem dX6_bestGlide_39 : decode cX6_bestGlide 39 = .ok (.istore 6, 2) := by decide +kernel
theorem dX6_bestGlide_41 : decode cX6_bestGlide 41 = .ok (.iload 6, 2) := by decide +kernel
theorem dX6_bestGlide_43 : decode cX6_bestGlide 43 = .ok (.bipush 8, 2) := by decide +kernel
theorem dX6_bestGlide_45 : decode cX6_bestGlide 45 = .ok (.if_icmp .gt 76, 3) := by decide +kernel
theorem dX6_bestGlide_48 : decode cX6_bestGlide 48 = .ok (.aload_n 0, 1) := by decide +kernel
theorem dX6_bestGlide_49 : decode cX6_bestGlide 49 = .ok (.getfield 16, 3) := by decide +kernel
theorem dX6_bestGlide_52 : decode cX6_bestGlide 52 = .ok (.iload_n 1, 1) := by decide +kernel
theorem dX6_bestGlide_53 : decode cX6_bestGlide 53 = .ok (.iload 5, 2) := by decide +kernel
theorem dX6_bestGlide_55 : decode cX6_bestGlide 55 = .ok (.invokevirtual 222, 3) := by decide +kernel
theorem dX6_bestGlide_58 : decode cX6_bestGlide 58 = .ok (.ifCond .eq 6, 3) := by decide +kernel
theorem dX6_bestGlide_61 : decode cX6_bestGlide 61 = .ok (.goto 60, 3) := by decide +kernel
theorem dX6_bestGlide_64 : decode cX6_bestGlide 64 = .ok (.aload_n 0, 1) := by decide +kernel
theorem dX6_bestGlide_65 : decode cX6_bestGlide 65 = .ok (.getfield 16, 3) := by decide +kernel
theorem dX6_bestGlide_68 : decode cX6_bestGlide 68 = .ok (.iload_n 1, 1) := by decide +kernel
theorem dX6_bestGlide_69 : decode cX6_bestGlide 69 = .ok (.iload 5, 2) := by decide +kernel
theorem dX6_bestGlide_71 : decode cX6_bestGlide 71 = .ok (.invokevirtual 352, 3) := by decide +kernel
theorem dX6_bestGlide_74 : decode cX6_bestGlide 74 = .ok (.aload_n 0, 1) := by decide +kernel
theorem dX6_bestGlide_75 : decode cX6_bestGlide 75 = .ok (.getfield 16, 3) := by decide +kernel
theorem dX6_bestGlide_78 : decode cX6_bestGlide 78 = .ok (.getfield 112, 3) := by decide +kernel
theorem dX6_bestGlide_81 : decode cX6_bestGlide 81 = .ok (.iload_n 1, 1) := by decide +kernel
theorem dX6_bestGlide_82 : decode cX6_bestGlide 82 = .ok (.aaload, 1) := by decide +kernel
theorem dX6_bestGlide_83 : decode cX6_bestGlide 83 = .ok (.invokevirtual 227, 3) := by decide +kernel
theorem dX6_bestGlide_86 : decode cX6_bestGlide 86 = .ok (.iload_n 2, 1) := by decide +kernel
theorem dX6_bestGlide_87 : decode cX6_bestGlide 87 = .ok (.isub, 1) := by decide +kernel
theorem dX6_bestGlide_88 : decode cX6_bestGlide 88 = .ok (.istore 7, 2) := by decide +kernel
theorem dX6_bestGlide_90 : decode cX6_bestGlide 90 = .ok (.iload_n 3, 1) := by decide +kernel
theorem dX6_bestGlide_91 : decode cX6_bestGlide 91 = .ok (.iconst (-1), 1) := by decide +kernel
theorem dX6_bestGlide_92 : decode cX6_bestGlide 92 = .ok (.if_icmp .eq 10, 3) := by decide +kernel
theorem dX6_bestGlide_95 : decode cX6_bestGlide 95 = .ok (.iload 7, 2) := by decide +kernel
theorem dX6_bestGlide_97 : decode cX6_bestGlide 97 = .ok (.iload 4, 2) := by decide +kernel
theorem dX6_bestGlide_99 : decode cX6_bestGlide 99 = .ok (.if_icmp .le 16, 3) := by decide +kernel
theorem dX6_bestGlide_102 : decode cX6_bestGlide 102 = .ok (.bipush 10, 2) := by decide +kernel
theorem dX6_bestGlide_104 : decode cX6_bestGlide 104 = .ok (.iload 5, 2) := by decide +kernel
theorem dX6_bestGlide_106 : decode cX6_bestGlide 106 = .ok (.imul, 1) := by decide +kernel
theorem dX6_bestGlide_107 : decode cX6_bestGlide 107 = .ok (.iload 6, 2) := by decide +kernel
theorem dX6_bestGlide_109 : decode cX6_bestGlide 109 = .ok (.iadd, 1) := by decide +kernel
theorem dX6_bestGlide_110 : decode cX6_bestGlide 110 = .ok (.istore_n 3, 1) := by decide +kernel
theorem dX6_bestGlide_111 : decode cX6_bestGlide 111 = .ok (.iload 7, 2) := by decide +kernel
theorem dX6_bestGlide_113 : decode cX6_bestGlide 113 = .ok (.istore 4, 2) := by decide +kernel
theorem dX6_bestGlide_115 : decode cX6_bestGlide 115 = .ok (.iinc 6 1, 3) := by decide +kernel
theorem dX6_bestGlide_118 : decode cX6_bestGlide 118 = .ok (.goto (-77), 3) := by decide +kernel
theorem dX6_bestGlide_121 : decode cX6_bestGlide 121 = .ok (.iinc 5 1, 3) := by decide +kernel
theorem dX6_bestGlide_124 : decode cX6_bestGlide 124 = .ok (.goto (-103), 3) := by decide +kernel
theorem dX6_bestGlide_127 : decode cX6_bestGlide 127 = .ok (.iload_n 3, 1) := by decide +kernel
theorem dX6_bestGlide_128 : decode cX6_bestGlide 128 = .ok (.ireturn, 1) := by decide +kernel
theorem dX6_hashCells_0 : decode cX6_hashCells 0 = .ok (.lload_n 1, 1) := by decide +kernel
theorem dX6_hashCells_1 : decode cX6_hashCells 1 = .ok (.lstore_n 3, 1) := by decide +kernel
theorem dX6_hashCells_2 : decode cX6_hashCells 2 = .ok (.iconst 0, 1) := by decide +kernel
theorem dX6_hashCells_3 : decode cX6_hashCells 3 = .ok (.istore 5, 2) := by decide +kernel
theorem dX6_hashCells_5 : decode cX6_hashCells 5 = .ok (.iload 5, 2) := by decide +kernel
theorem dX6_hashCells_7 : decode cX6_hashCells 7 = .ok (.bipush 64, 2) := by decide +kernel
theorem dX6_hashCells_9 : decode cX6_hashCells 9 = .ok (.if_icmp .ge 42, 3) := by decide +kernel
theorem dX6_hashCells_12 : decode cX6_hashCells 12 = .ok (.iconst 0, 1) := by decide +kernel
theorem dX6_hashCells_13 : decode cX6_hashCells 13 = .ok (.istore 6, 2) := by decide +kernel
theorem dX6_hashCells_15 : decode cX6_hashCells 15 = .ok (.iload 6, 2) := by decide +kernel
theorem dX6_hashCells_17 : decode cX6_hashCells 17 = .ok (.iconst 5, 1) := by decide +kernel
theorem dX6_hashCells_18 : decode cX6_hashCells 18 = .ok (.if_icmp .gt 27, 3) := by decide +kernel
theorem dX6_hashCells_21 : decode cX6_hashCells 21 = .ok (.ldc2_w 245, 3) := by decide +kernel
theorem dX6_hashCells_24 : decode cX6_hashCells 24 = .ok (.lload_n 3, 1) := by decide +kernel
theorem dX6_hashCells_25 : decode cX6_hashCells 25 = .ok (.lmul, 1) := by decide +kernel
theorem dX6_hashCells_26 : decode cX6_hashCells 26 = .ok (.aload_n 0, 1) := by decide +kernel
theorem dX6_hashCells_27 : decode cX6_hashCells 27 = .ok (.lconst 1, 1) := by decide +kernel
theorem dX6_hashCells_28 : decode cX6_hashCells 28 = .ok (.iload 5, 2) := by decide +kernel
theorem dX6_hashCells_30 : decode cX6_hashCells 30 = .ok (.lshl, 1) := by decide +kernel
theorem dX6_hashCells_31 : decode cX6_hashCells 31 = .ok (.iload 6, 2) := by decide +kernel
theorem dX6_hashCells_33 : decode cX6_hashCells 33 = .ok (.invokevirtual 184, 3) := by decide +kernel
theorem dX6_hashCells_36 : decode cX6_hashCells 36 = .ok (.i2l, 1) := by decide +kernel
theorem dX6_hashCells_37 : decode cX6_hashCells 37 = .ok (.ladd, 1) := by decide +kernel
theorem dX6_hashCells_38 : decode cX6_hashCells 38 = .ok (.lstore_n 3, 1) := by decide +kernel
theorem dX6_hashCells_39 : decode cX6_hashCells 39 = .ok (.iinc 6 1, 3) := by decide +kernel
theorem dX6_hashCells_42 : decode cX6_hashCells 42 = .ok (.goto (-27), 3) := by decide +kernel
theorem dX6_hashCells_45 : decode cX6_hashCells 45 = .ok (.iinc 5 1, 3) := by decide +kernel
theorem dX6_hashCells_48 : decode cX6_hashCells 48 = .ok (.goto (-43), 3) := by decide +kernel
theorem dX6_hashCells_51 : decode cX6_hashCells 51 = .ok (.lload_n 3, 1) := by decide +kernel
theorem dX6_hashCells_52 : decode cX6_hashCells 52 = .ok (.lreturn, 1) := by decide +kernel
theorem dX6_hashLines_0 : decode cX6_hashLines 0 = .ok (.lload_n 1, 1) := by decide +kernel
theorem dX6_hashLines_1 : decode cX6_hashLines 1 = .ok (.lstore_n 3, 1) := by decide +kernel
theorem dX6_hashLines_2 : decode cX6_hashLines 2 = .ok (.iconst 0, 1) := by decide +kernel
theorem dX6_hashLines_3 : decode cX6_hashLines 3 = .ok (.istore 5, 2) := by decide +kernel
theorem dX6_hashLines_5 : decode cX6_hashLines 5 = .ok (.iload 5, 2) := by decide +kernel
theorem dX6_hashLines_7 : decode cX6_hashLines 7 = .ok (.bipush 81, 2) := by decide +kernel
theorem dX6_hashLines_9 : decode cX6_hashLines 9 = .ok (.if_icmp .ge 81, 3) := by decide +kernel
theorem dX6_hashLines_12 : decode cX6_hashLines 12 = .ok (.iconst 1, 1) := by decide +kernel
theorem dX6_hashLines_13 : decode cX6_hashLines 13 = .ok (.istore 6, 2) := by decide +kernel
theorem dX6_hashLines_15 : decode cX6_hashLines 15 = .ok (.iload 6, 2) := by decide +kernel
theorem dX6_hashLines_17 : decode cX6_hashLines 17 = .ok (.iconst 2, 1) := by decide +kernel
theorem dX6_hashLines_18 : decode cX6_hashLines 18 = .ok (.if_icmp .gt 66, 3) := by decide +kernel
theorem dX6_hashLines_21 : decode cX6_hashLines 21 = .ok (.iload 5, 2) := by decide +kernel
theorem dX6_hashLines_23 : decode cX6_hashLines 23 = .ok (.bipush 9, 2) := by decide +kernel
theorem dX6_hashLines_25 : decode cX6_hashLines 25 = .ok (.irem, 1) := by decide +kernel
theorem dX6_hashLines_26 : decode cX6_hashLines 26 = .ok (.iload 5, 2) := by decide +kernel
theorem dX6_hashLines_28 : decode cX6_hashLines 28 = .ok (.bipush 9, 2) := by decide +kernel
theorem dX6_hashLines_30 : decode cX6_hashLines 30 = .ok (.idiv, 1) := by decide +kernel
theorem dX6_hashLines_31 : decode cX6_hashLines 31 = .ok (.iload 6, 2) := by decide +kernel
theorem dX6_hashLines_33 : decode cX6_hashLines 33 = .ok (.invokestatic 188, 3) := by decide +kernel
theorem dX6_hashLines_36 : decode cX6_hashLines 36 = .ok (.istore 7, 2) := by decide +kernel
theorem dX6_hashLines_38 : decode cX6_hashLines 38 = .ok (.iload 7, 2) := by decide +kernel
theorem dX6_hashLines_40 : decode cX6_hashLines 40 = .ok (.iconst (-1), 1) := by decide +kernel
theorem dX6_hashLines_41 : decode cX6_hashLines 41 = .ok (.if_icmp .ne 6, 3) := by decide +kernel
theorem dX6_hashLines_44 : decode cX6_hashLines 44 = .ok (.goto 34, 3) := by decide +kernel
theorem dX6_hashLines_47 : decode cX6_hashLines 47 = .ok (.iconst 0, 1) := by decide +kernel
theorem dX6_hashLines_48 : decode cX6_hashLines 48 = .ok (.istore 8, 2) := by decide +kernel
theorem dX6_hashLines_50 : decode cX6_hashLines 50 = .ok (.iload 8, 2) := by decide +kernel
theorem dX6_hashLines_52 : decode cX6_hashLines 52 = .ok (.iconst 2, 1) := by decide +kernel
theorem dX6_hashLines_53 : decode cX6_hashLines 53 = .ok (.if_icmp .gt 25, 3) := by decide +kernel
theorem dX6_hashLines_56 : decode cX6_hashLines 56 = .ok (.ldc2_w 245, 3) := by decide +kernel
theorem dX6_hashLines_59 : decode cX6_hashLines 59 = .ok (.lload_n 3, 1) := by decide +kernel
theorem dX6_hashLines_60 : decode cX6_hashLines 60 = .ok (.lmul, 1) := by decide +kernel
theorem dX6_hashLines_61 : decode cX6_hashLines 61 = .ok (.aload_n 0, 1) := by decide +kernel
theorem dX6_hashLines_62 : decode cX6_hashLines 62 = .ok (.iload 7, 2) := by decide +kernel
theorem dX6_hashLines_64 : decode cX6_hashLines 64 = .ok (.iload 8, 2) := by decide +kernel
theorem dX6_hashLines_66 : decode cX6_hashLines 66 = .ok (.invokevirtual 201, 3) := by decide +kernel
theorem dX6_hashLines_69 : decode cX6_hashLines 69 = .ok (.i2l, 1) := by decide +kernel
theorem dX6_hashLines_70 : decode cX6_hashLines 70 = .ok (.ladd, 1) := by decide +kernel
theorem dX6_hashLines_71 : decode cX6_hashLines 71 = .ok (.lstore_n 3, 1) := by decide +kernel
theorem dX6_hashLines_72 : decode cX6_hashLines 72 = .ok (.iinc 8 1, 3) := by decide +kernel
theorem dX6_hashLines_75 : decode cX6_hashLines 75 = .ok (.goto (-25), 3) := by decide +kernel
theorem dX6_hashLines_78 : decode cX6_hashLines 78 = .ok (.iinc 6 1, 3) := by decide +kernel
theorem dX6_hashLines_81 : decode cX6_hashLines 81 = .ok (.goto (-66), 3) := by decide +kernel
theorem dX6_hashLines_84 : decode cX6_hashLines 84 = .ok (.iinc 5 1, 3) := by decide +kernel
theorem dX6_hashLines_87 : decode cX6_hashLines 87 = .ok (.goto (-82), 3) := by decide +kernel
theorem dX6_hashLines_90 : decode cX6_hashLines 90 = .ok (.lload_n 3, 1) := by decide +kernel
theorem dX6_hashLines_91 : decode cX6_hashLines 91 = .ok (.lreturn, 1) := by decide +kernel
theorem dX6_hashSkaters_0 : decode cX6_hashSkaters 0 = .ok (.lload_n 1, 1) := by decide +kernel
theorem dX6_hashSkaters_1 : decode cX6_hashSkaters 1 = .ok (.lstore_n 3, 1) := by decide +kernel
theorem dX6_hashSkaters_2 : decode cX6_hashSkaters 2 = .ok (.iconst 0, 1) := by decide +kernel
theorem dX6_hashSkaters_3 : decode cX6_hashSkaters 3 = .ok (.istore 5, 2) := by decide +kernel
theorem dX6_hashSkaters_5 : decode cX6_hashSkaters 5 = .ok (.iload 5, 2) := by decide +kernel
theorem dX6_hashSkaters_7 : decode cX6_hashSkaters 7 = .ok (.iconst 3, 1) := by decide +kernel
theorem dX6_hashSkaters_8 : decode cX6_hashSkaters 8 = .ok (.if_icmp .ge 89, 3) := by decide +kernel
theorem dX6_hashSkaters_11 : decode cX6_hashSkaters 11 = .ok (.iconst 0, 1) := by decide +kernel
theorem dX6_hashSkaters_12 : decode cX6_hashSkaters 12 = .ok (.istore 6, 2) := by decide +kernel
theorem dX6_hashSkaters_14 : decode cX6_hashSkaters 14 = .ok (.iload 6, 2) := by decide +kernel
theorem dX6_hashSkaters_16 : decode cX6_hashSkaters 16 = .ok (.bipush 8, 2) := by decide +kernel
theorem dX6_hashSkaters_18 : decode cX6_hashSkaters 18 = .ok (.if_icmp .gt 25, 3) := by decide +kernel
theorem dX6_hashSkaters_21 : decode cX6_hashSkaters 21 = .ok (.ldc2_w 245, 3) := by decide +kernel
theorem dX6_hashSkaters_24 : decode cX6_hashSkaters 24 = .ok (.lload_n 3, 1) := by decide +kernel
theorem dX6_hashSkaters_25 : decode cX6_hashSkaters 25 = .ok (.lmul, 1) := by decide +kernel
theorem dX6_hashSkaters_26 : decode cX6_hashSkaters 26 = .ok (.aload_n 0, 1) := by decide +kernel
theorem dX6_hashSkaters_27 : decode cX6_hashSkaters 27 = .ok (.iload 5, 2) := by decide +kernel
theorem dX6_hashSkaters_29 : decode cX6_hashSkaters 29 = .ok (.iload 6, 2) := by decide +kernel
theorem dX6_hashSkaters_31 : decode cX6_hashSkaters 31 = .ok (.invokevirtual 205, 3) := by decide +kernel
theorem dX6_hashSkaters_34 : decode cX6_hashSkaters 34 = .ok (.i2l, 1) := by decide +kernel
theorem dX6_hashSkaters_35 : decode cX6_hashSkaters 35 = .ok (.ladd, 1) := by decide +kernel
theorem dX6_hashSkaters_36 : decode cX6_hashSkaters 36 = .ok (.lstore_n 3, 1) := by decide +kernel
theorem dX6_hashSkaters_37 : decode cX6_hashSkaters 37 = .ok (.iinc 6 1, 3) := by decide +kernel
theorem dX6_hashSkaters_40 : decode cX6_hashSkaters 40 = .ok (.goto (-26), 3) := by decide +kernel
theorem dX6_hashSkaters_43 : decode cX6_hashSkaters 43 = .ok (.iconst 0, 1) := by decide +kernel
theorem dX6_hashSkaters_44 : decode cX6_hashSkaters 44 = .ok (.istore 6, 2) := by decide +kernel
theorem dX6_hashSkaters_46 : decode cX6_hashSkaters 46 = .ok (.iload 6, 2) := by decide +kernel
theorem dX6_hashSkaters_48 : decode cX6_hashSkaters 48 = .ok (.iconst 3, 1) := by decide +kernel
theorem dX6_hashSkaters_49 : decode cX6_hashSkaters 49 = .ok (.if_icmp .gt 28, 3) := by decide +kernel
theorem dX6_hashSkaters_52 : decode cX6_hashSkaters 52 = .ok (.ldc2_w 245, 3) := by decide +kernel
theorem dX6_hashSkaters_55 : decode cX6_hashSkaters 55 = .ok (.lload_n 3, 1) := by decide +kernel
theorem dX6_hashSkaters_56 : decode cX6_hashSkaters 56 = .ok (.lmul, 1) := by decide +kernel
theorem dX6_hashSkaters_57 : decode cX6_hashSkaters 57 = .ok (.aload_n 0, 1) := by decide +kernel
theorem dX6_hashSkaters_58 : decode cX6_hashSkaters 58 = .ok (.getfield 10, 3) := by decide +kernel
theorem dX6_hashSkaters_61 : decode cX6_hashSkaters 61 = .ok (.iload 5, 2) := by decide +kernel
theorem dX6_hashSkaters_63 : decode cX6_hashSkaters 63 = .ok (.iload 6, 2) := by decide +kernel
theorem dX6_hashSkaters_65 : decode cX6_hashSkaters 65 = .ok (.invokevirtual 222, 3) := by decide +kernel
theorem dX6_hashSkaters_68 : decode cX6_hashSkaters 68 = .ok (.i2l, 1) := by decide +kernel
theorem dX6_hashSkaters_69 : decode cX6_hashSkaters 69 = .ok (.ladd, 1) := by decide +kernel
theorem dX6_hashSkaters_70 : decode cX6_hashSkaters 70 = .ok (.lstore_n 3, 1) := by decide +kernel
theorem dX6_hashSkaters_71 : decode cX6_hashSkaters 71 = .ok (.iinc 6 1, 3) := by decide +kernel
theorem dX6_hashSkaters_74 : decode cX6_hashSkaters 74 = .ok (.goto (-28), 3) := by decide +kernel
theorem dX6_hashSkaters_77 : decode cX6_hashSkaters 77 = .ok (.ldc2_w 245, 3) := by decide +kernel
theorem dX6_hashSkaters_80 : decode cX6_hashSkaters 80 = .ok (.lload_n 3, 1) := by decide +kernel
theorem dX6_hashSkaters_81 : decode cX6_hashSkaters 81 = .ok (.lmul, 1) := by decide +kernel
theorem dX6_hashSkaters_82 : decode cX6_hashSkaters 82 = .ok (.aload_n 0, 1) := by decide +kernel
theorem dX6_hashSkaters_83 : decode cX6_hashSkaters 83 = .ok (.iload 5, 2) := by decide +kernel
theorem dX6_hashSkaters_85 : decode cX6_hashSkaters 85 = .ok (.invokevirtual 236, 3) := by decide +kernel
theorem dX6_hashSkaters_88 : decode cX6_hashSkaters 88 = .ok (.i2l, 1) := by decide +kernel
theorem dX6_hashSkaters_89 : decode cX6_hashSkaters 89 = .ok (.ladd, 1) := by decide +kernel
theorem dX6_hashSkaters_90 : decode cX6_hashSkaters 90 = .ok (.lstore_n 3, 1) := by decide +kernel
theorem dX6_hashSkaters_91 : decode cX6_hashSkaters 91 = .ok (.iinc 5 1, 3) := by decide +kernel
theorem dX6_hashSkaters_94 : decode cX6_hashSkaters 94 = .ok (.goto (-89), 3) := by decide +kernel
theorem dX6_hashSkaters_97 : decode cX6_hashSkaters 97 = .ok (.lload_n 3, 1) := by decide +kernel
theorem dX6_hashSkaters_98 : decode cX6_hashSkaters 98 = .ok (.lreturn, 1) := by decide +kernel
theorem dX6_hashRinks_0 : decode cX6_hashRinks 0 = .ok (.lload_n 1, 1) := by decide +kernel
theorem dX6_hashRinks_1 : decode cX6_hashRinks 1 = .ok (.lstore_n 3, 1) := by decide +kernel
theorem dX6_hashRinks_2 : decode cX6_hashRinks 2 = .ok (.aload_n 0, 1) := by decide +kernel
theorem dX6_hashRinks_3 : decode cX6_hashRinks 3 = .ok (.getfield 10, 3) := by decide +kernel
theorem dX6_hashRinks_6 : decode cX6_hashRinks 6 = .ok (.getfield 289, 3) := by decide +kernel
theorem dX6_hashRinks_9 : decode cX6_hashRinks 9 = .ok (.lstore 5, 2) := by decide +kernel
theorem dX6_hashRinks_11 : decode cX6_hashRinks 11 = .ok (.iconst 0, 1) := by decide +kernel
theorem dX6_hashRinks_12 : decode cX6_hashRinks 12 = .ok (.istore 7, 2) := by decide +kernel
theorem dX6_hashRinks_14 : decode cX6_hashRinks 14 = .ok (.iload 7, 2) := by decide +kernel
theorem dX6_hashRinks_16 : decode cX6_hashRinks 16 = .ok (.bipush 64, 2) := by decide +kernel
theorem dX6_hashRinks_18 : decode cX6_hashRinks 18 = .ok (.if_icmp .ge 72, 3) := by decide +kernel
theorem dX6_hashRinks_21 : decode cX6_hashRinks 21 = .ok (.lload 5, 2) := by decide +kernel
theorem dX6_hashRinks_23 : decode cX6_hashRinks 23 = .ok (.lconst 0, 1) := by decide +kernel
theorem dX6_hashRinks_24 : decode cX6_hashRinks 24 = .ok (.lcmp, 1) := by decide +kernel
theorem dX6_hashRinks_25 : decode cX6_hashRinks 25 = .ok (.ifCond .eq 65, 3) := by decide +kernel
theorem dX6_hashRinks_28 : decode cX6_hashRinks 28 = .ok (.aload_n 0, 1) := by decide +kernel
theorem dX6_hashRinks_29 : decode cX6_hashRinks 29 = .ok (.getfield 10, 3) := by decide +kernel
theorem dX6_hashRinks_32 : decode cX6_hashRinks 32 = .ok (.lload 5, 2) := by decide +kernel
theorem dX6_hashRinks_34 : decode cX6_hashRinks 34 = .ok (.invokestatic 356, 3) := by decide +kernel
theorem dX6_hashRinks_37 : decode cX6_hashRinks 37 = .ok (.invokevirtual 275, 3) := by decide +kernel
theorem dX6_hashRinks_40 : decode cX6_hashRinks 40 = .ok (.lstore 8, 2) := by decide +kernel
theorem dX6_hashRinks_42 : decode cX6_hashRinks 42 = .ok (.iconst 0, 1) := by decide +kernel
theorem dX6_hashRinks_43 : decode cX6_hashRinks 43 = .ok (.istore 10, 2) := by decide +kernel
theorem dX6_hashRinks_45 : decode cX6_hashRinks 45 = .ok (.iload 10, 2) := by decide +kernel
theorem dX6_hashRinks_47 : decode cX6_hashRinks 47 = .ok (.iconst 2, 1) := by decide +kernel
theorem dX6_hashRinks_48 : decode cX6_hashRinks 48 = .ok (.if_icmp .gt 25, 3) := by decide +kernel
theorem dX6_hashRinks_51 : decode cX6_hashRinks 51 = .ok (.ldc2_w 245, 3) := by decide +kernel
theorem dX6_hashRinks_54 : decode cX6_hashRinks 54 = .ok (.lload_n 3, 1) := by decide +kernel
theorem dX6_hashRinks_55 : decode cX6_hashRinks 55 = .ok (.lmul, 1) := by decide +kernel
theorem dX6_hashRinks_56 : decode cX6_hashRinks 56 = .ok (.aload_n 0, 1) := by decide +kernel
theorem dX6_hashRinks_57 : decode cX6_hashRinks 57 = .ok (.lload 8, 2) := by decide +kernel
theorem dX6_hashRinks_59 : decode cX6_hashRinks 59 = .ok (.iload 10, 2) := by decide +kernel
theorem dX6_hashRinks_61 : decode cX6_hashRinks 61 = .ok (.invokevirtual 214, 3) := by decide +kernel
theorem dX6_hashRinks_64 : decode cX6_hashRinks 64 = .ok (.i2l, 1) := by decide +kernel
theorem dX6_hashRinks_65 : decode cX6_hashRinks 65 = .ok (.ladd, 1) := by decide +kernel
theorem dX6_hashRinks_66 : decode cX6_hashRinks 66 = .ok (.lstore_n 3, 1) := by decide +kernel
theorem dX6_hashRinks_67 : decode cX6_hashRinks 67 = .ok (.iinc 10 1, 3) := by decide +kernel
theorem dX6_hashRinks_70 : decode cX6_hashRinks 70 = .ok (.goto (-25), 3) := by decide +kernel
theorem dX6_hashRinks_73 : decode cX6_hashRinks 73 = .ok (.lload 5, 2) := by decide +kernel
theorem dX6_hashRinks_75 : decode cX6_hashRinks 75 = .ok (.lload 8, 2) := by decide +kernel
theorem dX6_hashRinks_77 : decode cX6_hashRinks 77 = .ok (.ldc2_w 293, 3) := by decide +kernel
theorem dX6_hashRinks_80 : decode cX6_hashRinks 80 = .ok (.lxor, 1) := by decide +kernel
theorem dX6_hashRinks_81 : decode cX6_hashRinks 81 = .ok (.land, 1) := by decide +kernel
theorem dX6_hashRinks_82 : decode cX6_hashRinks 82 = .ok (.lstore 5, 2) := by decide +kernel
theorem dX6_hashRinks_84 : decode cX6_hashRinks 84 = .ok (.iinc 7 1, 3) := by decide +kernel
theorem dX6_hashRinks_87 : decode cX6_hashRinks 87 = .ok (.goto (-73), 3) := by decide +kernel
theorem dX6_hashRinks_90 : decode cX6_hashRinks 90 = .ok (.lload_n 3, 1) := by decide +kernel
theorem dX6_hashRinks_91 : decode cX6_hashRinks 91 = .ok (.lreturn, 1) := by decide +kernel
theorem dX6_hashText_0 : decode cX6_hashText 0 = .ok (.ldc2_w 245, 3) := by decide +kernel
theorem dX6_hashText_3 : decode cX6_hashText 3 = .ok (.lload_n 1, 1) := by decide +kernel
theorem dX6_hashText_4 : decode cX6_hashText 4 = .ok (.lmul, 1) := by decide +kernel
theorem dX6_hashText_5 : decode cX6_hashText 5 = .ok (.aload_n 0, 1) := by decide +kernel
theorem dX6_hashText_6 : decode cX6_hashText 6 = .ok (.getfield 32, 3) := by decide +kernel
theorem dX6_hashText_9 : decode cX6_hashText 9 = .ok (.getfield 151, 3) := by decide +kernel
theorem dX6_hashText_12 : decode cX6_hashText 12 = .ok (.i2l, 1) := by decide +kernel
theorem dX6_hashText_13 : decode cX6_hashText 13 = .ok (.ladd, 1) := by decide +kernel
theorem dX6_hashText_14 : decode cX6_hashText 14 = .ok (.lstore_n 3, 1) := by decide +kernel
theorem dX6_hashText_15 : decode cX6_hashText 15 = .ok (.iconst 0, 1) := by decide +kernel
theorem dX6_hashText_16 : decode cX6_hashText 16 = .ok (.istore 5, 2) := by decide +kernel
theorem dX6_hashText_18 : decode cX6_hashText 18 = .ok (.iload 5, 2) := by decide +kernel
theorem dX6_hashText_20 : decode cX6_hashText 20 = .ok (.aload_n 0, 1) := by decide +kernel
theorem dX6_hashText_21 : decode cX6_hashText 21 = .ok (.getfield 32, 3) := by decide +kernel
theorem dX6_hashText_24 : decode cX6_hashText 24 = .ok (.getfield 151, 3) := by decide +kernel
theorem dX6_hashText_27 : decode cX6_hashText 27 = .ok (.if_icmp .ge 27, 3) := by decide +kernel
theorem dX6_hashText_30 : decode cX6_hashText 30 = .ok (.ldc2_w 245, 3) := by decide +kernel
theorem dX6_hashText_33 : decode cX6_hashText 33 = .ok (.lload_n 3, 1) := by decide +kernel
theorem dX6_hashText_34 : decode cX6_hashText 34 = .ok (.lmul, 1) := by decide +kernel
theorem dX6_hashText_35 : decode cX6_hashText 35 = .ok (.aload_n 0, 1) := by decide +kernel
theorem dX6_hashText_36 : decode cX6_hashText 36 = .ok (.getfield 32, 3) := by decide +kernel
theorem dX6_hashText_39 : decode cX6_hashText 39 = .ok (.getfield 359, 3) := by decide +kernel
theorem dX6_hashText_42 : decode cX6_hashText 42 = .ok (.iload 5, 2) := by decide +kernel
theorem dX6_hashText_44 : decode cX6_hashText 44 = .ok (.iaload, 1) := by decide +kernel
theorem dX6_hashText_45 : decode cX6_hashText 45 = .ok (.i2l, 1) := by decide +kernel
theorem dX6_hashText_46 : decode cX6_hashText 46 = .ok (.ladd, 1) := by decide +kernel
theorem dX6_hashText_47 : decode cX6_hashText 47 = .ok (.lstore_n 3, 1) := by decide +kernel
theorem dX6_hashText_48 : decode cX6_hashText 48 = .ok (.iinc 5 1, 3) := by decide +kernel
theorem dX6_hashText_51 : decode cX6_hashText 51 = .ok (.goto (-33), 3) := by decide +kernel
theorem dX6_hashText_54 : decode cX6_hashText 54 = .ok (.lload_n 3, 1) := by decide +kernel
theorem dX6_hashText_55 : decode cX6_hashText 55 = .ok (.lreturn, 1) := by decide +kernel
theorem dX6_floatingBits_0 : decode cX6_floatingBits 0 = .ok (.dload_n 0, 1) := by decide +kernel
theorem dX6_floatingBits_1 : decode cX6_floatingBits 1 = .ok (.dconst 0, 1) := by decide +kernel
theorem dX6_floatingBits_2 : decode cX6_floatingBits 2 = .ok (.dcmp .l, 1) := by decide +kernel
theorem dX6_floatingBits_3 : decode cX6_floatingBits 3 = .ok (.ifCond .gt 5, 3) := by decide +kernel
theorem dX6_floatingBits_6 : decode cX6_floatingBits 6 = .ok (.lconst 0, 1) := by decide +kernel
theorem dX6_floatingBits_7 : decode cX6_floatingBits 7 = .ok (.lreturn, 1) := by decide +kernel
theorem dX6_floatingBits_8 : decode cX6_floatingBits 8 = .ok (.dload_n 0, 1) := by decide +kernel
theorem dX6_floatingBits_9 : decode cX6_floatingBits 9 = .ok (.dstore 4, 2) := by decide +kernel
theorem dX6_floatingBits_11 : decode cX6_floatingBits 11 = .ok (.iload_n 2, 1) := by decide +kernel
theorem dX6_floatingBits_12 : decode cX6_floatingBits 12 = .ok (.i2l, 1) := by decide +kernel
theorem dX6_floatingBits_13 : decode cX6_floatingBits 13 = .ok (.lstore 6, 2) := by decide +kernel
theorem dX6_floatingBits_15 : decode cX6_floatingBits 15 = .ok (.iconst 0, 1) := by decide +kernel
theorem dX6_floatingBits_16 : decode cX6_floatingBits 16 = .ok (.istore 8, 2) := by decide +kernel
theorem dX6_floatingBits_18 : decode cX6_floatingBits 18 = .ok (.iload 8, 2) := by decide +kernel
theorem dX6_floatingBits_20 : decode cX6_floatingBits 20 = .ok (.bipush 64, 2) := by decide +kernel
theorem dX6_floatingBits_22 : decode cX6_floatingBits 22 = .ok (.if_icmp .ge 32, 3) := by decide +kernel
theorem dX6_floatingBits_25 : decode cX6_floatingBits 25 = .ok (.dload 4, 2) := by decide +kernel
theorem dX6_floatingBits_27 : decode cX6_floatingBits 27 = .ok (.ldc2_w 362, 3) := by decide +kernel
theorem dX6_floatingBits_30 : decode cX6_floatingBits 30 = .ok (.dcmp .l, 1) := by decide +kernel
theorem dX6_floatingBits_31 : decode cX6_floatingBits 31 = .ok (.ifCond .lt 23, 3) := by decide +kernel
theorem dX6_floatingBits_34 : decode cX6_floatingBits 34 = .ok (.dload 4, 2) := by decide +kernel
theorem dX6_floatingBits_36 : decode cX6_floatingBits 36 = .ok (.ldc2_w 362, 3) := by decide +kernel
theorem dX6_floatingBits_39 : decode cX6_floatingBits 39 = .ok (.ddiv, 1) := by decide +kernel
theorem dX6_floatingBits_40 : decode cX6_floatingBits 40 = .ok (.dstore 4, 2) := by decide +kernel
theorem dX6_floatingBits_42 : decode cX6_floatingBits 42 = .ok (.lload 6, 2) := by decide +kernel
theorem dX6_floatingBits_44 : decode cX6_floatingBits 44 = .ok (.lconst 1, 1) := by decide +kernel
theorem dX6_floatingBits_45 : decode cX6_floatingBits 45 = .ok (.ladd, 1) := by decide +kernel
theorem dX6_floatingBits_46 : decode cX6_floatingBits 46 = .ok (.lstore 6, 2) := by decide +kernel
theorem dX6_floatingBits_48 : decode cX6_floatingBits 48 = .ok (.iinc 8 1, 3) := by decide +kernel
theorem dX6_floatingBits_51 : decode cX6_floatingBits 51 = .ok (.goto (-33), 3) := by decide +kernel
theorem dX6_floatingBits_54 : decode cX6_floatingBits 54 = .ok (.iconst 0, 1) := by decide +kernel
theorem dX6_floatingBits_55 : decode cX6_floatingBits 55 = .ok (.istore 8, 2) := by decide +kernel
theorem dX6_floatingBits_57 : decode cX6_floatingBits 57 = .ok (.iload 8, 2) := by decide +kernel
theorem dX6_floatingBits_59 : decode cX6_floatingBits 59 = .ok (.bipush 64, 2) := by decide +kernel
theorem dX6_floatingBits_61 : decode cX6_floatingBits 61 = .ok (.if_icmp .ge 30, 3) := by decide +kernel
theorem dX6_floatingBits_64 : decode cX6_floatingBits 64 = .ok (.dload 4, 2) := by decide +kernel
theorem dX6_floatingBits_66 : decode cX6_floatingBits 66 = .ok (.dconst 1, 1) := by decide +kernel
theorem dX6_floatingBits_67 : decode cX6_floatingBits 67 = .ok (.dcmp .g, 1) := by decide +kernel
theorem dX6_floatingBits_68 : decode cX6_floatingBits 68 = .ok (.ifCond .ge 23, 3) := by decide +kernel
theorem dX6_floatingBits_71 : decode cX6_floatingBits 71 = .ok (.dload 4, 2) := by decide +kernel
theorem dX6_floatingBits_73 : decode cX6_floatingBits 73 = .ok (.ldc2_w 362, 3) := by decide +kernel
theorem dX6_floatingBits_76 : decode cX6_floatingBits 76 = .ok (.dmul, 1) := by decide +kernel
theorem dX6_floatingBits_77 : decode cX6_floatingBits 77 = .ok (.dstore 4, 2) := by decide +kernel
theorem dX6_floatingBits_79 : decode cX6_floatingBits 79 = .ok (.lload 6, 2) := by decide +kernel
theorem dX6_floatingBits_81 : decode cX6_floatingBits 81 = .ok (.lconst 1, 1) := by decide +kernel
theorem dX6_floatingBits_82 : decode cX6_floatingBits 82 = .ok (.lsub, 1) := by decide +kernel
theorem dX6_floatingBits_83 : decode cX6_floatingBits 83 = .ok (.lstore 6, 2) := by decide +kernel
theorem dX6_floatingBits_85 : decode cX6_floatingBits 85 = .ok (.iinc 8 1, 3) := by decide +kernel
theorem dX6_floatingBits_88 : decode cX6_floatingBits 88 = .ok (.goto (-31), 3) := by decide +kernel
theorem dX6_floatingBits_91 : decode cX6_floatingBits 91 = .ok (.dload 4, 2) := by decide +kernel
theorem dX6_floatingBits_93 : decode cX6_floatingBits 93 = .ok (.dconst 1, 1) := by decide +kernel
theorem dX6_floatingBits_94 : decode cX6_floatingBits 94 = .ok (.dsub, 1) := by decide +kernel
theorem dX6_floatingBits_95 : decode cX6_floatingBits 95 = .ok (.lconst 1, 1) := by decide +kernel
theorem dX6_floatingBits_96 : decode cX6_floatingBits 96 = .ok (.iload_n 3, 1) := by decide +kernel
theorem dX6_floatingBits_97 : decode cX6_floatingBits 97 = .ok (.lshl, 1) := by decide +kernel
theorem dX6_floatingBits_98 : decode cX6_floatingBits 98 = .ok (.l2d, 1) := by decide +kernel
theorem dX6_floatingBits_99 : decode cX6_floatingBits 99 = .ok (.dmul, 1) := by decide +kernel
theorem dX6_floatingBits_100 : decode cX6_floatingBits 100 = .ok (.dstore 8, 2) := by decide +kernel
theorem dX6_floatingBits_102 : decode cX6_floatingBits 102 = .ok (.lload 6, 2) := by decide +kernel
theorem dX6_floatingBits_104 : decode cX6_floatingBits 104 = .ok (.iload_n 3, 1) := by decide +kernel
theorem dX6_floatingBits_105 : decode cX6_floatingBits 105 = .ok (.lshl, 1) := by decide +kernel
theorem dX6_floatingBits_106 : decode cX6_floatingBits 106 = .ok (.dload 8, 2) := by decide +kernel
theorem dX6_floatingBits_108 : decode cX6_floatingBits 108 = .ok (.d2l, 1) := by decide +kernel
theorem dX6_floatingBits_109 : decode cX6_floatingBits 109 = .ok (.ladd, 1) := by decide +kernel
theorem dX6_floatingBits_110 : decode cX6_floatingBits 110 = .ok (.lreturn, 1) := by decide +kernel
theorem dX6_isSkater_0 : decode cX6_isSkater 0 = .ok (.iload_n 0, 1) := by decide +kernel
theorem dX6_isSkater_1 : decode cX6_isSkater 1 = .ok (.ifCond .lt 12, 3) := by decide +kernel
theorem dX6_isSkater_4 : decode cX6_isSkater 4 = .ok (.iload_n 0, 1) := by decide +kernel
theorem dX6_isSkater_5 : decode cX6_isSkater 5 = .ok (.iconst 3, 1) := by decide +kernel
theorem dX6_isSkater_6 : decode cX6_isSkater 6 = .ok (.if_icmp .ge 7, 3) := by decide +kernel
theorem dX6_isSkater_9 : decode cX6_isSkater 9 = .ok (.iconst 1, 1) := by decide +kernel
theorem dX6_isSkater_10 : decode cX6_isSkater 10 = .ok (.goto 4, 3) := by decide +kernel
theorem dX6_isSkater_13 : decode cX6_isSkater 13 = .ok (.iconst 0, 1) := by decide +kernel
theorem dX6_isSkater_14 : decode cX6_isSkater 14 = .ok (.ireturn, 1) := by decide +kernel
theorem dX6_isDirection_0 : decode cX6_isDirection 0 = .ok (.iload_n 0, 1) := by decide +kernel
theorem dX6_isDirection_1 : decode cX6_isDirection 1 = .ok (.ifCond .lt 12, 3) := by decide +kernel
theorem dX6_isDirection_4 : decode cX6_isDirection 4 = .ok (.iload_n 0, 1) := by decide +kernel
theorem dX6_isDirection_5 : decode cX6_isDirection 5 = .ok (.iconst 3, 1) := by decide +kernel
theorem dX6_isDirection_6 : decode cX6_isDirection 6 = .ok (.if_icmp .gt 7, 3) := by decide +kernel
theorem dX6_isDirection_9 : decode cX6_isDirection 9 = .ok (.iconst 1, 1) := by decide +kernel
theorem dX6_isDirection_10 : decode cX6_isDirection 10 = .ok (.goto 4, 3) := by decide +kernel
theorem dX6_isDirection_13 : decode cX6_isDirection 13 = .ok (.iconst 0, 1) := by decide +kernel
theorem dX6_isDirection_14 : decode cX6_isDirection 14 = .ok (.ireturn, 1) := by decide +kernel
theorem dX6_isSteps_0 : decode cX6_isSteps 0 = .ok (.iload_n 0, 1) := by decide +kernel
theorem dX6_isSteps_1 : decode cX6_isSteps 1 = .ok (.iconst 1, 1) := by decide +kernel
theorem dX6_isSteps_2 : decode cX6_isSteps 2 = .ok (.if_icmp .lt 13, 3) := by decide +kernel
theorem dX6_isSteps_5 : decode cX6_isSteps 5 = .ok (.iload_n 0, 1) := by decide +kernel
theorem dX6_isSteps_6 : decode cX6_isSteps 6 = .ok (.bipush 8, 2) := by decide +kernel
theorem dX6_isSteps_8 : decode cX6_isSteps 8 = .ok (.if_icmp .gt 7, 3) := by decide +kernel
theorem dX6_isSteps_11 : decode cX6_isSteps 11 = .ok (.iconst 1, 1) := by decide +kernel
theorem dX6_isSteps_12 : decode cX6_isSteps 12 = .ok (.goto 4, 3) := by decide +kernel
theorem dX6_isSteps_15 : decode cX6_isSteps 15 = .ok (.iconst 0, 1) := by decide +kernel
theorem dX6_isSteps_16 : decode cX6_isSteps 16 = .ok (.ireturn, 1) := by decide +kernel
theorem dX6_isPoint_0 : decode cX6_isPoint 0 = .ok (.iload_n 0, 1) := by decide +kernel
theorem dX6_isPoint_1 : decode cX6_isPoint 1 = .ok (.ifCond .lt 23, 3) := by decide +kernel
theorem dX6_isPoint_4 : decode cX6_isPoint 4 = .ok (.iload_n 0, 1) := by decide +kernel
theorem dX6_isPoint_5 : decode cX6_isPoint 5 = .ok (.bipush 9, 2) := by decide +kernel
theorem dX6_isPoint_7 : decode cX6_isPoint 7 = .ok (.if_icmp .ge 17, 3) := by decide +kernel
theorem dX6_isPoint_10 : decode cX6_isPoint 10 = .ok (.iload_n 1, 1) := by decide +kernel
theorem dX6_isPoint_11 : decode cX6_isPoint 11 = .ok (.ifCond .lt 13, 3) := by decide +kernel
theorem dX6_isPoint_14 : decode cX6_isPoint 14 = .ok (.iload_n 1, 1) := by decide +kernel
theorem dX6_isPoint_15 : decode cX6_isPoint 15 = .ok (.bipush 9, 2) := by decide +kernel
theorem dX6_isPoint_17 : decode cX6_isPoint 17 = .ok (.if_icmp .ge 7, 3) := by decide +kernel
theorem dX6_isPoint_20 : decode cX6_isPoint 20 = .ok (.iconst 1, 1) := by decide +kernel
theorem dX6_isPoint_21 : decode cX6_isPoint 21 = .ok (.goto 4, 3) := by decide +kernel
theorem dX6_isPoint_24 : decode cX6_isPoint 24 = .ok (.iconst 0, 1) := by decide +kernel
theorem dX6_isPoint_25 : decode cX6_isPoint 25 = .ok (.ireturn, 1) := by decide +kernel
theorem dX6_isSetting_0 : decode cX6_isSetting 0 = .ok (.iload_n 0, 1) := by decide +kernel
theorem dX6_isSetting_1 : decode cX6_isSetting 1 = .ok (.ifCond .lt 12, 3) := by decide +kernel
theorem dX6_isSetting_4 : decode cX6_isSetting 4 = .ok (.iload_n 0, 1) := by decide +kernel
theorem dX6_isSetting_5 : decode cX6_isSetting 5 = .ok (.iconst 3, 1) := by decide +kernel
theorem dX6_isSetting_6 : decode cX6_isSetting 6 = .ok (.if_icmp .ge 7, 3) := by decide +kernel
theorem dX6_isSetting_9 : decode cX6_isSetting 9 = .ok (.iconst 1, 1) := by decide +kernel
theorem dX6_isSetting_10 : decode cX6_isSetting 10 = .ok (.goto 4, 3) := by decide +kernel
theorem dX6_isSetting_13 : decode cX6_isSetting 13 = .ok (.iconst 0, 1) := by decide +kernel
theorem dX6_isSetting_14 : decode cX6_isSetting 14 = .ok (.ireturn, 1) := by decide +kernel
theorem dX6_leastValue_0 : decode cX6_leastValue 0 = .ok (.iload_n 0, 1) := by decide +kernel
theorem dX6_leastValue_1 : decode cX6_leastValue 1 = .ok (.ifCond .ne 7, 3) := by decide +kernel
theorem dX6_leastValue_4 : decode cX6_leastValue 4 = .ok (.iconst 0, 1) := by decide +kernel
theorem dX6_leastValue_5 : decode cX6_leastValue 5 = .ok (.goto 4, 3) := by decide +kernel
theorem dX6_leastValue_8 : decode cX6_leastValue 8 = .ok (.iconst 1, 1) := by decide +kernel
theorem dX6_leastValue_9 : decode cX6_leastValue 9 = .ok (.ireturn, 1) := by decide +kernel
theorem dX6_mostValue_0 : decode cX6_mostValue 0 = .ok (.iload_n 0, 1) := by decide +kernel
theorem dX6_mostValue_1 : decode cX6_mostValue 1 = .ok (.iconst 2, 1) := by decide +kernel
theorem dX6_mostValue_2 : decode cX6_mostValue 2 = .ok (.if_icmp .ne 7, 3) := by decide +kernel
theorem dX6_mostValue_5 : decode cX6_mostValue 5 = .ok (.iconst 4, 1) := by decide +kernel
theorem dX6_mostValue_6 : decode cX6_mostValue 6 = .ok (.goto 5, 3) := by decide +kernel
theorem dX6_mostValue_9 : decode cX6_mostValue 9 = .ok (.bipush 9, 2) := by decide +kernel
theorem dX6_mostValue_11 : decode cX6_mostValue 11 = .ok (.ireturn, 1) := by decide +kernel
theorem dX6_cellBit_0 : decode cX6_cellBit 0 = .ok (.iload_n 0, 1) := by decide +kernel
theorem dX6_cellBit_1 : decode cX6_cellBit 1 = .ok (.ifCond .lt 23, 3) := by decide +kernel
theorem dX6_cellBit_4 : decode cX6_cellBit 4 = .ok (.iload_n 0, 1) := by decide +kernel
theorem dX6_cellBit_5 : decode cX6_cellBit 5 = .ok (.bipush 8, 2) := by decide +kernel
theorem dX6_cellBit_7 : decode cX6_cellBit 7 = .ok (.if_icmp .ge 17, 3) := by decide +kernel
theorem dX6_cellBit_10 : decode cX6_cellBit 10 = .ok (.iload_n 1, 1) := by decide +kernel
theorem dX6_cellBit_11 : decode cX6_cellBit 11 = .ok (.ifCond .lt 13, 3) := by decide +kernel
theorem dX6_cellBit_14 : decode cX6_cellBit 14 = .ok (.iload_n 1, 1) := by decide +kernel
theorem dX6_cellBit_15 : decode cX6_cellBit 15 = .ok (.bipush 8, 2) := by decide +kernel
theorem dX6_cellBit_17 : decode cX6_cellBit 17 = .ok (.if_icmp .ge 7, 3) := by decide +kernel
theorem dX6_cellBit_20 : decode cX6_cellBit 20 = .ok (.iconst 1, 1) := by decide +kernel
theorem dX6_cellBit_21 : decode cX6_cellBit 21 = .ok (.goto 4, 3) := by decide +kernel
theorem dX6_cellBit_24 : decode cX6_cellBit 24 = .ok (.iconst 0, 1) := by decide +kernel
theorem dX6_cellBit_25 : decode cX6_cellBit 25 = .ok (.istore_n 2, 1) := by decide +kernel
theorem dX6_cellBit_26 : decode cX6_cellBit 26 = .ok (.iload_n 2, 1) := by decide +kernel
theorem dX6_cellBit_27 : decode cX6_cellBit 27 = .ok (.ifCond .eq 14, 3) := by decide +kernel
theorem dX6_cellBit_30 : decode cX6_cellBit 30 = .ok (.lconst 1, 1) := by decide +kernel
theorem dX6_cellBit_31 : decode cX6_cellBit 31 = .ok (.bipush 8, 2) := by decide +kernel
theorem dX6_cellBit_33 : decode cX6_cellBit 33 = .ok (.iload_n 1, 1) := by decide +kernel
theorem dX6_cellBit_34 : decode cX6_cellBit 34 = .ok (.imul, 1) := by decide +kernel
theorem dX6_cellBit_35 : decode cX6_cellBit 35 = .ok (.iload_n 0, 1) := by decide +kernel
theorem dX6_cellBit_36 : decode cX6_cellBit 36 = .ok (.iadd, 1) := by decide +kernel
theorem dX6_cellBit_37 : decode cX6_cellBit 37 = .ok (.lshl, 1) := by decide +kernel
theorem dX6_cellBit_38 : decode cX6_cellBit 38 = .ok (.goto 4, 3) := by decide +kernel
theorem dX6_cellBit_41 : decode cX6_cellBit 41 = .ok (.lconst 0, 1) := by decide +kernel
theorem dX6_cellBit_42 : decode cX6_cellBit 42 = .ok (.lreturn, 1) := by decide +kernel
theorem dX6_lowestBit_0 : decode cX6_lowestBit 0 = .ok (.lload_n 0, 1) := by decide +kernel
theorem dX6_lowestBit_1 : decode cX6_lowestBit 1 = .ok (.lload_n 0, 1) := by decide +kernel
theorem dX6_lowestBit_2 : decode cX6_lowestBit 2 = .ok (.lneg, 1) := by decide +kernel
theorem dX6_lowestBit_3 : decode cX6_lowestBit 3 = .ok (.land, 1) := by decide +kernel
theorem dX6_lowestBit_4 : decode cX6_lowestBit 4 = .ok (.lreturn, 1) := by decide +kernel
theorem dX6_lowestOf_0 : decode cX6_lowestOf 0 = .ok (.lload_n 0, 1) := by decide +kernel
theorem dX6_lowestOf_1 : decode cX6_lowestOf 1 = .ok (.invokestatic 356, 3) := by decide +kernel
theorem dX6_lowestOf_4 : decode cX6_lowestOf 4 = .ok (.lconst 1, 1) := by decide +kernel
theorem dX6_lowestOf_5 : decode cX6_lowestOf 5 = .ok (.lsub, 1) := by decide +kernel
theorem dX6_lowestOf_6 : decode cX6_lowestOf 6 = .ok (.invokestatic 281, 3) := by decide +kernel
theorem dX6_lowestOf_9 : decode cX6_lowestOf 9 = .ok (.ireturn, 1) := by decide +kernel
theorem dX6_northOf_0 : decode cX6_northOf 0 = .ok (.lload_n 0, 1) := by decide +kernel
theorem dX6_northOf_1 : decode cX6_northOf 1 = .ok (.bipush 8, 2) := by decide +kernel
theorem dX6_northOf_3 : decode cX6_northOf 3 = .ok (.lushr, 1) := by decide +kernel
theorem dX6_northOf_4 : decode cX6_northOf 4 = .ok (.lreturn, 1) := by decide +kernel
theorem dX6_southOf_0 : decode cX6_southOf 0 = .ok (.lload_n 0, 1) := by decide +kernel
theorem dX6_southOf_1 : decode cX6_southOf 1 = .ok (.bipush 8, 2) := by decide +kernel
theorem dX6_southOf_3 : decode cX6_southOf 3 = .ok (.lshl, 1) := by decide +kernel
theorem dX6_southOf_4 : decode cX6_southOf 4 = .ok (.lreturn, 1) := by decide +kernel
theorem dX6_westOf_0 : decode cX6_westOf 0 = .ok (.lload_n 0, 1) := by decide +kernel
theorem dX6_westOf_1 : decode cX6_westOf 1 = .ok (.ldc2_w 364, 3) := by decide +kernel
theorem dX6_westOf_4 : decode cX6_westOf 4 = .ok (.land, 1) := by decide +kernel
theorem dX6_westOf_5 : decode cX6_westOf 5 = .ok (.iconst 1, 1) := by decide +kernel
theorem dX6_westOf_6 : decode cX6_westOf 6 = .ok (.lushr, 1) := by decide +kernel
theorem dX6_westOf_7 : decode cX6_westOf 7 = .ok (.lreturn, 1) := by decide +kernel
theorem dX6_eastOf_0 : decode cX6_eastOf 0 = .ok (.lload_n 0, 1) := by decide +kernel
theorem dX6_eastOf_1 : decode cX6_eastOf 1 = .ok (.ldc2_w 366, 3) := by decide +kernel
theorem dX6_eastOf_4 : decode cX6_eastOf 4 = .ok (.land, 1) := by decide +kernel
theorem dX6_eastOf_5 : decode cX6_eastOf 5 = .ok (.iconst 1, 1) := by decide +kernel
theorem dX6_eastOf_6 : decode cX6_eastOf 6 = .ok (.lshl, 1) := by decide +kernel
theorem dX6_eastOf_7 : decode cX6_eastOf 7 = .ok (.lreturn, 1) := by decide +kernel
theorem dX6_cellsBeside_0 : decode cX6_cellsBeside 0 = .ok (.lload_n 0, 1) := by decide +kernel
theorem dX6_cellsBeside_1 : decode cX6_cellsBeside 1 = .ok (.invokestatic 368, 3) := by decide +kernel
theorem dX6_cellsBeside_4 : decode cX6_cellsBeside 4 = .ok (.lload_n 0, 1) := by decide +kernel
theorem dX6_cellsBeside_5 : decode cX6_cellsBeside 5 = .ok (.invokestatic 371, 3) := by decide +kernel
theorem dX6_cellsBeside_8 : decode cX6_cellsBeside 8 = .ok (.lor, 1) := by decide +kernel
theorem dX6_cellsBeside_9 : decode cX6_cellsBeside 9 = .ok (.lload_n 0, 1) := by decide +kernel
theorem dX6_cellsBeside_10 : decode cX6_cellsBeside 10 = .ok (.invokestatic 374, 3) := by decide +kernel
theorem dX6_cellsBeside_13 : decode cX6_cellsBeside 13 = .ok (.lor, 1) := by decide +kernel
theorem dX6_cellsBeside_14 : decode cX6_cellsBeside 14 = .ok (.lload_n 0, 1) := by decide +kernel
theorem dX6_cellsBeside_15 : decode cX6_cellsBeside 15 = .ok (.invokestatic 377, 3) := by decide +kernel
theorem dX6_cellsBeside_18 : decode cX6_cellsBeside 18 = .ok (.lor, 1) := by decide +kernel
theorem dX6_cellsBeside_19 : decode cX6_cellsBeside 19 = .ok (.lreturn, 1) := by decide +kernel
theorem dX6_thawingCells_0 : decode cX6_thawingCells 0 = .ok (.lload_n 0, 1) := by decide +kernel
theorem dX6_thawingCells_1 : decode cX6_thawingCells 1 = .ok (.ldc2_w 293, 3) := by decide +kernel
theorem dX6_thawingCells_4 : decode cX6_thawingCells 4 = .ok (.lxor, 1) := by decide +kernel
theorem dX6_thawingCells_5 : decode cX6_thawingCells 5 = .ok (.lstore_n 3, 1) := by decide +kernel
theorem dX6_thawingCells_6 : decode cX6_thawingCells 6 = .ok (.lload_n 3, 1) := by decide +kernel
theorem dX6_thawingCells_7 : decode cX6_thawingCells 7 = .ok (.invokestatic 374, 3) := by decide +kernel
theorem dX6_thawingCells_10 : decode cX6_thawingCells 10 = .ok (.lstore 5, 2) := by decide +kernel
theorem dX6_thawingCells_12 : decode cX6_thawingCells 12 = .ok (.lload_n 3, 1) := by decide +kernel
theorem dX6_thawingCells_13 : decode cX6_thawingCells 13 = .ok (.invokestatic 368, 3) := by decide +kernel
theorem dX6_thawingCells_16 : decode cX6_thawingCells 16 = .ok (.lstore 7, 2) := by decide +kernel
theorem dX6_thawingCells_18 : decode cX6_thawingCells 18 = .ok (.lload_n 3, 1) := by decide +kernel
theorem dX6_thawingCells_19 : decode cX6_thawingCells 19 = .ok (.invokestatic 371, 3) := by decide +kernel
theorem dX6_thawingCells_22 : decode cX6_thawingCells 22 = .ok (.lstore 9, 2) := by decide +kernel
theorem dX6_thawingCells_24 : decode cX6_thawingCells 24 = .ok (.lload_n 3, 1) := by decide +kernel
theorem dX6_thawingCells_25 : decode cX6_thawingCells 25 = .ok (.invokestatic 377, 3) := by decide +kernel
theorem dX6_thawingCells_28 : decode cX6_thawingCells 28 = .ok (.lstore 11, 2) := by decide +kernel
theorem dX6_thawingCells_30 : decode cX6_thawingCells 30 = .ok (.lload 5, 2) := by decide +kernel
theorem dX6_thawingCells_32 : decode cX6_thawingCells 32 = .ok (.lload 7, 2) := by decide +kernel
theorem dX6_thawingCells_34 : decode cX6_thawingCells 34 = .ok (.lor, 1) := by decide +kernel
theorem dX6_thawingCells_35 : decode cX6_thawingCells 35 = .ok (.lstore 13, 2) := by decide +kernel
theorem dX6_thawingCells_37 : decode cX6_thawingCells 37 = .ok (.lload 9, 2) := by decide +kernel
theorem dX6_thawingCells_39 : decode cX6_thawingCells 39 = .ok (.lload 11, 2) := by decide +kernel
theorem dX6_thawingCells_41 : decode cX6_thawingCells 41 = .ok (.lor, 1) := by decide +kernel
theorem dX6_thawingCells_42 : decode cX6_thawingCells 42 = .ok (.lstore 15, 2) := by decide +kernel
theorem dX6_thawingCells_44 : decode cX6_thawingCells 44 = .ok (.lload 5, 2) := by decide +kernel
theorem dX6_thawingCells_46 : decode cX6_thawingCells 46 = .ok (.lload 7, 2) := by decide +kernel
theorem dX6_thawingCells_48 : decode cX6_thawingCells 48 = .ok (.land, 1) := by decide +kernel
theorem dX6_thawingCells_49 : decode cX6_thawingCells 49 = .ok (.lstore 17, 2) := by decide +kernel
theorem dX6_thawingCells_51 : decode cX6_thawingCells 51 = .ok (.lload 9, 2) := by decide +kernel
theorem dX6_thawingCells_53 : decode cX6_thawingCells 53 = .ok (.lload 11, 2) := by decide +kernel
theorem dX6_thawingCells_55 : decode cX6_thawingCells 55 = .ok (.land, 1) := by decide +kernel
theorem dX6_thawingCells_56 : decode cX6_thawingCells 56 = .ok (.lstore 19, 2) := by decide +kernel
theorem dX6_thawingCells_58 : decode cX6_thawingCells 58 = .ok (.iload_n 2, 1) := by decide +kernel
theorem dX6_thawingCells_59 : decode cX6_thawingCells 59 = .ok (.tableswitch 61 1 3 #[25, 33, 47], 25) := by decide +kernel
theorem dX6_thawingCells_84 : decode cX6_thawingCells 84 = .ok (.lload_n 0, 1) := by decide +kernel
theorem dX6_thawingCells_85 : decode cX6_thawingCells 85 = .ok (.lload 13, 2) := by decide +kernel
theorem dX6_thawingCells_87 : decode cX6_thawingCells 87 = .ok (.lload 15, 2) := by decide +kernel
theorem dX6_thawingCells_89 : decode cX6_thawingCells 89 = .ok (.lor, 1) := by decide +kernel
theorem dX6_thawingCells_90 : decode cX6_thawingCells 90 = .ok (.land, 1) := by decide +kernel
theorem dX6_thawingCells_91 : decode cX6_thawingCells 91 = .ok (.lreturn, 1) := by decide +kernel
theorem dX6_thawingCells_92 : decode cX6_thawingCells 92 = .ok (.lload_n 0, 1) := by decide +kernel
theorem dX6_thawingCells_93 : decode cX6_thawingCells 93 = .ok (.lload 17, 2) := by decide +kernel
theorem dX6_thawingCells_95 : decode cX6_thawingCells 95 = .ok (.lload 19, 2) := by decide +kernel
theorem dX6_thawingCells_97 : decode cX6_thawingCells 97 = .ok (.lor, 1) := by decide +kernel
theorem dX6_thawingCells_98 : decode cX6_thawingCells 98 = .ok (.lload 13, 2) := by decide +kernel
theorem dX6_thawingCells_100 : decode cX6_thawingCells 100 = .ok (.lload 15, 2) := by decide +kernel
theorem dX6_thawingCells_102 : decode cX6_thawingCells 102 = .ok (.land, 1) := by decide +kernel
theorem dX6_thawingCells_103 : decode cX6_thawingCells 103 = .ok (.lor, 1) := by decide +kernel
theorem dX6_thawingCells_104 : decode cX6_thawingCells 104 = .ok (.land, 1) := by decide +kernel
theorem dX6_thawingCells_105 : decode cX6_thawingCells 105 = .ok (.lreturn, 1) := by decide +kernel
theorem dX6_thawingCells_106 : decode cX6_thawingCells 106 = .ok (.lload_n 0, 1) := by decide +kernel
theorem dX6_thawingCells_107 : decode cX6_thawingCells 107 = .ok (.lload 17, 2) := by decide +kernel
theorem dX6_thawingCells_109 : decode cX6_thawingCells 109 = .ok (.lload 15, 2) := by decide +kernel
theorem dX6_thawingCells_111 : decode cX6_thawingCells 111 = .ok (.land, 1) := by decide +kernel
theorem dX6_thawingCells_112 : decode cX6_thawingCells 112 = .ok (.lload 19, 2) := by decide +kernel
theorem dX6_thawingCells_114 : decode cX6_thawingCells 114 = .ok (.lload 13, 2) := by decide +kernel
theorem dX6_thawingCells_116 : decode cX6_thawingCells 116 = .ok (.land, 1) := by decide +kernel
theorem dX6_thawingCells_117 : decode cX6_thawingCells 117 = .ok (.lor, 1) := by decide +kernel
theorem dX6_thawingCells_118 : decode cX6_thawingCells 118 = .ok (.land, 1) := by decide +kernel
theorem dX6_thawingCells_119 : decode cX6_thawingCells 119 = .ok (.lreturn, 1) := by decide +kernel
theorem dX6_thawingCells_120 : decode cX6_thawingCells 120 = .ok (.lload_n 0, 1) := by decide +kernel
theorem dX6_thawingCells_121 : decode cX6_thawingCells 121 = .ok (.lload 17, 2) := by decide +kernel
theorem dX6_thawingCells_123 : decode cX6_thawingCells 123 = .ok (.land, 1) := by decide +kernel
theorem dX6_thawingCells_124 : decode cX6_thawingCells 124 = .ok (.lload 19, 2) := by decide +kernel
theorem dX6_thawingCells_126 : decode cX6_thawingCells 126 = .ok (.land, 1) := by decide +kernel
theorem dX6_thawingCells_127 : decode cX6_thawingCells 127 = .ok (.lreturn, 1) := by decide +kernel
