theorem dX0_init_0 : decode cX0_init 0 = .ok (.aload_n 0, 1) := by decide +kernel
theorem dX0_init_1 : decode cX0_init 1 = .ok (.invokespecial 3, 3) := by decide +kernel
theorem dX0_init_4 : decode cX0_init 4 = .ok (.aload_n 0, 1) := by decide +kernel
theorem dX0_init_5 : decode cX0_init 5 = .ok (.new 9, 3) := by decide +kernel
theorem dX0_init_8 : decode cX0_init 8 = .ok (.dup, 1) := by decide +kernel
theorem dX0_init_9 : decode cX0_init 9 = .ok (.invokespecial 11, 3) := by decide +kernel
theorem dX0_init_12 : decode cX0_init 12 = .ok (.putfield 12, 3) := by decide +kernel
theorem dX0_init_15 : decode cX0_init 15 = .ok (.aload_n 0, 1) := by decide +kernel
theorem dX0_init_16 : decode cX0_init 16 = .ok (.ldc 18, 2) := by decide +kernel
theorem dX0_init_18 : decode cX0_init 18 = .ok (.putfield 19, 3) := by decide +kernel
theorem dX0_init_21 : decode cX0_init 21 = .ok (.aload_n 0, 1) := by decide +kernel
theorem dX0_init_22 : decode cX0_init 22 = .ok (.iconst (-1), 1) := by decide +kernel
theorem dX0_init_23 : decode cX0_init 23 = .ok (.putfield 23, 3) := by decide +kernel
theorem dX0_init_26 : decode cX0_init 26 = .ok (.aload_n 0, 1) := by decide +kernel
theorem dX0_init_27 : decode cX0_init 27 = .ok (.iconst (-1), 1) := by decide +kernel
theorem dX0_init_28 : decode cX0_init 28 = .ok (.putfield 26, 3) := by decide +kernel
theorem dX0_init_31 : decode cX0_init 31 = .ok (.aload_n 0, 1) := by decide +kernel
theorem dX0_init_32 : decode cX0_init 32 = .ok (.iload_n 1, 1) := by decide +kernel
theorem dX0_init_33 : decode cX0_init 33 = .ok (.putfield 29, 3) := by decide +kernel
theorem dX0_init_36 : decode cX0_init 36 = .ok (.return_, 1) := by decide +kernel
theorem dX7_init_0 : decode cX7_init 0 = .ok (.aload_n 0, 1) := by decide +kernel
theorem dX7_init_1 : decode cX7_init 1 = .ok (.invokespecial 3, 3) := by decide +kernel
theorem dX7_init_4 : decode cX7_init 4 = .ok (.aload_n 0, 1) := by decide +kernel
theorem dX7_init_5 : decode cX7_init 5 = .ok (.bipush 60, 2) := by decide +kernel
theorem dX7_init_7 : decode cX7_init 7 = .ok (.newarray .int, 2) := by decide +kernel
theorem dX7_init_9 : decode cX7_init 9 = .ok (.putfield 9, 3) := by decide +kernel
theorem dX7_init_12 : decode cX7_init 12 = .ok (.aload_n 0, 1) := by decide +kernel
theorem dX7_init_13 : decode cX7_init 13 = .ok (.bipush 60, 2) := by decide +kernel
theorem dX7_init_15 : decode cX7_init 15 = .ok (.newarray .boolean, 2) := by decide +kernel
theorem dX7_init_17 : decode cX7_init 17 = .ok (.putfield 15, 3) := by decide +kernel
theorem dX7_init_20 : decode cX7_init 20 = .ok (.return_, 1) := by decide +kernel
theorem dX4_init_0 : decode cX4_init 0 = .ok (.aload_n 0, 1) := by decide +kernel
theorem dX4_init_1 : decode cX4_init 1 = .ok (.invokespecial 1, 3) := by decide +kernel
theorem dX4_init_4 : decode cX4_init 4 = .ok (.aload_n 0, 1) := by decide +kernel
theorem dX4_init_5 : decode cX4_init 5 = .ok (.iload_n 1, 1) := by decide +kernel
theorem dX4_init_6 : decode cX4_init 6 = .ok (.putfield 7, 3) := by decide +kernel
theorem dX4_init_9 : decode cX4_init 9 = .ok (.aload_n 0, 1) := by decide +kernel
theorem dX4_init_10 : decode cX4_init 10 = .ok (.iload_n 2, 1) := by decide +kernel
theorem dX4_init_11 : decode cX4_init 11 = .ok (.putfield 13, 3) := by decide +kernel
theorem dX4_init_14 : decode cX4_init 14 = .ok (.return_, 1) := by decide +kernel
theorem dX8_init_0 : decode cX8_init 0 = .ok (.aload_n 0, 1) := by decide +kernel
theorem dX8_init_1 : decode cX8_init 1 = .ok (.invokespecial 3, 3) := by decide +kernel
theorem dX8_init_4 : decode cX8_init 4 = .ok (.aload_n 0, 1) := by decide +kernel
theorem dX8_init_5 : decode cX8_init 5 = .ok (.bipush 16, 2) := by decide +kernel
theorem dX8_init_7 : decode cX8_init 7 = .ok (.newarray .int, 2) := by decide +kernel
theorem dX8_init_9 : decode cX8_init 9 = .ok (.putfield 11, 3) := by decide +kernel
theorem dX8_init_12 : decode cX8_init 12 = .ok (.aload_n 0, 1) := by decide +kernel
theorem dX8_init_13 : decode cX8_init 13 = .ok (.bipush 16, 2) := by decide +kernel
theorem dX8_init_15 : decode cX8_init 15 = .ok (.newarray .int, 2) := by decide +kernel
theorem dX8_init_17 : decode cX8_init 17 = .ok (.putfield 15, 3) := by decide +kernel
theorem dX8_init_20 : decode cX8_init 20 = .ok (.aload_n 0, 1) := by decide +kernel
theorem dX8_init_21 : decode cX8_init 21 = .ok (.iconst 0, 1) := by decide +kernel
theorem dX8_init_22 : decode cX8_init 22 = .ok (.putfield 18, 3) := by decide +kernel
theorem dX8_init_25 : decode cX8_init 25 = .ok (.aload_n 0, 1) := by decide +kernel
theorem dX8_init_26 : decode cX8_init 26 = .ok (.iconst (-1), 1) := by decide +kernel
theorem dX8_init_27 : decode cX8_init 27 = .ok (.putfield 22, 3) := by decide +kernel
theorem dX8_init_30 : decode cX8_init 30 = .ok (.aload_n 0, 1) := by decide +kernel
theorem dX8_init_31 : decode cX8_init 31 = .ok (.bipush 6, 2) := by decide +kernel
theorem dX8_init_33 : decode cX8_init 33 = .ok (.newarray .int, 2) := by decide +kernel
theorem dX8_init_35 : decode cX8_init 35 = .ok (.putfield 25, 3) := by decide +kernel
theorem dX8_init_38 : decode cX8_init 38 = .ok (.aload_n 0, 1) := by decide +kernel
theorem dX8_init_39 : decode cX8_init 39 = .ok (.bipush 6, 2) := by decide +kernel
theorem dX8_init_41 : decode cX8_init 41 = .ok (.newarray .int, 2) := by decide +kernel
theorem dX8_init_43 : decode cX8_init 43 = .ok (.putfield 28, 3) := by decide +kernel
theorem dX8_init_46 : decode cX8_init 46 = .ok (.aload_n 0, 1) := by decide +kernel
theorem dX8_init_47 : decode cX8_init 47 = .ok (.getfield 28, 3) := by decide +kernel
theorem dX8_init_50 : decode cX8_init 50 = .ok (.sipush 900, 3) := by decide +kernel
theorem dX8_init_53 : decode cX8_init 53 = .ok (.invokestatic 31, 3) := by decide +kernel
theorem dX8_init_56 : decode cX8_init 56 = .ok (.return_, 1) := by decide +kernel
theorem dX8_addLoss_0 : decode cX8_addLoss 0 = .ok (.aload_n 0, 1) := by decide +kernel
theorem dX8_addLoss_1 : decode cX8_addLoss 1 = .ok (.getfield 37, 3) := by decide +kernel
theorem dX8_addLoss_4 : decode cX8_addLoss 4 = .ok (.ifCond .eq 18, 3) := by decide +kernel
theorem dX8_addLoss_7 : decode cX8_addLoss 7 = .ok (.aload_n 0, 1) := by decide +kernel
theorem dX8_addLoss_8 : decode cX8_addLoss 8 = .ok (.getfield 11, 3) := by decide +kernel
theorem dX8_addLoss_11 : decode cX8_addLoss 11 = .ok (.aload_n 0, 1) := by decide +kernel
theorem dX8_addLoss_12 : decode cX8_addLoss 12 = .ok (.getfield 37, 3) := by decide +kernel
theorem dX8_addLoss_15 : decode cX8_addLoss 15 = .ok (.iconst 1, 1) := by decide +kernel
theorem dX8_addLoss_16 : decode cX8_addLoss 16 = .ok (.isub, 1) := by decide +kernel
theorem dX8_addLoss_17 : decode cX8_addLoss 17 = .ok (.iaload, 1) := by decide +kernel
theorem dX8_addLoss_18 : decode cX8_addLoss 18 = .ok (.iload_n 1, 1) := by decide +kernel
theorem dX8_addLoss_19 : decode cX8_addLoss 19 = .ok (.if_icmp .ge 7, 3) := by decide +kernel
theorem dX8_addLoss_22 : decode cX8_addLoss 22 = .ok (.iconst 1, 1) := by decide +kernel
theorem dX8_addLoss_23 : decode cX8_addLoss 23 = .ok (.goto 4, 3) := by decide +kernel
theorem dX8_addLoss_26 : decode cX8_addLoss 26 = .ok (.iconst 0, 1) := by decide +kernel
theorem dX8_addLoss_27 : decode cX8_addLoss 27 = .ok (.istore_n 3, 1) := by decide +kernel
theorem dX8_addLoss_28 : decode cX8_addLoss 28 = .ok (.aload_n 0, 1) := by decide +kernel
theorem dX8_addLoss_29 : decode cX8_addLoss 29 = .ok (.getfield 37, 3) := by decide +kernel
theorem dX8_addLoss_32 : decode cX8_addLoss 32 = .ok (.bipush 16, 2) := by decide +kernel
theorem dX8_addLoss_34 : decode cX8_addLoss 34 = .ok (.if_icmp .ge 18, 3) := by decide +kernel
theorem dX8_addLoss_37 : decode cX8_addLoss 37 = .ok (.iload_n 3, 1) := by decide +kernel
theorem dX8_addLoss_38 : decode cX8_addLoss 38 = .ok (.ifCond .eq 14, 3) := by decide +kernel
theorem dX8_addLoss_41 : decode cX8_addLoss 41 = .ok (.iload_n 2, 1) := by decide +kernel
theorem dX8_addLoss_42 : decode cX8_addLoss 42 = .ok (.iconst 0, 1) := by decide +kernel
theorem dX8_addLoss_43 : decode cX8_addLoss 43 = .ok (.sipush 900, 3) := by decide +kernel
theorem dX8_addLoss_46 : decode cX8_addLoss 46 = .ok (.invokestatic 40, 3) := by decide +kernel
theorem dX8_addLoss_49 : decode cX8_addLoss 49 = .ok (.ifCond .ne 5, 3) := by decide +kernel
theorem dX8_addLoss_52 : decode cX8_addLoss 52 = .ok (.iconst (-1), 1) := by decide +kernel
theorem dX8_addLoss_53 : decode cX8_addLoss 53 = .ok (.ireturn, 1) := by decide +kernel
theorem dX8_addLoss_54 : decode cX8_addLoss 54 = .ok (.aload_n 0, 1) := by decide +kernel
theorem dX8_addLoss_55 : decode cX8_addLoss 55 = .ok (.getfield 11, 3) := by decide +kernel
theorem dX8_addLoss_58 : decode cX8_addLoss 58 = .ok (.aload_n 0, 1) := by decide +kernel
theorem dX8_addLoss_59 : decode cX8_addLoss 59 = .ok (.getfield 37, 3) := by decide +kernel
theorem dX8_addLoss_62 : decode cX8_addLoss 62 = .ok (.iload_n 1, 1) := by decide +kernel
theorem dX8_addLoss_63 : decode cX8_addLoss 63 = .ok (.iastore, 1) := by decide +kernel
theorem dX8_addLoss_64 : decode cX8_addLoss 64 = .ok (.aload_n 0, 1) := by decide +kernel
theorem dX8_addLoss_65 : decode cX8_addLoss 65 = .ok (.getfield 15, 3) := by decide +kernel
theorem dX8_addLoss_68 : decode cX8_addLoss 68 = .ok (.aload_n 0, 1) := by decide +kernel
theorem dX8_addLoss_69 : decode cX8_addLoss 69 = .ok (.getfield 37, 3) := by decide +kernel
theorem dX8_addLoss_72 : decode cX8_addLoss 72 = .ok (.iload_n 2, 1) := by decide +kernel
theorem dX8_addLoss_73 : decode cX8_addLoss 73 = .ok (.iastore, 1) := by decide +kernel
theorem dX8_addLoss_74 : decode cX8_addLoss 74 = .ok (.aload_n 0, 1) := by decide +kernel
theorem dX8_addLoss_75 : decode cX8_addLoss 75 = .ok (.dup, 1) := by decide +kernel
theorem dX8_addLoss_76 : decode cX8_addLoss 76 = .ok (.getfield 37, 3) := by decide +kernel
theorem dX8_addLoss_79 : decode cX8_addLoss 79 = .ok (.iconst 1, 1) := by decide +kernel
theorem dX8_addLoss_80 : decode cX8_addLoss 80 = .ok (.iadd, 1) := by decide +kernel
theorem dX8_addLoss_81 : decode cX8_addLoss 81 = .ok (.putfield 37, 3) := by decide +kernel
theorem dX8_addLoss_84 : decode cX8_addLoss 84 = .ok (.aload_n 0, 1) := by decide +kernel
theorem dX8_addLoss_85 : decode cX8_addLoss 85 = .ok (.getfield 37, 3) := by decide +kernel
theorem dX8_addLoss_88 : decode cX8_addLoss 88 = .ok (.ireturn, 1) := by decide +kernel
theorem dX9_init_0 : decode cX9_init 0 = .ok (.aload_n 0, 1) := by decide +kernel
theorem dX9_init_1 : decode cX9_init 1 = .ok (.invokespecial 3, 3) := by decide +kernel
theorem dX9_init_4 : decode cX9_init 4 = .ok (.aload_n 0, 1) := by decide +kernel
theorem dX9_init_5 : decode cX9_init 5 = .ok (.sipush 450, 3) := by decide +kernel
theorem dX9_init_8 : decode cX9_init 8 = .ok (.putfield 9, 3) := by decide +kernel
theorem dX9_init_11 : decode cX9_init 11 = .ok (.aload_n 0, 1) := by decide +kernel
theorem dX9_init_12 : decode cX9_init 12 = .ok (.sipush 270, 3) := by decide +kernel
theorem dX9_init_15 : decode cX9_init 15 = .ok (.putfield 15, 3) := by decide +kernel
theorem dX9_init_18 : decode cX9_init 18 = .ok (.aload_n 0, 1) := by decide +kernel
theorem dX9_init_19 : decode cX9_init 19 = .ok (.sipush 310, 3) := by decide +kernel
theorem dX9_init_22 : decode cX9_init 22 = .ok (.putfield 18, 3) := by decide +kernel
theorem dX9_init_25 : decode cX9_init 25 = .ok (.aload_n 0, 1) := by decide +kernel
theorem dX9_init_26 : decode cX9_init 26 = .ok (.sipush 320, 3) := by decide +kernel
theorem dX9_init_29 : decode cX9_init 29 = .ok (.putfield 21, 3) := by decide +kernel
theorem dX9_init_32 : decode cX9_init 32 = .ok (.aload_n 0, 1) := by decide +kernel
theorem dX9_init_33 : decode cX9_init 33 = .ok (.sipush 290, 3) := by decide +kernel
theorem dX9_init_36 : decode cX9_init 36 = .ok (.putfield 24, 3) := by decide +kernel
theorem dX9_init_39 : decode cX9_init 39 = .ok (.aload_n 0, 1) := by decide +kernel
theorem dX9_init_40 : decode cX9_init 40 = .ok (.iconst 2, 1) := by decide +kernel
theorem dX9_init_41 : decode cX9_init 41 = .ok (.putfield 27, 3) := by decide +kernel
theorem dX9_init_44 : decode cX9_init 44 = .ok (.return_, 1) := by decide +kernel
theorem dX9_change_0 : decode cX9_change 0 = .ok (.iload_n 1, 1) := by decide +kernel
theorem dX9_change_1 : decode cX9_change 1 = .ok (.aload_n 0, 1) := by decide +kernel
theorem dX9_change_2 : decode cX9_change 2 = .ok (.getfield 9, 3) := by decide +kernel
theorem dX9_change_5 : decode cX9_change 5 = .ok (.if_icmp .ne 41, 3) := by decide +kernel
theorem dX9_change_8 : decode cX9_change 8 = .ok (.iload_n 2, 1) := by decide +kernel
theorem dX9_change_9 : decode cX9_change 9 = .ok (.aload_n 0, 1) := by decide +kernel
theorem dX9_change_10 : decode cX9_change 10 = .ok (.getfield 15, 3) := by decide +kernel
theorem dX9_change_13 : decode cX9_change 13 = .ok (.if_icmp .ne 33, 3) := by decide +kernel
theorem dX9_change_16 : decode cX9_change 16 = .ok (.iload_n 3, 1) := by decide +kernel
theorem dX9_change_17 : decode cX9_change 17 = .ok (.aload_n 0, 1) := by decide +kernel
theorem dX9_change_18 : decode cX9_change 18 = .ok (.getfield 18, 3) := by decide +kernel
theorem dX9_change_21 : decode cX9_change 21 = .ok (.if_icmp .ne 25, 3) := by decide +kernel
theorem dX9_change_24 : decode cX9_change 24 = .ok (.iload 4, 2) := by decide +kernel
theorem dX9_change_26 : decode cX9_change 26 = .ok (.aload_n 0, 1) := by decide +kernel
theorem dX9_change_27 : decode cX9_change 27 = .ok (.getfield 21, 3) := by decide +kernel
theorem dX9_change_30 : decode cX9_change 30 = .ok (.if_icmp .ne 16, 3) := by decide +kernel
theorem dX9_change_33 : decode cX9_change 33 = .ok (.iload 5, 2) := by decide +kernel
theorem dX9_change_35 : decode cX9_change 35 = .ok (.aload_n 0, 1) := by decide +kernel
theorem dX9_change_36 : decode cX9_change 36 = .ok (.getfield 24, 3) := by decide +kernel
theorem dX9_change_39 : decode cX9_change 39 = .ok (.if_icmp .ne 7, 3) := by decide +kernel
theorem dX9_change_42 : decode cX9_change 42 = .ok (.iconst 1, 1) := by decide +kernel
theorem dX9_change_43 : decode cX9_change 43 = .ok (.goto 4, 3) := by decide +kernel
theorem dX9_change_46 : decode cX9_change 46 = .ok (.iconst 0, 1) := by decide +kernel
theorem dX9_change_47 : decode cX9_change 47 = .ok (.istore 7, 2) := by decide +kernel
theorem dX9_change_49 : decode cX9_change 49 = .ok (.iload 7, 2) := by decide +kernel
theorem dX9_change_51 : decode cX9_change 51 = .ok (.ifCond .eq 14, 3) := by decide +kernel
theorem dX9_change_54 : decode cX9_change 54 = .ok (.iload 6, 2) := by decide +kernel
theorem dX9_change_56 : decode cX9_change 56 = .ok (.aload_n 0, 1) := by decide +kernel
theorem dX9_change_57 : decode cX9_change 57 = .ok (.getfield 27, 3) := by decide +kernel
theorem dX9_change_60 : decode cX9_change 60 = .ok (.if_icmp .ne 5, 3) := by decide +kernel
theorem dX9_change_63 : decode cX9_change 63 = .ok (.iconst 0, 1) := by decide +kernel
theorem dX9_change_64 : decode cX9_change 64 = .ok (.ireturn, 1) := by decide +kernel
theorem dX9_change_65 : decode cX9_change 65 = .ok (.aload_n 0, 1) := by decide +kernel
theorem dX9_change_66 : decode cX9_change 66 = .ok (.iload_n 1, 1) := by decide +kernel
theorem dX9_change_67 : decode cX9_change 67 = .ok (.putfield 9, 3) := by decide +kernel
theorem dX9_change_70 : decode cX9_change 70 = .ok (.aload_n 0, 1) := by decide +kernel
theorem dX9_change_71 : decode cX9_change 71 = .ok (.iload_n 2, 1) := by decide +kernel
theorem dX9_change_72 : decode cX9_change 72 = .ok (.putfield 15, 3) := by decide +kernel
theorem dX9_change_75 : decode cX9_change 75 = .ok (.aload_n 0, 1) := by decide +kernel
theorem dX9_change_76 : decode cX9_change 76 = .ok (.iload_n 3, 1) := by decide +kernel
theorem dX9_change_77 : decode cX9_change 77 = .ok (.putfield 18, 3) := by decide +kernel
theorem dX9_change_80 : decode cX9_change 80 = .ok (.aload_n 0, 1) := by decide +kernel
theorem dX9_change_81 : decode cX9_change 81 = .ok (.iload 4, 2) := by decide +kernel
theorem dX9_change_83 : decode cX9_change 83 = .ok (.putfield 21, 3) := by decide +kernel
theorem dX9_change_86 : decode cX9_change 86 = .ok (.aload_n 0, 1) := by decide +kernel
theorem dX9_change_87 : decode cX9_change 87 = .ok (.iload 5, 2) := by decide +kernel
theorem dX9_change_89 : decode cX9_change 89 = .ok (.putfield 24, 3) := by decide +kernel
theorem dX9_change_92 : decode cX9_change 92 = .ok (.aload_n 0, 1) := by decide +kernel
theorem dX9_change_93 : decode cX9_change 93 = .ok (.iload 6, 2) := by decide +kernel
theorem dX9_change_95 : decode cX9_change 95 = .ok (.putfield 27, 3) := by decide +kernel
theorem dX9_change_98 : decode cX9_change 98 = .ok (.iconst 1, 1) := by decide +kernel
theorem dX9_change_99 : decode cX9_change 99 = .ok (.ireturn, 1) := by decide +kernel
theorem dX3_init_0 : decode cX3_init 0 = .ok (.aload_n 0, 1) := by decide +kernel
theorem dX3_init_1 : decode cX3_init 1 = .ok (.invokespecial 3, 3) := by decide +kernel
theorem dX3_init_4 : decode cX3_init 4 = .ok (.aload_n 0, 1) := by decide +kernel
theorem dX3_init_5 : decode cX3_init 5 = .ok (.bipush 36, 2) := by decide +kernel
theorem dX3_init_7 : decode cX3_init 7 = .ok (.newarray .int, 2) := by decide +kernel
theorem dX3_init_9 : decode cX3_init 9 = .ok (.putfield 9, 3) := by decide +kernel
theorem dX3_init_12 : decode cX3_init 12 = .ok (.aload_n 0, 1) := by decide +kernel
theorem dX3_init_13 : decode cX3_init 13 = .ok (.bipush 10, 2) := by decide +kernel
theorem dX3_init_15 : decode cX3_init 15 = .ok (.newarray .int, 2) := by decide +kernel
theorem dX3_init_17 : decode cX3_init 17 = .ok (.putfield 15, 3) := by decide +kernel
theorem dX3_init_20 : decode cX3_init 20 = .ok (.aload_n 0, 1) := by decide +kernel
theorem dX3_init_21 : decode cX3_init 21 = .ok (.bipush 10, 2) := by decide +kernel
theorem dX3_init_23 : decode cX3_init 23 = .ok (.newarray .int, 2) := by decide +kernel
theorem dX3_init_25 : decode cX3_init 25 = .ok (.putfield 18, 3) := by decide +kernel
theorem dX3_init_28 : decode cX3_init 28 = .ok (.aload_n 0, 1) := by decide +kernel
theorem dX3_init_29 : decode cX3_init 29 = .ok (.bipush 10, 2) := by decide +kernel
theorem dX3_init_31 : decode cX3_init 31 = .ok (.newarray .int, 2) := by decide +kernel
theorem dX3_init_33 : decode cX3_init 33 = .ok (.putfield 21, 3) := by decide +kernel
theorem dX3_init_36 : decode cX3_init 36 = .ok (.aload_n 0, 1) := by decide +kernel
theorem dX3_init_37 : decode cX3_init 37 = .ok (.bipush 10, 2) := by decide +kernel
theorem dX3_init_39 : decode cX3_init 39 = .ok (.newarray .boolean, 2) := by decide +kernel
theorem dX3_init_41 : decode cX3_init 41 = .ok (.putfield 24, 3) := by decide +kernel
theorem dX3_init_44 : decode cX3_init 44 = .ok (.aload_n 0, 1) := by decide +kernel
theorem dX3_init_45 : decode cX3_init 45 = .ok (.bipush 6, 2) := by decide +kernel
theorem dX3_init_47 : decode cX3_init 47 = .ok (.newarray .int, 2) := by decide +kernel
theorem dX3_init_49 : decode cX3_init 49 = .ok (.putfield 28, 3) := by decide +kernel
theorem dX3_init_52 : decode cX3_init 52 = .ok (.aload_n 0, 1) := by decide +kernel
theorem dX3_init_53 : decode cX3_init 53 = .ok (.bipush 6, 2) := by decide +kernel
theorem dX3_init_55 : decode cX3_init 55 = .ok (.newarray .int, 2) := by decide +kernel
theorem dX3_init_57 : decode cX3_init 57 = .ok (.putfield 31, 3) := by decide +kernel
theorem dX3_init_60 : decode cX3_init 60 = .ok (.aload_n 0, 1) := by decide +kernel
theorem dX3_init_61 : decode cX3_init 61 = .ok (.bipush 6, 2) := by decide +kernel
theorem dX3_init_63 : decode cX3_init 63 = .ok (.newarray .int, 2) := by decide +kernel
theorem dX3_init_65 : decode cX3_init 65 = .ok (.putfield 34, 3) := by decide +kernel
theorem dX3_init_68 : decode cX3_init 68 = .ok (.return_, 1) := by decide +kernel
theorem dX3_setWashing_0 : decode cX3_setWashing 0 = .ok (.aload_n 0, 1) := by decide +kernel
theorem dX3_setWashing_1 : decode cX3_setWashing 1 = .ok (.getfield 9, 3) := by decide +kernel
theorem dX3_setWashing_4 : decode cX3_setWashing 4 = .ok (.iload_n 1, 1) := by decide +kernel
theorem dX3_setWashing_5 : decode cX3_setWashing 5 = .ok (.bipush 6, 2) := by decide +kernel
theorem dX3_setWashing_7 : decode cX3_setWashing 7 = .ok (.imul, 1) := by decide +kernel
theorem dX3_setWashing_8 : decode cX3_setWashing 8 = .ok (.iload_n 2, 1) := by decide +kernel
theorem dX3_setWashing_9 : decode cX3_setWashing 9 = .ok (.iadd, 1) := by decide +kernel
theorem dX3_setWashing_10 : decode cX3_setWashing 10 = .ok (.iload_n 3, 1) := by decide +kernel
theorem dX3_setWashing_11 : decode cX3_setWashing 11 = .ok (.iastore, 1) := by decide +kernel
theorem dX3_setWashing_12 : decode cX3_setWashing 12 = .ok (.aload_n 0, 1) := by decide +kernel
theorem dX3_setWashing_13 : decode cX3_setWashing 13 = .ok (.iconst 0, 1) := by decide +kernel
theorem dX3_setWashing_14 : decode cX3_setWashing 14 = .ok (.putfield 37, 3) := by decide +kernel
theorem dX3_setWashing_17 : decode cX3_setWashing 17 = .ok (.return_, 1) := by decide +kernel
theorem dX3_empty_0 : decode cX3_empty 0 = .ok (.aload_n 0, 1) := by decide +kernel
theorem dX3_empty_1 : decode cX3_empty 1 = .ok (.iconst 0, 1) := by decide +kernel
theorem dX3_empty_2 : decode cX3_empty 2 = .ok (.putfield 41, 3) := by decide +kernel
theorem dX3_empty_5 : decode cX3_empty 5 = .ok (.aload_n 0, 1) := by decide +kernel
theorem dX3_empty_6 : decode cX3_empty 6 = .ok (.iconst 0, 1) := by decide +kernel
theorem dX3_empty_7 : decode cX3_empty 7 = .ok (.putfield 37, 3) := by decide +kernel
theorem dX3_empty_10 : decode cX3_empty 10 = .ok (.return_, 1) := by decide +kernel
theorem dX3_findOrder_0 : decode cX3_findOrder 0 = .ok (.aload_n 0, 1) := by decide +kernel
theorem dX3_findOrder_1 : decode cX3_findOrder 1 = .ok (.getfield 37, 3) := by decide +kernel
theorem dX3_findOrder_4 : decode cX3_findOrder 4 = .ok (.ifCond .eq 12, 3) := by decide +kernel
theorem dX3_findOrder_7 : decode cX3_findOrder 7 = .ok (.aload_n 0, 1) := by decide +kernel
theorem dX3_findOrder_8 : decode cX3_findOrder 8 = .ok (.getfield 45, 3) := by decide +kernel
theorem dX3_findOrder_11 : decode cX3_findOrder 11 = .ok (.iload_n 1, 1) := by decide +kernel
theorem dX3_findOrder_12 : decode cX3_findOrder 12 = .ok (.if_icmp .ne 4, 3) := by decide +kernel
theorem dX3_findOrder_15 : decode cX3_findOrder 15 = .ok (.return_, 1) := by decide +kernel
theorem dX3_findOrder_16 : decode cX3_findOrder 16 = .ok (.aload_n 0, 1) := by decide +kernel
theorem dX3_findOrder_17 : decode cX3_findOrder 17 = .ok (.iconst 0, 1) := by decide +kernel
theorem dX3_findOrder_18 : decode cX3_findOrder 18 = .ok (.putfield 48, 3) := by decide +kernel
theorem dX3_findOrder_21 : decode cX3_findOrder 21 = .ok (.aload_n 0, 1) := by decide +kernel
theorem dX3_findOrder_22 : decode cX3_findOrder 22 = .ok (.getfield 41, 3) := by decide +kernel
theorem dX3_findOrder_25 : decode cX3_findOrder 25 = .ok (.ifCond .le 22, 3) := by decide +kernel
theorem dX3_findOrder_28 : decode cX3_findOrder 28 = .ok (.aload_n 0, 1) := by decide +kernel
theorem dX3_findOrder_29 : decode cX3_findOrder 29 = .ok (.invokevirtual 51, 3) := by decide +kernel
theorem dX3_findOrder_32 : decode cX3_findOrder 32 = .ok (.istore_n 2, 1) := by decide +kernel
theorem dX3_findOrder_33 : decode cX3_findOrder 33 = .ok (.aload_n 0, 1) := by decide +kernel
theorem dX3_findOrder_34 : decode cX3_findOrder 34 = .ok (.iload_n 2, 1) := by decide +kernel
theorem dX3_findOrder_35 : decode cX3_findOrder 35 = .ok (.iload_n 1, 1) := by decide +kernel
theorem dX3_findOrder_36 : decode cX3_findOrder 36 = .ok (.invokevirtual 55, 3) := by decide +kernel
theorem dX3_findOrder_39 : decode cX3_findOrder 39 = .ok (.aload_n 0, 1) := by decide +kernel
theorem dX3_findOrder_40 : decode cX3_findOrder 40 = .ok (.iload_n 2, 1) := by decide +kernel
theorem dX3_findOrder_41 : decode cX3_findOrder 41 = .ok (.iconst 1, 1) := by decide +kernel
theorem dX3_findOrder_42 : decode cX3_findOrder 42 = .ok (.isub, 1) := by decide +kernel
theorem dX3_findOrder_43 : decode cX3_findOrder 43 = .ok (.iload_n 1, 1) := by decide +kernel
theorem dX3_findOrder_44 : decode cX3_findOrder 44 = .ok (.invokevirtual 59, 3) := by decide +kernel
theorem dX3_findOrder_47 : decode cX3_findOrder 47 = .ok (.aload_n 0, 1) := by decide +kernel
theorem dX3_findOrder_48 : decode cX3_findOrder 48 = .ok (.iconst 1, 1) := by decide +kernel
theorem dX3_findOrder_49 : decode cX3_findOrder 49 = .ok (.putfield 37, 3) := by decide +kernel
theorem dX3_findOrder_52 : decode cX3_findOrder 52 = .ok (.aload_n 0, 1) := by decide +kernel
theorem dX3_findOrder_53 : decode cX3_findOrder 53 = .ok (.iload_n 1, 1) := by decide +kernel
theorem dX3_findOrder_54 : decode cX3_findOrder 54 = .ok (.putfield 45, 3) := by decide +kernel
theorem dX3_findOrder_57 : decode cX3_findOrder 57 = .ok (.return_, 1) := by decide +kernel
theorem dX2_init_0 : decode cX2_init 0 = .ok (.aload_n 0, 1) := by decide +kernel
theorem dX2_init_1 : decode cX2_init 1 = .ok (.invokespecial 3, 3) := by decide +kernel
theorem dX2_init_4 : decode cX2_init 4 = .ok (.aload_n 0, 1) := by decide +kernel
theorem dX2_init_5 : decode cX2_init 5 = .ok (.bipush 40, 2) := by decide +kernel
theorem dX2_init_7 : decode cX2_init 7 = .ok (.newarray .int, 2) := by decide +kernel
theorem dX2_init_9 : decode cX2_init 9 = .ok (.putfield 9, 3) := by decide +kernel
theorem dX2_init_12 : decode cX2_init 12 = .ok (.aload_n 0, 1) := by decide +kernel
theorem dX2_init_13 : decode cX2_init 13 = .ok (.bipush 40, 2) := by decide +kernel
theorem dX2_init_15 : decode cX2_init 15 = .ok (.newarray .int, 2) := by decide +kernel
theorem dX2_init_17 : decode cX2_init 17 = .ok (.putfield 15, 3) := by decide +kernel
theorem dX2_init_20 : decode cX2_init 20 = .ok (.aload_n 0, 1) := by decide +kernel
theorem dX2_init_21 : decode cX2_init 21 = .ok (.bipush 40, 2) := by decide +kernel
theorem dX2_init_23 : decode cX2_init 23 = .ok (.newarray .boolean, 2) := by decide +kernel
theorem dX2_init_25 : decode cX2_init 25 = .ok (.putfield 18, 3) := by decide +kernel
theorem dX2_init_28 : decode cX2_init 28 = .ok (.return_, 1) := by decide +kernel
theorem dX2_choose_0 : decode cX2_choose 0 = .ok (.aload_n 0, 1) := by decide +kernel
theorem dX2_choose_1 : decode cX2_choose 1 = .ok (.invokevirtual 26, 3) := by decide +kernel
theorem dX2_choose_4 : decode cX2_choose 4 = .ok (.iload_n 1, 1) := by decide +kernel
theorem dX2_choose_5 : decode cX2_choose 5 = .ok (.if_icmp .ge 5, 3) := by decide +kernel
theorem dX2_choose_8 : decode cX2_choose 8 = .ok (.iconst (-1), 1) := by decide +kernel
theorem dX2_choose_9 : decode cX2_choose 9 = .ok (.ireturn, 1) := by decide +kernel
theorem dX2_choose_10 : decode cX2_choose 10 = .ok (.iload_n 1, 1) := by decide +kernel
theorem dX2_choose_11 : decode cX2_choose 11 = .ok (.iload_n 2, 1) := by decide +kernel
theorem dX2_choose_12 : decode cX2_choose 12 = .ok (.iadd, 1) := by decide +kernel
theorem dX2_choose_13 : decode cX2_choose 13 = .ok (.sipush 8511, 3) := by decide +kernel
theorem dX2_choose_16 : decode cX2_choose 16 = .ok (.invokestatic 30, 3) := by decide +kernel
theorem dX2_choose_19 : decode cX2_choose 19 = .ok (.istore_n 3, 1) := by decide +kernel
theorem dX2_choose_20 : decode cX2_choose 20 = .ok (.aload_n 0, 1) := by decide +kernel
theorem dX2_choose_21 : decode cX2_choose 21 = .ok (.iload_n 3, 1) := by decide +kernel
theorem dX2_choose_22 : decode cX2_choose 22 = .ok (.invokevirtual 36, 3) := by decide +kernel
theorem dX2_choose_25 : decode cX2_choose 25 = .ok (.iload_n 1, 1) := by decide +kernel
theorem dX2_choose_26 : decode cX2_choose 26 = .ok (.iconst 0, 1) := by decide +kernel
theorem dX2_choose_27 : decode cX2_choose 27 = .ok (.invokestatic 40, 3) := by decide +kernel
theorem dX2_choose_30 : decode cX2_choose 30 = .ok (.istore 4, 2) := by decide +kernel
theorem dX2_choose_32 : decode cX2_choose 32 = .ok (.iload 4, 2) := by decide +kernel
theorem dX2_choose_34 : decode cX2_choose 34 = .ok (.iload_n 3, 1) := by decide +kernel
theorem dX2_choose_35 : decode cX2_choose 35 = .ok (.if_icmp .gt 28, 3) := by decide +kernel
theorem dX2_choose_38 : decode cX2_choose 38 = .ok (.aload_n 0, 1) := by decide +kernel
theorem dX2_choose_39 : decode cX2_choose 39 = .ok (.iconst 0, 1) := by decide +kernel
theorem dX2_choose_40 : decode cX2_choose 40 = .ok (.iload 4, 2) := by decide +kernel
theorem dX2_choose_42 : decode cX2_choose 42 = .ok (.invokevirtual 43, 3) := by decide +kernel
theorem dX2_choose_45 : decode cX2_choose 45 = .ok (.ifCond .eq 12, 3) := by decide +kernel
theorem dX2_choose_48 : decode cX2_choose 48 = .ok (.aload_n 0, 1) := by decide +kernel
theorem dX2_choose_49 : decode cX2_choose 49 = .ok (.iload 4, 2) := by decide +kernel
theorem dX2_choose_51 : decode cX2_choose 51 = .ok (.invokevirtual 47, 3) := by decide +kernel
theorem dX2_choose_54 : decode cX2_choose 54 = .ok (.iload 4, 2) := by decide +kernel
theorem dX2_choose_56 : decode cX2_choose 56 = .ok (.ireturn, 1) := by decide +kernel
theorem dX2_choose_57 : decode cX2_choose 57 = .ok (.iinc 4 1, 3) := by decide +kernel
theorem dX2_choose_60 : decode cX2_choose 60 = .ok (.goto (-28), 3) := by decide +kernel
theorem dX2_choose_63 : decode cX2_choose 63 = .ok (.iconst (-1), 1) := by decide +kernel
theorem dX2_choose_64 : decode cX2_choose 64 = .ok (.ireturn, 1) := by decide +kernel
theorem dX2_total_0 : decode cX2_total 0 = .ok (.iconst 0, 1) := by decide +kernel
theorem dX2_total_1 : decode cX2_total 1 = .ok (.istore_n 1, 1) := by decide +kernel
theorem dX2_total_2 : decode cX2_total 2 = .ok (.iconst 0, 1) := by decide +kernel
theorem dX2_total_3 : decode cX2_total 3 = .ok (.istore_n 2, 1) := by decide +kernel
theorem dX2_total_4 : decode cX2_total 4 = .ok (.iload_n 2, 1) := by decide +kernel
theorem dX2_total_5 : decode cX2_total 5 = .ok (.aload_n 0, 1) := by decide +kernel
theorem dX2_total_6 : decode cX2_total 6 = .ok (.getfield 22, 3) := by decide +kernel
theorem dX2_total_9 : decode cX2_total 9 = .ok (.if_icmp .ge 18, 3) := by decide +kernel
theorem dX2_total_12 : decode cX2_total 12 = .ok (.iload_n 1, 1) := by decide +kernel
theorem dX2_total_13 : decode cX2_total 13 = .ok (.aload_n 0, 1) := by decide +kernel
theorem dX2_total_14 : decode cX2_total 14 = .ok (.getfield 15, 3) := by decide +kernel
theorem dX2_total_17 : decode cX2_total 17 = .ok (.iload_n 2, 1) := by decide +kernel
theorem dX2_total_18 : decode cX2_total 18 = .ok (.iaload, 1) := by decide +kernel
theorem dX2_total_19 : decode cX2_total 19 = .ok (.iadd, 1) := by decide +kernel
theorem dX2_total_20 : decode cX2_total 20 = .ok (.istore_n 1, 1) := by decide +kernel
theorem dX2_total_21 : decode cX2_total 21 = .ok (.iinc 2 1, 3) := by decide +kernel
theorem dX2_total_24 : decode cX2_total 24 = .ok (.goto (-20), 3) := by decide +kernel
theorem dX2_total_27 : decode cX2_total 27 = .ok (.iload_n 1, 1) := by decide +kernel
theorem dX2_total_28 : decode cX2_total 28 = .ok (.ireturn, 1) := by decide +kernel
theorem dX5_init_0 : decode cX5_init 0 = .ok (.aload_n 0, 1) := by decide +kernel
theorem dX5_init_1 : decode cX5_init 1 = .ok (.invokespecial 3, 3) := by decide +kernel
theorem dX5_init_4 : decode cX5_init 4 = .ok (.aload_n 0, 1) := by decide +kernel
theorem dX5_init_5 : decode cX5_init 5 = .ok (.bipush 14, 2) := by decide +kernel
theorem dX5_init_7 : decode cX5_init 7 = .ok (.newarray .int, 2) := by decide +kernel
theorem dX5_init_9 : decode cX5_init 9 = .ok (.putfield 9, 3) := by decide +kernel
theorem dX5_init_12 : decode cX5_init 12 = .ok (.return_, 1) := by decide +kernel
theorem dX5_mostBoxes_0 : decode cX5_mostBoxes 0 = .ok (.aload_n 0, 1) := by decide +kernel
theorem dX5_mostBoxes_1 : decode cX5_mostBoxes 1 = .ok (.iload_n 2, 1) := by decide +kernel
theorem dX5_mostBoxes_2 : decode cX5_mostBoxes 2 = .ok (.putfield 15, 3) := by decide +kernel
theorem dX5_mostBoxes_5 : decode cX5_mostBoxes 5 = .ok (.aload_n 0, 1) := by decide +kernel
theorem dX5_mostBoxes_6 : decode cX5_mostBoxes 6 = .ok (.iload_n 2, 1) := by decide +kernel
theorem dX5_mostBoxes_7 : decode cX5_mostBoxes 7 = .ok (.iload_n 3, 1) := by decide +kernel
theorem dX5_mostBoxes_8 : decode cX5_mostBoxes 8 = .ok (.iadd, 1) := by decide +kernel
theorem dX5_mostBoxes_9 : decode cX5_mostBoxes 9 = .ok (.putfield 19, 3) := by decide +kernel
theorem dX5_mostBoxes_12 : decode cX5_mostBoxes 12 = .ok (.aload_n 0, 1) := by decide +kernel
theorem dX5_mostBoxes_13 : decode cX5_mostBoxes 13 = .ok (.iconst 0, 1) := by decide +kernel
theorem dX5_mostBoxes_14 : decode cX5_mostBoxes 14 = .ok (.putfield 22, 3) := by decide +kernel
theorem dX5_mostBoxes_17 : decode cX5_mostBoxes 17 = .ok (.iconst 0, 1) := by decide +kernel
theorem dX5_mostBoxes_18 : decode cX5_mostBoxes 18 = .ok (.istore 4, 2) := by decide +kernel
theorem dX5_mostBoxes_20 : decode cX5_mostBoxes 20 = .ok (.aload_n 1, 1) := by decide +kernel
theorem dX5_mostBoxes_21 : decode cX5_mostBoxes 21 = .ok (.getfield 25, 3) := by decide +kernel
theorem dX5_mostBoxes_24 : decode cX5_mostBoxes 24 = .ok (.bipush 14, 2) := by decide +kernel
theorem dX5_mostBoxes_26 : decode cX5_mostBoxes 26 = .ok (.invokestatic 28, 3) := by decide +kernel
theorem dX5_mostBoxes_29 : decode cX5_mostBoxes 29 = .ok (.istore 5, 2) := by decide +kernel
theorem dX5_mostBoxes_31 : decode cX5_mostBoxes 31 = .ok (.iconst 0, 1) := by decide +kernel
theorem dX5_mostBoxes_32 : decode cX5_mostBoxes 32 = .ok (.istore 6, 2) := by decide +kernel
theorem dX5_mostBoxes_34 : decode cX5_mostBoxes 34 = .ok (.iload 6, 2) := by decide +kernel
theorem dX5_mostBoxes_36 : decode cX5_mostBoxes 36 = .ok (.iload 5, 2) := by decide +kernel
theorem dX5_mostBoxes_38 : decode cX5_mostBoxes 38 = .ok (.if_icmp .ge 32, 3) := by decide +kernel
theorem dX5_mostBoxes_41 : decode cX5_mostBoxes 41 = .ok (.aload_n 0, 1) := by decide +kernel
theorem dX5_mostBoxes_42 : decode cX5_mostBoxes 42 = .ok (.aload_n 1, 1) := by decide +kernel
theorem dX5_mostBoxes_43 : decode cX5_mostBoxes 43 = .ok (.getfield 34, 3) := by decide +kernel
theorem dX5_mostBoxes_46 : decode cX5_mostBoxes 46 = .ok (.iload 6, 2) := by decide +kernel
theorem dX5_mostBoxes_48 : decode cX5_mostBoxes 48 = .ok (.iaload, 1) := by decide +kernel
theorem dX5_mostBoxes_49 : decode cX5_mostBoxes 49 = .ok (.invokevirtual 35, 3) := by decide +kernel
theorem dX5_mostBoxes_52 : decode cX5_mostBoxes 52 = .ok (.iload 4, 2) := by decide +kernel
theorem dX5_mostBoxes_54 : decode cX5_mostBoxes 54 = .ok (.aload_n 1, 1) := by decide +kernel
theorem dX5_mostBoxes_55 : decode cX5_mostBoxes 55 = .ok (.getfield 34, 3) := by decide +kernel
theorem dX5_mostBoxes_58 : decode cX5_mostBoxes 58 = .ok (.iload 6, 2) := by decide +kernel
theorem dX5_mostBoxes_60 : decode cX5_mostBoxes 60 = .ok (.iaload, 1) := by decide +kernel
theorem dX5_mostBoxes_61 : decode cX5_mostBoxes 61 = .ok (.iadd, 1) := by decide +kernel
theorem dX5_mostBoxes_62 : decode cX5_mostBoxes 62 = .ok (.istore 4, 2) := by decide +kernel
theorem dX5_mostBoxes_64 : decode cX5_mostBoxes 64 = .ok (.iinc 6 1, 3) := by decide +kernel
theorem dX5_mostBoxes_67 : decode cX5_mostBoxes 67 = .ok (.goto (-33), 3) := by decide +kernel
theorem dX5_mostBoxes_70 : decode cX5_mostBoxes 70 = .ok (.iload 4, 2) := by decide +kernel
theorem dX5_mostBoxes_72 : decode cX5_mostBoxes 72 = .ok (.aload_n 0, 1) := by decide +kernel
theorem dX5_mostBoxes_73 : decode cX5_mostBoxes 73 = .ok (.getfield 15, 3) := by decide +kernel
theorem dX5_mostBoxes_76 : decode cX5_mostBoxes 76 = .ok (.if_icmp .ge 5, 3) := by decide +kernel
theorem dX5_mostBoxes_79 : decode cX5_mostBoxes 79 = .ok (.iconst 0, 1) := by decide +kernel
theorem dX5_mostBoxes_80 : decode cX5_mostBoxes 80 = .ok (.ireturn, 1) := by decide +kernel
theorem dX5_mostBoxes_81 : decode cX5_mostBoxes 81 = .ok (.aload_n 0, 1) := by decide +kernel
theorem dX5_mostBoxes_82 : decode cX5_mostBoxes 82 = .ok (.invokevirtual 39, 3) := by decide +kernel
theorem dX5_mostBoxes_85 : decode cX5_mostBoxes 85 = .ok (.aload_n 0, 1) := by decide +kernel
theorem dX5_mostBoxes_86 : decode cX5_mostBoxes 86 = .ok (.iconst 1, 1) := by decide +kernel
theorem dX5_mostBoxes_87 : decode cX5_mostBoxes 87 = .ok (.aload_n 0, 1) := by decide +kernel
theorem dX5_mostBoxes_88 : decode cX5_mostBoxes 88 = .ok (.getfield 22, 3) := by decide +kernel
theorem dX5_mostBoxes_91 : decode cX5_mostBoxes 91 = .ok (.ishl, 1) := by decide +kernel
theorem dX5_mostBoxes_92 : decode cX5_mostBoxes 92 = .ok (.iconst 1, 1) := by decide +kernel
theorem dX5_mostBoxes_93 : decode cX5_mostBoxes 93 = .ok (.isub, 1) := by decide +kernel
theorem dX5_mostBoxes_94 : decode cX5_mostBoxes 94 = .ok (.iload 4, 2) := by decide +kernel
theorem dX5_mostBoxes_96 : decode cX5_mostBoxes 96 = .ok (.invokevirtual 42, 3) := by decide +kernel
theorem dX5_mostBoxes_99 : decode cX5_mostBoxes 99 = .ok (.ireturn, 1) := by decide +kernel
theorem dJ7_fill_53178_0 : decode cJ7_fill_53178 0 = .ok (.iconst 0, 1) := by decide +kernel
theorem dJ7_fill_53178_1 : decode cJ7_fill_53178 1 = .ok (.istore_n 2, 1) := by decide +kernel
theorem dJ7_fill_53178_2 : decode cJ7_fill_53178 2 = .ok (.aload_n 0, 1) := by decide +kernel
theorem dJ7_fill_53178_3 : decode cJ7_fill_53178 3 = .ok (.arraylength, 1) := by decide +kernel
theorem dJ7_fill_53178_4 : decode cJ7_fill_53178 4 = .ok (.istore_n 3, 1) := by decide +kernel
theorem dJ7_fill_53178_5 : decode cJ7_fill_53178 5 = .ok (.iload_n 2, 1) := by decide +kernel
theorem dJ7_fill_53178_6 : decode cJ7_fill_53178 6 = .ok (.iload_n 3, 1) := by decide +kernel
theorem dJ7_fill_53178_7 : decode cJ7_fill_53178 7 = .ok (.if_icmp .ge 13, 3) := by decide +kernel
theorem dJ7_fill_53178_10 : decode cJ7_fill_53178 10 = .ok (.aload_n 0, 1) := by decide +kernel
theorem dJ7_fill_53178_11 : decode cJ7_fill_53178 11 = .ok (.iload_n 2, 1) := by decide +kernel
theorem dJ7_fill_53178_12 : decode cJ7_fill_53178 12 = .ok (.iload_n 1, 1) := by decide +kernel
theorem dJ7_fill_53178_13 : decode cJ7_fill_53178 13 = .ok (.iastore, 1) := by decide +kernel
theorem dJ7_fill_53178_14 : decode cJ7_fill_53178 14 = .ok (.iinc 2 1, 3) := by decide +kernel
theorem dJ7_fill_53178_17 : decode cJ7_fill_53178 17 = .ok (.goto (-12), 3) := by decide +kernel
theorem dJ7_fill_53178_20 : decode cJ7_fill_53178 20 = .ok (.return_, 1) := by decide +kernel
